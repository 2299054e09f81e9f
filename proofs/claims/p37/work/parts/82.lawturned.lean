theorem kT_num (l : Launch) (X : XT) (b tr hi sl sf : Nat) (hc : Int32) (h hp hq n : Nat) (P Q : Nat → Int32) (w : Nat) (f ll : Int32) (hg hgn z : Nat) (F : Nat → Int32) (ar0 lf gl : Int64) (i j : Nat) (a b1 c1 d1 : Int) (hij : i < j) (hj : j < n) (hn : n ≤ 4) (hw : w = 1 ∨ w = 2) (hV : VP P Q n) (hL : LV f ll) (ha : ow w a) (hb1 : ow w b1) (hc1 : ow w c1) (hd1 : ow w d1) (hab : a ≠ 0 ∨ b1 ≠ 0) (hcd : c1 ≠ 0 ∨ d1 ≠ 0) : KLx l yX2_squareNumerator wsX2_squareNumerator ({ frames := 3, cells := 0, slots := 0, locals := 73 }) X [.ref b, .int (nI i), .int (nI j), .int (iI a), .int (iI b1), .int (iI c1), .int (iI d1)] [(b, .inr (2, [.ref h, .ref tr, .ref hi, .ref sl, .ref sf, .ref hg, .int hc])), (h, .inr (1, [.ref hp, .ref hq, .int (nI n), .int (nI w), .int f, .int ll])), (hp, .inl (X.2.1, 4, .inl (P))), (hq, .inl (X.2.1, 4, .inl (Q))), (hg, .inr (0, [.ref hgn, .int (nI z), .long ar0, .long lf, .long gl])), (hgn, .inl (X.2.1, 144, .inl (F)))] (fun u : GD => [(b, .inr (2, [.ref h, .ref tr, .ref hi, .ref sl, .ref sf, .ref hg, .int hc])), (h, .inr (1, [.ref hp, .ref hq, .int (nI n), .int (nI w), .int f, .int ll])), (hp, .inl (X.2.1, 4, .inl (P))), (hq, .inl (X.2.1, 4, .inl (Q))), (hg, .inr (0, [.ref hgn, .int (nI u.1), .long u.2.2.1, .long u.2.2.2.1, .long u.2.2.2.2])), (hgn, .inl (X.2.1, 144, .inl (u.2.1)))]) (fun _ => True) (lN (upN (nN P Q i j a b1 c1 d1) (aP P Q i j))) := by
  have h1 := kX2_squareNumerator_ok l X b tr hi sl sf hc h hp hq n P Q w f ll hg hgn z F ar0 lf gl i j (iI a) (iI b1) (iI c1) (iI d1) hij hj hn ((fp_iI hw ha hb1).mpr hab) ((fp_iI hw hc1 hd1).mpr hcd)
  rw [(tu_n hV (show i < n by omega) hj hw ha hb1 hc1 hd1).1, aP_lN hV (show i < n by omega) hj, (ud_n (tu_n hV (show i < n by omega) hj hw ha hb1 hc1 hd1).2 (aP_bd hV (show i < n by omega) hj)).1] at h1
  exact h1

theorem kT_den (l : Launch) (X : XT) (b tr hi sl sf : Nat) (hc : Int32) (h hp hq n : Nat) (P Q : Nat → Int32) (w : Nat) (f ll : Int32) (hg hgn z : Nat) (F : Nat → Int32) (ar0 lf gl : Int64) (i j : Nat) (a b1 c1 d1 : Int) (hij : i < j) (hj : j < n) (hn : n ≤ 4) (hw : w = 1 ∨ w = 2) (hV : VP P Q n) (hL : LV f ll) (ha : ow w a) (hb1 : ow w b1) (hc1 : ow w c1) (hd1 : ow w d1) (hab : a ≠ 0 ∨ b1 ≠ 0) (hcd : c1 ≠ 0 ∨ d1 ≠ 0) : KLx l yX2_squareDenominator wsX2_squareDenominator ({ frames := 3, cells := 0, slots := 0, locals := 73 }) X [.ref b, .int (nI i), .int (nI j), .int (iI a), .int (iI b1), .int (iI c1), .int (iI d1)] [(b, .inr (2, [.ref h, .ref tr, .ref hi, .ref sl, .ref sf, .ref hg, .int hc])), (h, .inr (1, [.ref hp, .ref hq, .int (nI n), .int (nI w), .int f, .int ll])), (hp, .inl (X.2.1, 4, .inl (P))), (hq, .inl (X.2.1, 4, .inl (Q))), (hg, .inr (0, [.ref hgn, .int (nI z), .long ar0, .long lf, .long gl])), (hgn, .inl (X.2.1, 144, .inl (F)))] (fun u : GD => [(b, .inr (2, [.ref h, .ref tr, .ref hi, .ref sl, .ref sf, .ref hg, .int hc])), (h, .inr (1, [.ref hp, .ref hq, .int (nI n), .int (nI w), .int f, .int ll])), (hp, .inl (X.2.1, 4, .inl (P))), (hq, .inl (X.2.1, 4, .inl (Q))), (hg, .inr (0, [.ref hgn, .int (nI u.1), .long u.2.2.1, .long u.2.2.2.1, .long u.2.2.2.2])), (hgn, .inl (X.2.1, 144, .inl (u.2.1)))]) (fun _ => True) (lN (dnN (nN P Q i j a b1 c1 d1) (aP P Q i j))) := by
  have h1 := kX2_squareDenominator_ok l X b tr hi sl sf hc h hp hq n P Q w f ll hg hgn z F ar0 lf gl i j (iI a) (iI b1) (iI c1) (iI d1) hij hj hn ((fp_iI hw ha hb1).mpr hab) ((fp_iI hw hc1 hd1).mpr hcd)
  rw [(tu_n hV (show i < n by omega) hj hw ha hb1 hc1 hd1).1, aP_lN hV (show i < n by omega) hj, (ud_n (tu_n hV (show i < n by omega) hj hw ha hb1 hc1 hd1).2 (aP_bd hV (show i < n by omega) hj)).2.1] at h1
  exact h1

theorem kT_knd (l : Launch) (X : XT) (b tr hi sl sf : Nat) (hc : Int32) (h hp hq n : Nat) (P Q : Nat → Int32) (w : Nat) (f ll : Int32) (hg hgn z : Nat) (F : Nat → Int32) (ar0 lf gl : Int64) (i j : Nat) (a b1 c1 d1 : Int) (hij : i < j) (hj : j < n) (hn : n ≤ 4) (hw : w = 1 ∨ w = 2) (hV : VP P Q n) (hL : LV f ll) (ha : ow w a) (hb1 : ow w b1) (hc1 : ow w c1) (hd1 : ow w d1) (hab : a ≠ 0 ∨ b1 ≠ 0) (hcd : c1 ≠ 0 ∨ d1 ≠ 0) : KIx l yX2_kind wsX2_kind ({ frames := 3, cells := 0, slots := 0, locals := 73 }) X [.ref b, .int (nI i), .int (nI j), .int (iI a), .int (iI b1), .int (iI c1), .int (iI d1)] [(b, .inr (2, [.ref h, .ref tr, .ref hi, .ref sl, .ref sf, .ref hg, .int hc])), (h, .inr (1, [.ref hp, .ref hq, .int (nI n), .int (nI w), .int f, .int ll])), (hp, .inl (X.2.1, 4, .inl (P))), (hq, .inl (X.2.1, 4, .inl (Q))), (hg, .inr (0, [.ref hgn, .int (nI z), .long ar0, .long lf, .long gl])), (hgn, .inl (X.2.1, 144, .inl (F)))] (fun u : GD => [(b, .inr (2, [.ref h, .ref tr, .ref hi, .ref sl, .ref sf, .ref hg, .int hc])), (h, .inr (1, [.ref hp, .ref hq, .int (nI n), .int (nI w), .int f, .int ll])), (hp, .inl (X.2.1, 4, .inl (P))), (hq, .inl (X.2.1, 4, .inl (Q))), (hg, .inr (0, [.ref hgn, .int (nI u.1), .long u.2.2.1, .long u.2.2.2.1, .long u.2.2.2.2])), (hgn, .inl (X.2.1, 144, .inl (u.2.1)))]) (fun _ => True) (nI (kb (aP P Q i j) f ll (nN P Q i j a b1 c1 d1))) := by
  have h1 := kX2_kind_ok l X b tr hi sl sf hc h hp hq n P Q w f ll hg hgn z F ar0 lf gl i j (iI a) (iI b1) (iI c1) (iI d1) hij hj hn ((fp_iI hw ha hb1).mpr hab) ((fp_iI hw hc1 hd1).mpr hcd)
  rw [(tu_n hV (show i < n by omega) hj hw ha hb1 hc1 hd1).1, aP_lN hV (show i < n by omega) hj, kdI_k hL (by have := (aP_bd hV (show i < n by omega) hj); omega) (by have := (tu_n hV (show i < n by omega) hj hw ha hb1 hc1 hd1).2; omega)] at h1
  exact h1

set_option maxHeartbeats 4000000 in
set_option maxRecDepth 100000 in
theorem kL_turned (l : Launch) (X : XT) (b tr hi sl sf : Nat) (hc : Int32) (h hp hq n : Nat) (P Q : Nat → Int32) (w : Nat) (f ll : Int32) (hg hgn z : Nat) (F : Nat → Int32) (ar0 lf gl : Int64) (i j : Nat) (x : Int32) (hij : i < j) (hj : j < n) (hn : n ≤ 4) (hw : w = 1 ∨ w = 2) (hV : VP P Q n) (hL : LV f ll) : KIx l yL_turned wsL_turned ({ frames := 4, cells := 0, slots := 0, locals := 99 }) X [.ref b, .int (nI i), .int (nI j), .int (nI w), .int x] [(b, .inr (2, [.ref h, .ref tr, .ref hi, .ref sl, .ref sf, .ref hg, .int hc])), (h, .inr (1, [.ref hp, .ref hq, .int (nI n), .int (nI w), .int f, .int ll])), (hp, .inl (X.2.1, 4, .inl (P))), (hq, .inl (X.2.1, 4, .inl (Q))), (hg, .inr (0, [.ref hgn, .int (nI z), .long ar0, .long lf, .long gl])), (hgn, .inl (X.2.1, 144, .inl (F)))] (fun u : GD => [(b, .inr (2, [.ref h, .ref tr, .ref hi, .ref sl, .ref sf, .ref hg, .int hc])), (h, .inr (1, [.ref hp, .ref hq, .int (nI n), .int (nI w), .int f, .int ll])), (hp, .inl (X.2.1, 4, .inl (P))), (hq, .inl (X.2.1, 4, .inl (Q))), (hg, .inr (0, [.ref hgn, .int (nI u.1), .long u.2.2.1, .long u.2.2.2.1, .long u.2.2.2.2])), (hgn, .inl (X.2.1, 144, .inl (u.2.1)))]) (fun _ => True) (1) := by
  have hiN : i < n := by omega
  have hA := aP_bd hV hiN hj
  refine k_ofIx (cc := cL_turned) (own := RL) (maxL := 15) (ret := (some .boolean)) (ls0 := [(0, .ref b), (1, .int (nI i)), (2, .int (nI j)), (3, .int (nI w)), (4, .int x)]) (by decide) rfl rfl (Nat.le_of_ble_eq_true rfl) rfl ?_
  intro p e s m args below meth c A g C hr hlk
  refine s_iload C (pc := 0) dL_turned_0 4 rfl ?_
  refine s_iconst C (pc := 2) (v := 2) dL_turned_2 (by decide) ?_
  refine s_iload_n C (pc := 3) dL_turned_3 rfl 3 rfl ?_
  refine s_imul C (pc := 4) dL_turned_4 ?_
  refine s_top C (y := nI (2 * w)) (pk_mul 2 w) ?_
  refine s_iconst C (pc := 5) (v := 1) dL_turned_5 (by decide) ?_
  refine s_iadd C (pc := 6) dL_turned_6 ?_
  refine s_top C (y := nI ((2 * w) + 1)) (nI_add _ _) ?_
  refine s_calli C (pc := 7) (wr := [(b, .inr (2, [.ref h, .ref tr, .ref hi, .ref sl, .ref sf, .ref hg, .int hc])), (h, .inr (1, [.ref hp, .ref hq, .int (nI n), .int (nI w), .int f, .int ll])), (hp, .inl (X.2.1, 4, .inl (P))), (hq, .inl (X.2.1, 4, .inl (Q))), (hg, .inr (0, [.ref hgn, .int (nI z), .long ar0, .long lf, .long gl])), (hgn, .inl (X.2.1, 144, .inl (F)))]) (wc' := []) (wn := [(b, .inr (2, [.ref h, .ref tr, .ref hi, .ref sl, .ref sf, .ref hg, .int hc])), (h, .inr (1, [.ref hp, .ref hq, .int (nI n), .int (nI w), .int f, .int ll])), (hp, .inl (X.2.1, 4, .inl (P))), (hq, .inl (X.2.1, 4, .inl (Q))), (hg, .inr (0, [.ref hgn, .int (nI z), .long ar0, .long lf, .long gl])), (hgn, .inl (X.2.1, 144, .inl (F)))]) (r_S C (As := [.int x, .int (nI ((2 * w) + 1))]) (rest := []) (kL_low l X x ((2 * w) + 1) (by first | assumption | omega | decide) (by first | assumption | omega | decide)) (va_cwS 2 C.ts gL_turned_L_low rfl rfl rfl (by decide +kernel) ⟨Nat.le_of_ble_eq_true rfl, Nat.le_of_ble_eq_true rfl⟩) [] (by decide) rfl rfl (Nat.le_of_ble_eq_true rfl) rfl dL_turned_7 ⟨Nat.zero_le _, Nat.zero_le _⟩) [] [0, 1, 2, 3, 4, 5] [0, 1, 2, 3, 4, 5] rfl rfl (by decide) (by decide) (by decide) rfl ?_
  refine s_iload_n C (pc := 10) dL_turned_10 rfl 3 rfl ?_
  refine s_isub C (pc := 11) dL_turned_11 ?_
  obtain ⟨za, e_za, o_za⟩ := tu_lo x hw
  refine s_top C (y := iI za) e_za ?_
  refine s_istore C (pc := 12) (ls' := [(5, .int (iI za)), (0, .ref b), (1, .int (nI i)), (2, .int (nI j)), (3, .int (nI w)), (4, .int x)]) dL_turned_12 (by decide) rfl ?_
  refine s_iload C (pc := 14) dL_turned_14 5 rfl ?_
  refine s_iconst C (pc := 16) (v := 3) dL_turned_16 (by decide) ?_
  refine s_ishr C (pc := 17) dL_turned_17 ?_
  refine s_iconst C (pc := 18) (v := 2) dL_turned_18 (by decide) ?_
  refine s_iload_n C (pc := 19) dL_turned_19 rfl 4 rfl ?_
  refine s_imul C (pc := 20) dL_turned_20 ?_
  refine s_top C (y := nI (2 * w)) (pk_mul 2 w) ?_
  refine s_iconst C (pc := 21) (v := 1) dL_turned_21 (by decide) ?_
  refine s_iadd C (pc := 22) dL_turned_22 ?_
  refine s_top C (y := nI ((2 * w) + 1)) (nI_add _ _) ?_
  refine s_calli C (pc := 23) (wr := [(b, .inr (2, [.ref h, .ref tr, .ref hi, .ref sl, .ref sf, .ref hg, .int hc])), (h, .inr (1, [.ref hp, .ref hq, .int (nI n), .int (nI w), .int f, .int ll])), (hp, .inl (X.2.1, 4, .inl (P))), (hq, .inl (X.2.1, 4, .inl (Q))), (hg, .inr (0, [.ref hgn, .int (nI z), .long ar0, .long lf, .long gl])), (hgn, .inl (X.2.1, 144, .inl (F)))]) (wc' := []) (wn := [(b, .inr (2, [.ref h, .ref tr, .ref hi, .ref sl, .ref sf, .ref hg, .int hc])), (h, .inr (1, [.ref hp, .ref hq, .int (nI n), .int (nI w), .int f, .int ll])), (hp, .inl (X.2.1, 4, .inl (P))), (hq, .inl (X.2.1, 4, .inl (Q))), (hg, .inr (0, [.ref hgn, .int (nI z), .long ar0, .long lf, .long gl])), (hgn, .inl (X.2.1, 144, .inl (F)))]) (r_S C (As := [.int (x >>> (3 &&& 31)), .int (nI ((2 * w) + 1))]) (rest := []) (kL_low l X (x >>> (3 &&& 31)) ((2 * w) + 1) (by first | assumption | omega | decide) (by first | assumption | omega | decide)) (va_cwS 2 C.ts gL_turned_L_low rfl rfl rfl (by decide +kernel) ⟨Nat.le_of_ble_eq_true rfl, Nat.le_of_ble_eq_true rfl⟩) [] (by decide) rfl rfl (Nat.le_of_ble_eq_true rfl) rfl dL_turned_23 ⟨Nat.zero_le _, Nat.zero_le _⟩) [] [0, 1, 2, 3, 4, 5] [0, 1, 2, 3, 4, 5] rfl rfl (by decide) (by decide) (by decide) rfl ?_
  refine s_iload_n C (pc := 26) dL_turned_26 rfl 4 rfl ?_
  refine s_isub C (pc := 27) dL_turned_27 ?_
  obtain ⟨zb, e_zb, o_zb⟩ := tu_lo (x >>> ((3 : Int32) &&& 31)) hw
  refine s_top C (y := iI zb) e_zb ?_
  refine s_istore C (pc := 28) (ls' := [(6, .int (iI zb)), (5, .int (iI za)), (0, .ref b), (1, .int (nI i)), (2, .int (nI j)), (3, .int (nI w)), (4, .int x)]) dL_turned_28 (by decide) rfl ?_
  refine s_iload C (pc := 30) dL_turned_30 6 rfl ?_
  refine s_bipush C (pc := 32) (v := 6) dL_turned_32 (by decide) ?_
  refine s_ishr C (pc := 34) dL_turned_34 ?_
  refine s_iconst C (pc := 35) (v := 2) dL_turned_35 (by decide) ?_
  refine s_iload_n C (pc := 36) dL_turned_36 rfl 5 rfl ?_
  refine s_imul C (pc := 37) dL_turned_37 ?_
  refine s_top C (y := nI (2 * w)) (pk_mul 2 w) ?_
  refine s_iconst C (pc := 38) (v := 1) dL_turned_38 (by decide) ?_
  refine s_iadd C (pc := 39) dL_turned_39 ?_
  refine s_top C (y := nI ((2 * w) + 1)) (nI_add _ _) ?_
  refine s_calli C (pc := 40) (wr := [(b, .inr (2, [.ref h, .ref tr, .ref hi, .ref sl, .ref sf, .ref hg, .int hc])), (h, .inr (1, [.ref hp, .ref hq, .int (nI n), .int (nI w), .int f, .int ll])), (hp, .inl (X.2.1, 4, .inl (P))), (hq, .inl (X.2.1, 4, .inl (Q))), (hg, .inr (0, [.ref hgn, .int (nI z), .long ar0, .long lf, .long gl])), (hgn, .inl (X.2.1, 144, .inl (F)))]) (wc' := []) (wn := [(b, .inr (2, [.ref h, .ref tr, .ref hi, .ref sl, .ref sf, .ref hg, .int hc])), (h, .inr (1, [.ref hp, .ref hq, .int (nI n), .int (nI w), .int f, .int ll])), (hp, .inl (X.2.1, 4, .inl (P))), (hq, .inl (X.2.1, 4, .inl (Q))), (hg, .inr (0, [.ref hgn, .int (nI z), .long ar0, .long lf, .long gl])), (hgn, .inl (X.2.1, 144, .inl (F)))]) (r_S C (As := [.int (x >>> (6 &&& 31)), .int (nI ((2 * w) + 1))]) (rest := []) (kL_low l X (x >>> (6 &&& 31)) ((2 * w) + 1) (by first | assumption | omega | decide) (by first | assumption | omega | decide)) (va_cwS 2 C.ts gL_turned_L_low rfl rfl rfl (by decide +kernel) ⟨Nat.le_of_ble_eq_true rfl, Nat.le_of_ble_eq_true rfl⟩) [] (by decide) rfl rfl (Nat.le_of_ble_eq_true rfl) rfl dL_turned_40 ⟨Nat.zero_le _, Nat.zero_le _⟩) [] [0, 1, 2, 3, 4, 5] [0, 1, 2, 3, 4, 5] rfl rfl (by decide) (by decide) (by decide) rfl ?_
  refine s_iload_n C (pc := 43) dL_turned_43 rfl 5 rfl ?_
  refine s_isub C (pc := 44) dL_turned_44 ?_
  obtain ⟨zc, e_zc, o_zc⟩ := tu_lo (x >>> ((6 : Int32) &&& 31)) hw
  refine s_top C (y := iI zc) e_zc ?_
  refine s_istore C (pc := 45) (ls' := [(7, .int (iI zc)), (6, .int (iI zb)), (5, .int (iI za)), (0, .ref b), (1, .int (nI i)), (2, .int (nI j)), (3, .int (nI w)), (4, .int x)]) dL_turned_45 (by decide) rfl ?_
  refine s_iload C (pc := 47) dL_turned_47 7 rfl ?_
  refine s_bipush C (pc := 49) (v := 9) dL_turned_49 (by decide) ?_
  refine s_ishr C (pc := 51) dL_turned_51 ?_
  refine s_iconst C (pc := 52) (v := 2) dL_turned_52 (by decide) ?_
  refine s_iload_n C (pc := 53) dL_turned_53 rfl 6 rfl ?_
  refine s_imul C (pc := 54) dL_turned_54 ?_
  refine s_top C (y := nI (2 * w)) (pk_mul 2 w) ?_
  refine s_iconst C (pc := 55) (v := 1) dL_turned_55 (by decide) ?_
  refine s_iadd C (pc := 56) dL_turned_56 ?_
  refine s_top C (y := nI ((2 * w) + 1)) (nI_add _ _) ?_
  refine s_calli C (pc := 57) (wr := [(b, .inr (2, [.ref h, .ref tr, .ref hi, .ref sl, .ref sf, .ref hg, .int hc])), (h, .inr (1, [.ref hp, .ref hq, .int (nI n), .int (nI w), .int f, .int ll])), (hp, .inl (X.2.1, 4, .inl (P))), (hq, .inl (X.2.1, 4, .inl (Q))), (hg, .inr (0, [.ref hgn, .int (nI z), .long ar0, .long lf, .long gl])), (hgn, .inl (X.2.1, 144, .inl (F)))]) (wc' := []) (wn := [(b, .inr (2, [.ref h, .ref tr, .ref hi, .ref sl, .ref sf, .ref hg, .int hc])), (h, .inr (1, [.ref hp, .ref hq, .int (nI n), .int (nI w), .int f, .int ll])), (hp, .inl (X.2.1, 4, .inl (P))), (hq, .inl (X.2.1, 4, .inl (Q))), (hg, .inr (0, [.ref hgn, .int (nI z), .long ar0, .long lf, .long gl])), (hgn, .inl (X.2.1, 144, .inl (F)))]) (r_S C (As := [.int (x >>> (9 &&& 31)), .int (nI ((2 * w) + 1))]) (rest := []) (kL_low l X (x >>> (9 &&& 31)) ((2 * w) + 1) (by first | assumption | omega | decide) (by first | assumption | omega | decide)) (va_cwS 2 C.ts gL_turned_L_low rfl rfl rfl (by decide +kernel) ⟨Nat.le_of_ble_eq_true rfl, Nat.le_of_ble_eq_true rfl⟩) [] (by decide) rfl rfl (Nat.le_of_ble_eq_true rfl) rfl dL_turned_57 ⟨Nat.zero_le _, Nat.zero_le _⟩) [] [0, 1, 2, 3, 4, 5] [0, 1, 2, 3, 4, 5] rfl rfl (by decide) (by decide) (by decide) rfl ?_
  refine s_iload_n C (pc := 60) dL_turned_60 rfl 6 rfl ?_
  refine s_isub C (pc := 61) dL_turned_61 ?_
  obtain ⟨zd, e_zd, o_zd⟩ := tu_lo (x >>> ((9 : Int32) &&& 31)) hw
  refine s_top C (y := iI zd) e_zd ?_
  refine s_istore C (pc := 62) (ls' := [(8, .int (iI zd)), (7, .int (iI zc)), (6, .int (iI zb)), (5, .int (iI za)), (0, .ref b), (1, .int (nI i)), (2, .int (nI j)), (3, .int (nI w)), (4, .int x)]) dL_turned_62 (by decide) rfl ?_
  by_cases hz : (za ≠ 0 ∨ zb ≠ 0) ∧ (zc ≠ 0 ∨ zd ≠ 0)
  · skip
    refine s_aload_n C (pc := 64) dL_turned_64 rfl 4 rfl ?_
    refine s_iload_n C (pc := 65) dL_turned_65 rfl 5 rfl ?_
    refine s_iload_n C (pc := 66) dL_turned_66 rfl 6 rfl ?_
    refine s_iload C (pc := 67) dL_turned_67 3 rfl ?_
    refine s_iload C (pc := 69) dL_turned_69 2 rfl ?_
    refine s_iload C (pc := 71) dL_turned_71 1 rfl ?_
    refine s_iload C (pc := 73) dL_turned_73 0 rfl ?_
    refine s_calllX C (pc := 75) (wr := []) (wc' := (fun u75_1 : GD => [(b, .inr (2, [.ref h, .ref tr, .ref hi, .ref sl, .ref sf, .ref hg, .int hc])), (h, .inr (1, [.ref hp, .ref hq, .int (nI n), .int (nI w), .int f, .int ll])), (hp, .inl (X.2.1, 4, .inl (P))), (hq, .inl (X.2.1, 4, .inl (Q))), (hg, .inr (0, [.ref hgn, .int (nI u75_1.1), .long u75_1.2.2.1, .long u75_1.2.2.2.1, .long u75_1.2.2.2.2])), (hgn, .inl (X.2.1, 144, .inl (u75_1.2.1)))])) (wn := (fun u75_1 : GD => [(b, .inr (2, [.ref h, .ref tr, .ref hi, .ref sl, .ref sf, .ref hg, .int hc])), (h, .inr (1, [.ref hp, .ref hq, .int (nI n), .int (nI w), .int f, .int ll])), (hp, .inl (X.2.1, 4, .inl (P))), (hq, .inl (X.2.1, 4, .inl (Q))), (hg, .inr (0, [.ref hgn, .int (nI u75_1.1), .long u75_1.2.2.1, .long u75_1.2.2.2.1, .long u75_1.2.2.2.2])), (hgn, .inl (X.2.1, 144, .inl (u75_1.2.1)))])) (r_V C (As := [.int (nI i), .int (nI j), .int (iI za), .int (iI zb), .int (iI zc), .int (iI zd)]) (rest := []) (kT_num l X b tr hi sl sf hc h hp hq n P Q w f ll hg hgn z F ar0 lf gl i j za zb zc zd (by first | assumption | omega | decide) (by first | assumption | omega | decide) (by first | assumption | omega | decide) (by first | assumption | omega | decide) (by first | assumption | omega | decide) (by first | assumption | omega | decide) o_za o_zb o_zc o_zd hz.1 hz.2) (cwV 6 C.ts gL_turned_X2_squareNumerator rfl rfl rfl (by decide +kernel) ⟨Nat.le_of_ble_eq_true rfl, Nat.le_of_ble_eq_true rfl⟩) (q0 := 0) rfl rfl [0, 1, 2, 3, 4, 5] (by decide) rfl rfl (Nat.le_of_ble_eq_true rfl) rfl dL_turned_75 ⟨Nat.zero_le _, Nat.zero_le _⟩) [0, 1, 2, 3, 4, 5] [] [0, 1, 2, 3, 4, 5] rfl rfl (by decide) (by decide) (by decide) (fun _ => rfl) (fun u75_1 _ => ?_)
    refine s_lstore C (pc := 78) (ls' := [(9, .long (lN (upN (nN P Q i j za zb zc zd) (aP P Q i j)))), (8, .int (iI zd)), (7, .int (iI zc)), (6, .int (iI zb)), (5, .int (iI za)), (0, .ref b), (1, .int (nI i)), (2, .int (nI j)), (3, .int (nI w)), (4, .int x)]) dL_turned_78 (by decide) rfl ?_
    refine s_aload_n C (pc := 80) dL_turned_80 rfl 5 rfl ?_
    refine s_iload_n C (pc := 81) dL_turned_81 rfl 6 rfl ?_
    refine s_iload_n C (pc := 82) dL_turned_82 rfl 7 rfl ?_
    refine s_iload C (pc := 83) dL_turned_83 4 rfl ?_
    refine s_iload C (pc := 85) dL_turned_85 3 rfl ?_
    refine s_iload C (pc := 87) dL_turned_87 2 rfl ?_
    refine s_iload C (pc := 89) dL_turned_89 1 rfl ?_
    refine s_calllX C (pc := 91) (wr := []) (wc' := (fun u91_2 : GD => [(b, .inr (2, [.ref h, .ref tr, .ref hi, .ref sl, .ref sf, .ref hg, .int hc])), (h, .inr (1, [.ref hp, .ref hq, .int (nI n), .int (nI w), .int f, .int ll])), (hp, .inl (X.2.1, 4, .inl (P))), (hq, .inl (X.2.1, 4, .inl (Q))), (hg, .inr (0, [.ref hgn, .int (nI u91_2.1), .long u91_2.2.2.1, .long u91_2.2.2.2.1, .long u91_2.2.2.2.2])), (hgn, .inl (X.2.1, 144, .inl (u91_2.2.1)))])) (wn := (fun u91_2 : GD => [(b, .inr (2, [.ref h, .ref tr, .ref hi, .ref sl, .ref sf, .ref hg, .int hc])), (h, .inr (1, [.ref hp, .ref hq, .int (nI n), .int (nI w), .int f, .int ll])), (hp, .inl (X.2.1, 4, .inl (P))), (hq, .inl (X.2.1, 4, .inl (Q))), (hg, .inr (0, [.ref hgn, .int (nI u91_2.1), .long u91_2.2.2.1, .long u91_2.2.2.2.1, .long u91_2.2.2.2.2])), (hgn, .inl (X.2.1, 144, .inl (u91_2.2.1)))])) (r_V C (As := [.int (nI i), .int (nI j), .int (iI za), .int (iI zb), .int (iI zc), .int (iI zd)]) (rest := []) (kT_den l X b tr hi sl sf hc h hp hq n P Q w f ll hg hgn u75_1.1 u75_1.2.1 u75_1.2.2.1 u75_1.2.2.2.1 u75_1.2.2.2.2 i j za zb zc zd (by first | assumption | omega | decide) (by first | assumption | omega | decide) (by first | assumption | omega | decide) (by first | assumption | omega | decide) (by first | assumption | omega | decide) (by first | assumption | omega | decide) o_za o_zb o_zc o_zd hz.1 hz.2) (cwV 6 C.ts gL_turned_X2_squareDenominator rfl rfl rfl (by decide +kernel) ⟨Nat.le_of_ble_eq_true rfl, Nat.le_of_ble_eq_true rfl⟩) (q0 := 0) rfl rfl [0, 1, 2, 3, 4, 5] (by decide) rfl rfl (Nat.le_of_ble_eq_true rfl) rfl dL_turned_91 ⟨Nat.zero_le _, Nat.zero_le _⟩) [0, 1, 2, 3, 4, 5] [] [0, 1, 2, 3, 4, 5] rfl rfl (by decide) (by decide) (by decide) (fun _ => rfl) (fun u91_2 _ => ?_)
    refine s_lstore C (pc := 94) (ls' := [(11, .long (lN (dnN (nN P Q i j za zb zc zd) (aP P Q i j)))), (9, .long (lN (upN (nN P Q i j za zb zc zd) (aP P Q i j)))), (8, .int (iI zd)), (7, .int (iI zc)), (6, .int (iI zb)), (5, .int (iI za)), (0, .ref b), (1, .int (nI i)), (2, .int (nI j)), (3, .int (nI w)), (4, .int x)]) dL_turned_94 (by decide) rfl ?_
    refine s_aload_n C (pc := 96) dL_turned_96 rfl 6 rfl ?_
    refine s_iload_n C (pc := 97) dL_turned_97 rfl 7 rfl ?_
    refine s_iload_n C (pc := 98) dL_turned_98 rfl 8 rfl ?_
    refine s_iload C (pc := 99) dL_turned_99 5 rfl ?_
    refine s_iload C (pc := 101) dL_turned_101 4 rfl ?_
    refine s_iload C (pc := 103) dL_turned_103 3 rfl ?_
    refine s_iload C (pc := 105) dL_turned_105 2 rfl ?_
    refine s_calliX C (pc := 107) (wr := []) (wc' := (fun u107_3 : GD => [(b, .inr (2, [.ref h, .ref tr, .ref hi, .ref sl, .ref sf, .ref hg, .int hc])), (h, .inr (1, [.ref hp, .ref hq, .int (nI n), .int (nI w), .int f, .int ll])), (hp, .inl (X.2.1, 4, .inl (P))), (hq, .inl (X.2.1, 4, .inl (Q))), (hg, .inr (0, [.ref hgn, .int (nI u107_3.1), .long u107_3.2.2.1, .long u107_3.2.2.2.1, .long u107_3.2.2.2.2])), (hgn, .inl (X.2.1, 144, .inl (u107_3.2.1)))])) (wn := (fun u107_3 : GD => [(b, .inr (2, [.ref h, .ref tr, .ref hi, .ref sl, .ref sf, .ref hg, .int hc])), (h, .inr (1, [.ref hp, .ref hq, .int (nI n), .int (nI w), .int f, .int ll])), (hp, .inl (X.2.1, 4, .inl (P))), (hq, .inl (X.2.1, 4, .inl (Q))), (hg, .inr (0, [.ref hgn, .int (nI u107_3.1), .long u107_3.2.2.1, .long u107_3.2.2.2.1, .long u107_3.2.2.2.2])), (hgn, .inl (X.2.1, 144, .inl (u107_3.2.1)))])) (r_V C (As := [.int (nI i), .int (nI j), .int (iI za), .int (iI zb), .int (iI zc), .int (iI zd)]) (rest := []) (kT_knd l X b tr hi sl sf hc h hp hq n P Q w f ll hg hgn u91_2.1 u91_2.2.1 u91_2.2.2.1 u91_2.2.2.2.1 u91_2.2.2.2.2 i j za zb zc zd (by first | assumption | omega | decide) (by first | assumption | omega | decide) (by first | assumption | omega | decide) (by first | assumption | omega | decide) (by first | assumption | omega | decide) (by first | assumption | omega | decide) o_za o_zb o_zc o_zd hz.1 hz.2) (cwV 6 C.ts gL_turned_X2_kind rfl rfl rfl (by decide +kernel) ⟨Nat.le_of_ble_eq_true rfl, Nat.le_of_ble_eq_true rfl⟩) (q0 := 0) rfl rfl [0, 1, 2, 3, 4, 5] (by decide) rfl rfl (Nat.le_of_ble_eq_true rfl) rfl dL_turned_107 ⟨Nat.zero_le _, Nat.zero_le _⟩) [0, 1, 2, 3, 4, 5] [] [0, 1, 2, 3, 4, 5] rfl rfl (by decide) (by decide) (by decide) (fun _ => rfl) (fun u107_3 _ => ?_)
    refine s_istore C (pc := 110) (ls' := [(13, .int (nI (kb (aP P Q i j) f ll (nN P Q i j za zb zc zd)))), (11, .long (lN (dnN (nN P Q i j za zb zc zd) (aP P Q i j)))), (9, .long (lN (upN (nN P Q i j za zb zc zd) (aP P Q i j)))), (8, .int (iI zd)), (7, .int (iI zc)), (6, .int (iI zb)), (5, .int (iI za)), (0, .ref b), (1, .int (nI i)), (2, .int (nI j)), (3, .int (nI w)), (4, .int x)]) dL_turned_110 (by decide) rfl ?_
    have J137 : ∀ (u : GD), g [(b, .inr (2, [.ref h, .ref tr, .ref hi, .ref sl, .ref sf, .ref hg, .int hc])), (h, .inr (1, [.ref hp, .ref hq, .int (nI n), .int (nI w), .int f, .int ll])), (hp, .inl (X.2.1, 4, .inl (P))), (hq, .inl (X.2.1, 4, .inl (Q))), (hg, .inr (0, [.ref hgn, .int (nI u.1), .long u.2.2.1, .long u.2.2.2.1, .long u.2.2.2.2])), (hgn, .inl (X.2.1, 144, .inl (u.2.1)))] 137 [(13, .int (nI (kb (aP P Q i j) f ll (nN P Q i j za zb zc zd)))), (11, .long (lN (dnN (nN P Q i j za zb zc zd) (aP P Q i j)))), (9, .long (lN (upN (nN P Q i j za zb zc zd) (aP P Q i j)))), (8, .int (iI zd)), (7, .int (iI zc)), (6, .int (iI zb)), (5, .int (iI za)), (0, .ref b), (1, .int (nI i)), (2, .int (nI j)), (3, .int (nI w)), (4, .int x)] [.int 0] := by
      intro u
      refine s_istore C (pc := 137) (ls' := [(14, .int 0), (13, .int (nI (kb (aP P Q i j) f ll (nN P Q i j za zb zc zd)))), (11, .long (lN (dnN (nN P Q i j za zb zc zd) (aP P Q i j)))), (9, .long (lN (upN (nN P Q i j za zb zc zd) (aP P Q i j)))), (8, .int (iI zd)), (7, .int (iI zc)), (6, .int (iI zb)), (5, .int (iI za)), (0, .ref b), (1, .int (nI i)), (2, .int (nI j)), (3, .int (nI w)), (4, .int x)]) dL_turned_137 (by decide) rfl ?_
      refine s_aload_n C (pc := 139) dL_turned_139 rfl 8 rfl ?_
      refine s_iload_n C (pc := 140) dL_turned_140 rfl 9 rfl ?_
      refine s_iload_n C (pc := 141) dL_turned_141 rfl 10 rfl ?_
      refine s_iload C (pc := 142) dL_turned_142 7 rfl ?_
      refine s_ineg C (pc := 144) dL_turned_144 ?_
      refine s_top C (y := iI (-za)) ((iI_neg _)) ?_
      refine s_iload C (pc := 145) dL_turned_145 6 rfl ?_
      refine s_ineg C (pc := 147) dL_turned_147 ?_
      refine s_top C (y := iI (-zb)) ((iI_neg _)) ?_
      refine s_iload C (pc := 148) dL_turned_148 5 rfl ?_
      refine s_ineg C (pc := 150) dL_turned_150 ?_
      refine s_top C (y := iI (-zc)) ((iI_neg _)) ?_
      refine s_iload C (pc := 151) dL_turned_151 4 rfl ?_
      refine s_ineg C (pc := 153) dL_turned_153 ?_
      refine s_top C (y := iI (-zd)) ((iI_neg _)) ?_
      refine s_calllX C (pc := 154) (wr := []) (wc' := (fun u154_4 : GD => [(b, .inr (2, [.ref h, .ref tr, .ref hi, .ref sl, .ref sf, .ref hg, .int hc])), (h, .inr (1, [.ref hp, .ref hq, .int (nI n), .int (nI w), .int f, .int ll])), (hp, .inl (X.2.1, 4, .inl (P))), (hq, .inl (X.2.1, 4, .inl (Q))), (hg, .inr (0, [.ref hgn, .int (nI u154_4.1), .long u154_4.2.2.1, .long u154_4.2.2.2.1, .long u154_4.2.2.2.2])), (hgn, .inl (X.2.1, 144, .inl (u154_4.2.1)))])) (wn := (fun u154_4 : GD => [(b, .inr (2, [.ref h, .ref tr, .ref hi, .ref sl, .ref sf, .ref hg, .int hc])), (h, .inr (1, [.ref hp, .ref hq, .int (nI n), .int (nI w), .int f, .int ll])), (hp, .inl (X.2.1, 4, .inl (P))), (hq, .inl (X.2.1, 4, .inl (Q))), (hg, .inr (0, [.ref hgn, .int (nI u154_4.1), .long u154_4.2.2.1, .long u154_4.2.2.2.1, .long u154_4.2.2.2.2])), (hgn, .inl (X.2.1, 144, .inl (u154_4.2.1)))])) (r_V C (As := [.int (nI i), .int (nI j), .int (iI (-za)), .int (iI (-zb)), .int (iI (-zc)), .int (iI (-zd))]) (rest := []) (kT_num l X b tr hi sl sf hc h hp hq n P Q w f ll hg hgn u.1 u.2.1 u.2.2.1 u.2.2.2.1 u.2.2.2.2 i j (-za) (-zb) (-zc) (-zd) (by first | assumption | omega | decide) (by first | assumption | omega | decide) (by first | assumption | omega | decide) (by first | assumption | omega | decide) (by first | assumption | omega | decide) (by first | assumption | omega | decide) (ow_neg o_za) (ow_neg o_zb) (ow_neg o_zc) (ow_neg o_zd) (by have := hz.1; omega) (by have := hz.2; omega)) (cwV 6 C.ts gL_turned_X2_squareNumerator rfl rfl rfl (by decide +kernel) ⟨Nat.le_of_ble_eq_true rfl, Nat.le_of_ble_eq_true rfl⟩) (q0 := 0) rfl rfl [0, 1, 2, 3, 4, 5] (by decide) rfl rfl (Nat.le_of_ble_eq_true rfl) rfl dL_turned_154 ⟨Nat.zero_le _, Nat.zero_le _⟩) [0, 1, 2, 3, 4, 5] [] [0, 1, 2, 3, 4, 5] rfl rfl (by decide) (by decide) (by decide) (fun _ => rfl) (fun u154_4 _ => ?_)
      refine s_topl C (y := lN (upN (nN P Q i j za zb zc zd) (aP P Q i j))) ((by rw [nN_ng])) ?_
      refine s_lload C (pc := 157) dL_turned_157 3 rfl ?_
      refine s_lcmp_ne C (pc := 159) (tgt := 358) dL_turned_159 dL_turned_160 (by decide) (fun h => absurd (rfl) h) (fun c159 => ?_)
      refine s_aload_n C (pc := 163) dL_turned_163 rfl 8 rfl ?_
      refine s_iload_n C (pc := 164) dL_turned_164 rfl 9 rfl ?_
      refine s_iload_n C (pc := 165) dL_turned_165 rfl 10 rfl ?_
      refine s_iload C (pc := 166) dL_turned_166 7 rfl ?_
      refine s_ineg C (pc := 168) dL_turned_168 ?_
      refine s_top C (y := iI (-za)) ((iI_neg _)) ?_
      refine s_iload C (pc := 169) dL_turned_169 6 rfl ?_
      refine s_ineg C (pc := 171) dL_turned_171 ?_
      refine s_top C (y := iI (-zb)) ((iI_neg _)) ?_
      refine s_iload C (pc := 172) dL_turned_172 5 rfl ?_
      refine s_ineg C (pc := 174) dL_turned_174 ?_
      refine s_top C (y := iI (-zc)) ((iI_neg _)) ?_
      refine s_iload C (pc := 175) dL_turned_175 4 rfl ?_
      refine s_ineg C (pc := 177) dL_turned_177 ?_
      refine s_top C (y := iI (-zd)) ((iI_neg _)) ?_
      refine s_calllX C (pc := 178) (wr := []) (wc' := (fun u178_5 : GD => [(b, .inr (2, [.ref h, .ref tr, .ref hi, .ref sl, .ref sf, .ref hg, .int hc])), (h, .inr (1, [.ref hp, .ref hq, .int (nI n), .int (nI w), .int f, .int ll])), (hp, .inl (X.2.1, 4, .inl (P))), (hq, .inl (X.2.1, 4, .inl (Q))), (hg, .inr (0, [.ref hgn, .int (nI u178_5.1), .long u178_5.2.2.1, .long u178_5.2.2.2.1, .long u178_5.2.2.2.2])), (hgn, .inl (X.2.1, 144, .inl (u178_5.2.1)))])) (wn := (fun u178_5 : GD => [(b, .inr (2, [.ref h, .ref tr, .ref hi, .ref sl, .ref sf, .ref hg, .int hc])), (h, .inr (1, [.ref hp, .ref hq, .int (nI n), .int (nI w), .int f, .int ll])), (hp, .inl (X.2.1, 4, .inl (P))), (hq, .inl (X.2.1, 4, .inl (Q))), (hg, .inr (0, [.ref hgn, .int (nI u178_5.1), .long u178_5.2.2.1, .long u178_5.2.2.2.1, .long u178_5.2.2.2.2])), (hgn, .inl (X.2.1, 144, .inl (u178_5.2.1)))])) (r_V C (As := [.int (nI i), .int (nI j), .int (iI (-za)), .int (iI (-zb)), .int (iI (-zc)), .int (iI (-zd))]) (rest := []) (kT_den l X b tr hi sl sf hc h hp hq n P Q w f ll hg hgn u154_4.1 u154_4.2.1 u154_4.2.2.1 u154_4.2.2.2.1 u154_4.2.2.2.2 i j (-za) (-zb) (-zc) (-zd) (by first | assumption | omega | decide) (by first | assumption | omega | decide) (by first | assumption | omega | decide) (by first | assumption | omega | decide) (by first | assumption | omega | decide) (by first | assumption | omega | decide) (ow_neg o_za) (ow_neg o_zb) (ow_neg o_zc) (ow_neg o_zd) (by have := hz.1; omega) (by have := hz.2; omega)) (cwV 6 C.ts gL_turned_X2_squareDenominator rfl rfl rfl (by decide +kernel) ⟨Nat.le_of_ble_eq_true rfl, Nat.le_of_ble_eq_true rfl⟩) (q0 := 0) rfl rfl [0, 1, 2, 3, 4, 5] (by decide) rfl rfl (Nat.le_of_ble_eq_true rfl) rfl dL_turned_178 ⟨Nat.zero_le _, Nat.zero_le _⟩) [0, 1, 2, 3, 4, 5] [] [0, 1, 2, 3, 4, 5] rfl rfl (by decide) (by decide) (by decide) (fun _ => rfl) (fun u178_5 _ => ?_)
      refine s_topl C (y := lN (dnN (nN P Q i j za zb zc zd) (aP P Q i j))) ((by rw [nN_ng])) ?_
      refine s_lload C (pc := 181) dL_turned_181 2 rfl ?_
      refine s_lcmp_ne C (pc := 183) (tgt := 358) dL_turned_183 dL_turned_184 (by decide) (fun h => absurd (rfl) h) (fun c183 => ?_)
      refine s_aload_n C (pc := 187) dL_turned_187 rfl 8 rfl ?_
      refine s_iload_n C (pc := 188) dL_turned_188 rfl 9 rfl ?_
      refine s_iload_n C (pc := 189) dL_turned_189 rfl 10 rfl ?_
      refine s_iload C (pc := 190) dL_turned_190 7 rfl ?_
      refine s_ineg C (pc := 192) dL_turned_192 ?_
      refine s_top C (y := iI (-za)) ((iI_neg _)) ?_
      refine s_iload C (pc := 193) dL_turned_193 6 rfl ?_
      refine s_ineg C (pc := 195) dL_turned_195 ?_
      refine s_top C (y := iI (-zb)) ((iI_neg _)) ?_
      refine s_iload C (pc := 196) dL_turned_196 5 rfl ?_
      refine s_ineg C (pc := 198) dL_turned_198 ?_
      refine s_top C (y := iI (-zc)) ((iI_neg _)) ?_
      refine s_iload C (pc := 199) dL_turned_199 4 rfl ?_
      refine s_ineg C (pc := 201) dL_turned_201 ?_
      refine s_top C (y := iI (-zd)) ((iI_neg _)) ?_
      refine s_calliX C (pc := 202) (wr := []) (wc' := (fun u202_6 : GD => [(b, .inr (2, [.ref h, .ref tr, .ref hi, .ref sl, .ref sf, .ref hg, .int hc])), (h, .inr (1, [.ref hp, .ref hq, .int (nI n), .int (nI w), .int f, .int ll])), (hp, .inl (X.2.1, 4, .inl (P))), (hq, .inl (X.2.1, 4, .inl (Q))), (hg, .inr (0, [.ref hgn, .int (nI u202_6.1), .long u202_6.2.2.1, .long u202_6.2.2.2.1, .long u202_6.2.2.2.2])), (hgn, .inl (X.2.1, 144, .inl (u202_6.2.1)))])) (wn := (fun u202_6 : GD => [(b, .inr (2, [.ref h, .ref tr, .ref hi, .ref sl, .ref sf, .ref hg, .int hc])), (h, .inr (1, [.ref hp, .ref hq, .int (nI n), .int (nI w), .int f, .int ll])), (hp, .inl (X.2.1, 4, .inl (P))), (hq, .inl (X.2.1, 4, .inl (Q))), (hg, .inr (0, [.ref hgn, .int (nI u202_6.1), .long u202_6.2.2.1, .long u202_6.2.2.2.1, .long u202_6.2.2.2.2])), (hgn, .inl (X.2.1, 144, .inl (u202_6.2.1)))])) (r_V C (As := [.int (nI i), .int (nI j), .int (iI (-za)), .int (iI (-zb)), .int (iI (-zc)), .int (iI (-zd))]) (rest := []) (kT_knd l X b tr hi sl sf hc h hp hq n P Q w f ll hg hgn u178_5.1 u178_5.2.1 u178_5.2.2.1 u178_5.2.2.2.1 u178_5.2.2.2.2 i j (-za) (-zb) (-zc) (-zd) (by first | assumption | omega | decide) (by first | assumption | omega | decide) (by first | assumption | omega | decide) (by first | assumption | omega | decide) (by first | assumption | omega | decide) (by first | assumption | omega | decide) (ow_neg o_za) (ow_neg o_zb) (ow_neg o_zc) (ow_neg o_zd) (by have := hz.1; omega) (by have := hz.2; omega)) (cwV 6 C.ts gL_turned_X2_kind rfl rfl rfl (by decide +kernel) ⟨Nat.le_of_ble_eq_true rfl, Nat.le_of_ble_eq_true rfl⟩) (q0 := 0) rfl rfl [0, 1, 2, 3, 4, 5] (by decide) rfl rfl (Nat.le_of_ble_eq_true rfl) rfl dL_turned_202 ⟨Nat.zero_le _, Nat.zero_le _⟩) [0, 1, 2, 3, 4, 5] [] [0, 1, 2, 3, 4, 5] rfl rfl (by decide) (by decide) (by decide) (fun _ => rfl) (fun u202_6 _ => ?_)
      refine s_top C (y := nI (kb (aP P Q i j) f ll (nN P Q i j za zb zc zd))) ((by rw [nN_ng])) ?_
      refine s_iload C (pc := 205) dL_turned_205 1 rfl ?_
      refine s_icmp_ne C (pc := 207) (tgt := 358) dL_turned_207 (by decide) (fun h => absurd (rfl) h) (fun c207 => ?_)
      refine s_aload_n C (pc := 210) dL_turned_210 rfl 8 rfl ?_
      refine s_iload_n C (pc := 211) dL_turned_211 rfl 9 rfl ?_
      refine s_iload_n C (pc := 212) dL_turned_212 rfl 10 rfl ?_
      refine s_iload C (pc := 213) dL_turned_213 6 rfl ?_
      refine s_ineg C (pc := 215) dL_turned_215 ?_
      refine s_top C (y := iI (-zb)) ((iI_neg _)) ?_
      refine s_iload C (pc := 216) dL_turned_216 7 rfl ?_
      refine s_iload C (pc := 218) dL_turned_218 4 rfl ?_
      refine s_ineg C (pc := 220) dL_turned_220 ?_
      refine s_top C (y := iI (-zd)) ((iI_neg _)) ?_
      refine s_iload C (pc := 221) dL_turned_221 5 rfl ?_
      refine s_calllX C (pc := 223) (wr := []) (wc' := (fun u223_7 : GD => [(b, .inr (2, [.ref h, .ref tr, .ref hi, .ref sl, .ref sf, .ref hg, .int hc])), (h, .inr (1, [.ref hp, .ref hq, .int (nI n), .int (nI w), .int f, .int ll])), (hp, .inl (X.2.1, 4, .inl (P))), (hq, .inl (X.2.1, 4, .inl (Q))), (hg, .inr (0, [.ref hgn, .int (nI u223_7.1), .long u223_7.2.2.1, .long u223_7.2.2.2.1, .long u223_7.2.2.2.2])), (hgn, .inl (X.2.1, 144, .inl (u223_7.2.1)))])) (wn := (fun u223_7 : GD => [(b, .inr (2, [.ref h, .ref tr, .ref hi, .ref sl, .ref sf, .ref hg, .int hc])), (h, .inr (1, [.ref hp, .ref hq, .int (nI n), .int (nI w), .int f, .int ll])), (hp, .inl (X.2.1, 4, .inl (P))), (hq, .inl (X.2.1, 4, .inl (Q))), (hg, .inr (0, [.ref hgn, .int (nI u223_7.1), .long u223_7.2.2.1, .long u223_7.2.2.2.1, .long u223_7.2.2.2.2])), (hgn, .inl (X.2.1, 144, .inl (u223_7.2.1)))])) (r_V C (As := [.int (nI i), .int (nI j), .int (iI (-zb)), .int (iI za), .int (iI (-zd)), .int (iI zc)]) (rest := []) (kT_num l X b tr hi sl sf hc h hp hq n P Q w f ll hg hgn u202_6.1 u202_6.2.1 u202_6.2.2.1 u202_6.2.2.2.1 u202_6.2.2.2.2 i j (-zb) za (-zd) zc (by first | assumption | omega | decide) (by first | assumption | omega | decide) (by first | assumption | omega | decide) (by first | assumption | omega | decide) (by first | assumption | omega | decide) (by first | assumption | omega | decide) (ow_neg o_zb) o_za (ow_neg o_zd) o_zc (by have := hz.1; omega) (by have := hz.2; omega)) (cwV 6 C.ts gL_turned_X2_squareNumerator rfl rfl rfl (by decide +kernel) ⟨Nat.le_of_ble_eq_true rfl, Nat.le_of_ble_eq_true rfl⟩) (q0 := 0) rfl rfl [0, 1, 2, 3, 4, 5] (by decide) rfl rfl (Nat.le_of_ble_eq_true rfl) rfl dL_turned_223 ⟨Nat.zero_le _, Nat.zero_le _⟩) [0, 1, 2, 3, 4, 5] [] [0, 1, 2, 3, 4, 5] rfl rfl (by decide) (by decide) (by decide) (fun _ => rfl) (fun u223_7 _ => ?_)
      refine s_topl C (y := lN (upN (nN P Q i j za zb zc zd) (aP P Q i j))) ((by rw [nN_rt])) ?_
      refine s_lload C (pc := 226) dL_turned_226 3 rfl ?_
      refine s_lcmp_ne C (pc := 228) (tgt := 358) dL_turned_228 dL_turned_229 (by decide) (fun h => absurd (rfl) h) (fun c228 => ?_)
      refine s_aload_n C (pc := 232) dL_turned_232 rfl 8 rfl ?_
      refine s_iload_n C (pc := 233) dL_turned_233 rfl 9 rfl ?_
      refine s_iload_n C (pc := 234) dL_turned_234 rfl 10 rfl ?_
      refine s_iload C (pc := 235) dL_turned_235 6 rfl ?_
      refine s_ineg C (pc := 237) dL_turned_237 ?_
      refine s_top C (y := iI (-zb)) ((iI_neg _)) ?_
      refine s_iload C (pc := 238) dL_turned_238 7 rfl ?_
      refine s_iload C (pc := 240) dL_turned_240 4 rfl ?_
      refine s_ineg C (pc := 242) dL_turned_242 ?_
      refine s_top C (y := iI (-zd)) ((iI_neg _)) ?_
      refine s_iload C (pc := 243) dL_turned_243 5 rfl ?_
      refine s_calllX C (pc := 245) (wr := []) (wc' := (fun u245_8 : GD => [(b, .inr (2, [.ref h, .ref tr, .ref hi, .ref sl, .ref sf, .ref hg, .int hc])), (h, .inr (1, [.ref hp, .ref hq, .int (nI n), .int (nI w), .int f, .int ll])), (hp, .inl (X.2.1, 4, .inl (P))), (hq, .inl (X.2.1, 4, .inl (Q))), (hg, .inr (0, [.ref hgn, .int (nI u245_8.1), .long u245_8.2.2.1, .long u245_8.2.2.2.1, .long u245_8.2.2.2.2])), (hgn, .inl (X.2.1, 144, .inl (u245_8.2.1)))])) (wn := (fun u245_8 : GD => [(b, .inr (2, [.ref h, .ref tr, .ref hi, .ref sl, .ref sf, .ref hg, .int hc])), (h, .inr (1, [.ref hp, .ref hq, .int (nI n), .int (nI w), .int f, .int ll])), (hp, .inl (X.2.1, 4, .inl (P))), (hq, .inl (X.2.1, 4, .inl (Q))), (hg, .inr (0, [.ref hgn, .int (nI u245_8.1), .long u245_8.2.2.1, .long u245_8.2.2.2.1, .long u245_8.2.2.2.2])), (hgn, .inl (X.2.1, 144, .inl (u245_8.2.1)))])) (r_V C (As := [.int (nI i), .int (nI j), .int (iI (-zb)), .int (iI za), .int (iI (-zd)), .int (iI zc)]) (rest := []) (kT_den l X b tr hi sl sf hc h hp hq n P Q w f ll hg hgn u223_7.1 u223_7.2.1 u223_7.2.2.1 u223_7.2.2.2.1 u223_7.2.2.2.2 i j (-zb) za (-zd) zc (by first | assumption | omega | decide) (by first | assumption | omega | decide) (by first | assumption | omega | decide) (by first | assumption | omega | decide) (by first | assumption | omega | decide) (by first | assumption | omega | decide) (ow_neg o_zb) o_za (ow_neg o_zd) o_zc (by have := hz.1; omega) (by have := hz.2; omega)) (cwV 6 C.ts gL_turned_X2_squareDenominator rfl rfl rfl (by decide +kernel) ⟨Nat.le_of_ble_eq_true rfl, Nat.le_of_ble_eq_true rfl⟩) (q0 := 0) rfl rfl [0, 1, 2, 3, 4, 5] (by decide) rfl rfl (Nat.le_of_ble_eq_true rfl) rfl dL_turned_245 ⟨Nat.zero_le _, Nat.zero_le _⟩) [0, 1, 2, 3, 4, 5] [] [0, 1, 2, 3, 4, 5] rfl rfl (by decide) (by decide) (by decide) (fun _ => rfl) (fun u245_8 _ => ?_)
      refine s_topl C (y := lN (dnN (nN P Q i j za zb zc zd) (aP P Q i j))) ((by rw [nN_rt])) ?_
      refine s_lload C (pc := 248) dL_turned_248 2 rfl ?_
      refine s_lcmp_ne C (pc := 250) (tgt := 358) dL_turned_250 dL_turned_251 (by decide) (fun h => absurd (rfl) h) (fun c250 => ?_)
      refine s_aload_n C (pc := 254) dL_turned_254 rfl 8 rfl ?_
      refine s_iload_n C (pc := 255) dL_turned_255 rfl 9 rfl ?_
      refine s_iload_n C (pc := 256) dL_turned_256 rfl 10 rfl ?_
      refine s_iload C (pc := 257) dL_turned_257 6 rfl ?_
      refine s_ineg C (pc := 259) dL_turned_259 ?_
      refine s_top C (y := iI (-zb)) ((iI_neg _)) ?_
      refine s_iload C (pc := 260) dL_turned_260 7 rfl ?_
      refine s_iload C (pc := 262) dL_turned_262 4 rfl ?_
      refine s_ineg C (pc := 264) dL_turned_264 ?_
      refine s_top C (y := iI (-zd)) ((iI_neg _)) ?_
      refine s_iload C (pc := 265) dL_turned_265 5 rfl ?_
      refine s_calliX C (pc := 267) (wr := []) (wc' := (fun u267_9 : GD => [(b, .inr (2, [.ref h, .ref tr, .ref hi, .ref sl, .ref sf, .ref hg, .int hc])), (h, .inr (1, [.ref hp, .ref hq, .int (nI n), .int (nI w), .int f, .int ll])), (hp, .inl (X.2.1, 4, .inl (P))), (hq, .inl (X.2.1, 4, .inl (Q))), (hg, .inr (0, [.ref hgn, .int (nI u267_9.1), .long u267_9.2.2.1, .long u267_9.2.2.2.1, .long u267_9.2.2.2.2])), (hgn, .inl (X.2.1, 144, .inl (u267_9.2.1)))])) (wn := (fun u267_9 : GD => [(b, .inr (2, [.ref h, .ref tr, .ref hi, .ref sl, .ref sf, .ref hg, .int hc])), (h, .inr (1, [.ref hp, .ref hq, .int (nI n), .int (nI w), .int f, .int ll])), (hp, .inl (X.2.1, 4, .inl (P))), (hq, .inl (X.2.1, 4, .inl (Q))), (hg, .inr (0, [.ref hgn, .int (nI u267_9.1), .long u267_9.2.2.1, .long u267_9.2.2.2.1, .long u267_9.2.2.2.2])), (hgn, .inl (X.2.1, 144, .inl (u267_9.2.1)))])) (r_V C (As := [.int (nI i), .int (nI j), .int (iI (-zb)), .int (iI za), .int (iI (-zd)), .int (iI zc)]) (rest := []) (kT_knd l X b tr hi sl sf hc h hp hq n P Q w f ll hg hgn u245_8.1 u245_8.2.1 u245_8.2.2.1 u245_8.2.2.2.1 u245_8.2.2.2.2 i j (-zb) za (-zd) zc (by first | assumption | omega | decide) (by first | assumption | omega | decide) (by first | assumption | omega | decide) (by first | assumption | omega | decide) (by first | assumption | omega | decide) (by first | assumption | omega | decide) (ow_neg o_zb) o_za (ow_neg o_zd) o_zc (by have := hz.1; omega) (by have := hz.2; omega)) (cwV 6 C.ts gL_turned_X2_kind rfl rfl rfl (by decide +kernel) ⟨Nat.le_of_ble_eq_true rfl, Nat.le_of_ble_eq_true rfl⟩) (q0 := 0) rfl rfl [0, 1, 2, 3, 4, 5] (by decide) rfl rfl (Nat.le_of_ble_eq_true rfl) rfl dL_turned_267 ⟨Nat.zero_le _, Nat.zero_le _⟩) [0, 1, 2, 3, 4, 5] [] [0, 1, 2, 3, 4, 5] rfl rfl (by decide) (by decide) (by decide) (fun _ => rfl) (fun u267_9 _ => ?_)
      refine s_top C (y := nI (kb (aP P Q i j) f ll (nN P Q i j za zb zc zd))) ((by rw [nN_rt])) ?_
      refine s_iload C (pc := 270) dL_turned_270 1 rfl ?_
      refine s_icmp_ne C (pc := 272) (tgt := 358) dL_turned_272 (by decide) (fun h => absurd (rfl) h) (fun c272 => ?_)
      refine s_iload C (pc := 275) dL_turned_275 0 rfl ?_
      refine s_if_eq C (pc := 277) (tgt := 307) dL_turned_277 (by decide) (fun c277 => ?_) (fun h => absurd (by decide) h)
      have hud := (ud_n (tu_n hV hiN hj hw o_za o_zb o_zc o_zd).2 hA).2.2
      by_cases h0 : nN P Q i j za zb zc zd = 0
      · skip
        refine s_lload C (pc := 307) dL_turned_307 3 rfl ?_
        refine s_lconst C (pc := 309) (v := 0) dL_turned_309 (by decide) ?_
        refine s_lcmp_ne C (pc := 310) (tgt := 318) dL_turned_310 dL_turned_311 (by decide) (fun h => absurd (by rw [hud.2.2.2.1.mpr h0]; rfl) h) (fun c310 => ?_)
        refine s_iconst C (pc := 314) (v := 1) dL_turned_314 (by decide) ?_
        refine s_goto C (pc := 315) (tgt := 319) dL_turned_315 (by decide) ?_
        refine s_iload C (pc := 319) dL_turned_319 1 rfl ?_
        refine s_if_ne C (pc := 321) (tgt := 328) dL_turned_321 (by decide) (fun h => absurd (by rw [(kb_0 _ _ _ _).mpr h0]; rfl) h) (fun c321 => ?_)
        refine s_iconst C (pc := 324) (v := 1) dL_turned_324 (by decide) ?_
        refine s_goto C (pc := 325) (tgt := 329) dL_turned_325 (by decide) ?_
        refine s_icmp_ne C (pc := 329) (tgt := 358) dL_turned_329 (by decide) (fun h => absurd (by decide) h) (fun c329 => ?_)
        refine s_iload C (pc := 332) dL_turned_332 1 rfl ?_
        refine s_iconst C (pc := 334) (v := 3) dL_turned_334 (by decide) ?_
        refine s_icmp_gt C (pc := 335) (tgt := 358) dL_turned_335 (by decide) (fun h => absurd h (Int32.not_lt.mpr (tu_k3 _ _ _ _))) (fun c335 => ?_)
        refine s_aload_n C (pc := 338) dL_turned_338 rfl 8 rfl ?_
        refine s_iload_n C (pc := 339) dL_turned_339 rfl 9 rfl ?_
        refine s_iload_n C (pc := 340) dL_turned_340 rfl 10 rfl ?_
        refine s_iload_n C (pc := 341) dL_turned_341 rfl 11 rfl ?_
        refine s_iconst C (pc := 342) (v := 1) dL_turned_342 (by decide) ?_
        refine s_iadd C (pc := 343) dL_turned_343 ?_
        refine s_top C (y := nI (w + 1)) (nI_add _ _) ?_
        refine s_iconst C (pc := 344) (v := 0) dL_turned_344 (by decide) ?_
        refine s_iconst C (pc := 345) (v := 1) dL_turned_345 (by decide) ?_
        refine s_iconst C (pc := 346) (v := 1) dL_turned_346 (by decide) ?_
        refine s_calli C (pc := 347) (wr := [(hg, .inr (0, [.ref hgn, .int (nI u267_9.1), .long u267_9.2.2.1, .long u267_9.2.2.2.1, .long u267_9.2.2.2.2])), (hgn, .inl (X.2.1, 144, .inl (u267_9.2.1)))]) (wc' := [(b, .inr (2, [.ref h, .ref tr, .ref hi, .ref sl, .ref sf, .ref hg, .int hc])), (h, .inr (1, [.ref hp, .ref hq, .int (nI n), .int (nI w), .int f, .int ll])), (hp, .inl (X.2.1, 4, .inl (P))), (hq, .inl (X.2.1, 4, .inl (Q)))]) (wn := [(b, .inr (2, [.ref h, .ref tr, .ref hi, .ref sl, .ref sf, .ref hg, .int hc])), (h, .inr (1, [.ref hp, .ref hq, .int (nI n), .int (nI w), .int f, .int ll])), (hp, .inl (X.2.1, 4, .inl (P))), (hq, .inl (X.2.1, 4, .inl (Q))), (hg, .inr (0, [.ref hgn, .int (nI u267_9.1), .long u267_9.2.2.1, .long u267_9.2.2.2.1, .long u267_9.2.2.2.2])), (hgn, .inl (X.2.1, 144, .inl (u267_9.2.1)))]) (r_V C (As := [.int (nI i), .int (nI j), .int (nI (w + 1)), .int 0, .int 1, .int 1]) (rest := []) (kX2_kind_bad l X b tr hi sl sf hg hc h hp hq n P Q (nI w) f ll (nI i) (nI j) (nI (w + 1)) 0 1 1 (fun q => fp_big hw _ q.2.1) (by first | assumption | omega | decide)) (cwV 6 C.ts gL_turned_X2_kind rfl rfl rfl (by decide +kernel) ⟨Nat.le_of_ble_eq_true rfl, Nat.le_of_ble_eq_true rfl⟩) (q0 := 0) rfl rfl [0, 1, 2, 3] (by decide) rfl rfl (Nat.le_of_ble_eq_true rfl) rfl dL_turned_347 ⟨Nat.zero_le _, Nat.zero_le _⟩) [0, 1, 2, 3] [4, 5] [2, 3, 4, 5, 0, 1] rfl rfl (by decide) (by decide) (by decide) rfl ?_
        refine s_iconst C (pc := 350) (v := (-1)) dL_turned_350 (by decide) ?_
        refine s_icmp_ne C (pc := 351) (tgt := 358) dL_turned_351 (by decide) (fun h => absurd (by decide) h) (fun c351 => ?_)
        refine s_iconst C (pc := 354) (v := 1) dL_turned_354 (by decide) ?_
        refine s_goto C (pc := 355) (tgt := 359) dL_turned_355 (by decide) ?_
        exact s_zretX C (pc := 359) hr hlk ((u267_9.1, u267_9.2.1, u267_9.2.2.1, u267_9.2.2.2.1, u267_9.2.2.2.2)) trivial [0, 1, 2, 3, 4, 5] (by decide) (rfl) rfl (rfl) dL_turned_359
      · skip
        refine s_lload C (pc := 307) dL_turned_307 3 rfl ?_
        refine s_lconst C (pc := 309) (v := 0) dL_turned_309 (by decide) ?_
        refine s_lcmp_ne C (pc := 310) (tgt := 318) dL_turned_310 dL_turned_311 (by decide) (fun c310 => ?_) (fun h => absurd h (pr_ne (by omega) (fun q => h0 (hud.2.2.2.1.mp q))))
        refine s_iconst C (pc := 318) (v := 0) dL_turned_318 (by decide) ?_
        refine s_iload C (pc := 319) dL_turned_319 1 rfl ?_
        refine s_if_ne C (pc := 321) (tgt := 328) dL_turned_321 (by decide) (fun c321 => ?_) (fun h => absurd h (pr_n0 (fun q => h0 ((kb_0 _ _ _ _).mp q)) (show kb (aP P Q i j) f ll (nN P Q i j za zb zc zd) ≤ 5760 by have := kb_le (aP P Q i j) f ll (nN P Q i j za zb zc zd); omega)))
        refine s_iconst C (pc := 328) (v := 0) dL_turned_328 (by decide) ?_
        refine s_icmp_ne C (pc := 329) (tgt := 358) dL_turned_329 (by decide) (fun h => absurd (by decide) h) (fun c329 => ?_)
        refine s_iload C (pc := 332) dL_turned_332 1 rfl ?_
        refine s_iconst C (pc := 334) (v := 3) dL_turned_334 (by decide) ?_
        refine s_icmp_gt C (pc := 335) (tgt := 358) dL_turned_335 (by decide) (fun h => absurd h (Int32.not_lt.mpr (tu_k3 _ _ _ _))) (fun c335 => ?_)
        refine s_aload_n C (pc := 338) dL_turned_338 rfl 8 rfl ?_
        refine s_iload_n C (pc := 339) dL_turned_339 rfl 9 rfl ?_
        refine s_iload_n C (pc := 340) dL_turned_340 rfl 10 rfl ?_
        refine s_iload_n C (pc := 341) dL_turned_341 rfl 11 rfl ?_
        refine s_iconst C (pc := 342) (v := 1) dL_turned_342 (by decide) ?_
        refine s_iadd C (pc := 343) dL_turned_343 ?_
        refine s_top C (y := nI (w + 1)) (nI_add _ _) ?_
        refine s_iconst C (pc := 344) (v := 0) dL_turned_344 (by decide) ?_
        refine s_iconst C (pc := 345) (v := 1) dL_turned_345 (by decide) ?_
        refine s_iconst C (pc := 346) (v := 1) dL_turned_346 (by decide) ?_
        refine s_calli C (pc := 347) (wr := [(hg, .inr (0, [.ref hgn, .int (nI u267_9.1), .long u267_9.2.2.1, .long u267_9.2.2.2.1, .long u267_9.2.2.2.2])), (hgn, .inl (X.2.1, 144, .inl (u267_9.2.1)))]) (wc' := [(b, .inr (2, [.ref h, .ref tr, .ref hi, .ref sl, .ref sf, .ref hg, .int hc])), (h, .inr (1, [.ref hp, .ref hq, .int (nI n), .int (nI w), .int f, .int ll])), (hp, .inl (X.2.1, 4, .inl (P))), (hq, .inl (X.2.1, 4, .inl (Q)))]) (wn := [(b, .inr (2, [.ref h, .ref tr, .ref hi, .ref sl, .ref sf, .ref hg, .int hc])), (h, .inr (1, [.ref hp, .ref hq, .int (nI n), .int (nI w), .int f, .int ll])), (hp, .inl (X.2.1, 4, .inl (P))), (hq, .inl (X.2.1, 4, .inl (Q))), (hg, .inr (0, [.ref hgn, .int (nI u267_9.1), .long u267_9.2.2.1, .long u267_9.2.2.2.1, .long u267_9.2.2.2.2])), (hgn, .inl (X.2.1, 144, .inl (u267_9.2.1)))]) (r_V C (As := [.int (nI i), .int (nI j), .int (nI (w + 1)), .int 0, .int 1, .int 1]) (rest := []) (kX2_kind_bad l X b tr hi sl sf hg hc h hp hq n P Q (nI w) f ll (nI i) (nI j) (nI (w + 1)) 0 1 1 (fun q => fp_big hw _ q.2.1) (by first | assumption | omega | decide)) (cwV 6 C.ts gL_turned_X2_kind rfl rfl rfl (by decide +kernel) ⟨Nat.le_of_ble_eq_true rfl, Nat.le_of_ble_eq_true rfl⟩) (q0 := 0) rfl rfl [0, 1, 2, 3] (by decide) rfl rfl (Nat.le_of_ble_eq_true rfl) rfl dL_turned_347 ⟨Nat.zero_le _, Nat.zero_le _⟩) [0, 1, 2, 3] [4, 5] [2, 3, 4, 5, 0, 1] rfl rfl (by decide) (by decide) (by decide) rfl ?_
        refine s_iconst C (pc := 350) (v := (-1)) dL_turned_350 (by decide) ?_
        refine s_icmp_ne C (pc := 351) (tgt := 358) dL_turned_351 (by decide) (fun h => absurd (by decide) h) (fun c351 => ?_)
        refine s_iconst C (pc := 354) (v := 1) dL_turned_354 (by decide) ?_
        refine s_goto C (pc := 355) (tgt := 359) dL_turned_355 (by decide) ?_
        exact s_zretX C (pc := 359) hr hlk ((u267_9.1, u267_9.2.1, u267_9.2.2.1, u267_9.2.2.2.1, u267_9.2.2.2.2)) trivial [0, 1, 2, 3, 4, 5] (by decide) (rfl) rfl (rfl) dL_turned_359
    refine s_iload C (pc := 112) dL_turned_112 6 rfl ?_
    refine s_if_ne C (pc := 114) (tgt := 122) dL_turned_114 (by decide) (fun c114 => ?_) (fun c114 => ?_)
    · skip
      have f114 : za ≠ 0 := fun q => c114 ((iI_z0 (ow_o2 hw o_za)).mpr q)
      refine s_iload C (pc := 122) dL_turned_122 4 rfl ?_
      refine s_if_ne C (pc := 124) (tgt := 136) dL_turned_124 (by decide) (fun c124 => ?_) (fun c124 => ?_)
      · skip
        have f124 : zc ≠ 0 := fun q => c124 ((iI_z0 (ow_o2 hw o_zc)).mpr q)
        refine s_iconst C (pc := 136) (v := 0) dL_turned_136 (by decide) ?_
        exact J137 (u107_3.1, u107_3.2.1, u107_3.2.2.1, u107_3.2.2.2.1, u107_3.2.2.2.2)
      · skip
        have f124 : zc = 0 := (iI_z0 (ow_o2 hw o_zc)).mp c124
        refine s_iload C (pc := 127) dL_turned_127 3 rfl ?_
        refine s_if_ne C (pc := 129) (tgt := 136) dL_turned_129 (by decide) (fun c129 => ?_) (fun c129 => ?_)
        · skip
          have f129 : zd ≠ 0 := fun q => c129 ((iI_z0 (ow_o2 hw o_zd)).mpr q)
          refine s_iconst C (pc := 136) (v := 0) dL_turned_136 (by decide) ?_
          exact J137 (u107_3.1, u107_3.2.1, u107_3.2.2.1, u107_3.2.2.2.1, u107_3.2.2.2.2)
        · skip
          have f129 : zd = 0 := (iI_z0 (ow_o2 hw o_zd)).mp c129
          exact absurd hz (by omega)
    · skip
      have f114 : za = 0 := (iI_z0 (ow_o2 hw o_za)).mp c114
      refine s_iload C (pc := 117) dL_turned_117 5 rfl ?_
      refine s_if_eq C (pc := 119) (tgt := 132) dL_turned_119 (by decide) (fun c119 => ?_) (fun c119 => ?_)
      · skip
        have f119 : zb = 0 := (iI_z0 (ow_o2 hw o_zb)).mp c119
        exact absurd hz (by omega)
      · skip
        have f119 : zb ≠ 0 := fun q => c119 ((iI_z0 (ow_o2 hw o_zb)).mpr q)
        refine s_iload C (pc := 122) dL_turned_122 4 rfl ?_
        refine s_if_ne C (pc := 124) (tgt := 136) dL_turned_124 (by decide) (fun c124 => ?_) (fun c124 => ?_)
        · skip
          have f124 : zc ≠ 0 := fun q => c124 ((iI_z0 (ow_o2 hw o_zc)).mpr q)
          refine s_iconst C (pc := 136) (v := 0) dL_turned_136 (by decide) ?_
          exact J137 (u107_3.1, u107_3.2.1, u107_3.2.2.1, u107_3.2.2.2.1, u107_3.2.2.2.2)
        · skip
          have f124 : zc = 0 := (iI_z0 (ow_o2 hw o_zc)).mp c124
          refine s_iload C (pc := 127) dL_turned_127 3 rfl ?_
          refine s_if_ne C (pc := 129) (tgt := 136) dL_turned_129 (by decide) (fun c129 => ?_) (fun c129 => ?_)
          · skip
            have f129 : zd ≠ 0 := fun q => c129 ((iI_z0 (ow_o2 hw o_zd)).mpr q)
            refine s_iconst C (pc := 136) (v := 0) dL_turned_136 (by decide) ?_
            exact J137 (u107_3.1, u107_3.2.1, u107_3.2.2.1, u107_3.2.2.2.1, u107_3.2.2.2.2)
          · skip
            have f129 : zd = 0 := (iI_z0 (ow_o2 hw o_zd)).mp c129
            exact absurd hz (by omega)
  · skip
    refine s_aload_n C (pc := 64) dL_turned_64 rfl 4 rfl ?_
    refine s_iload_n C (pc := 65) dL_turned_65 rfl 5 rfl ?_
    refine s_iload_n C (pc := 66) dL_turned_66 rfl 6 rfl ?_
    refine s_iload C (pc := 67) dL_turned_67 3 rfl ?_
    refine s_iload C (pc := 69) dL_turned_69 2 rfl ?_
    refine s_iload C (pc := 71) dL_turned_71 1 rfl ?_
    refine s_iload C (pc := 73) dL_turned_73 0 rfl ?_
    refine s_calll C (pc := 75) (wr := [(hg, .inr (0, [.ref hgn, .int (nI z), .long ar0, .long lf, .long gl])), (hgn, .inl (X.2.1, 144, .inl (F)))]) (wc' := [(b, .inr (2, [.ref h, .ref tr, .ref hi, .ref sl, .ref sf, .ref hg, .int hc])), (h, .inr (1, [.ref hp, .ref hq, .int (nI n), .int (nI w), .int f, .int ll])), (hp, .inl (X.2.1, 4, .inl (P))), (hq, .inl (X.2.1, 4, .inl (Q)))]) (wn := [(b, .inr (2, [.ref h, .ref tr, .ref hi, .ref sl, .ref sf, .ref hg, .int hc])), (h, .inr (1, [.ref hp, .ref hq, .int (nI n), .int (nI w), .int f, .int ll])), (hp, .inl (X.2.1, 4, .inl (P))), (hq, .inl (X.2.1, 4, .inl (Q))), (hg, .inr (0, [.ref hgn, .int (nI z), .long ar0, .long lf, .long gl])), (hgn, .inl (X.2.1, 144, .inl (F)))]) (r_V C (As := [.int (nI i), .int (nI j), .int (iI za), .int (iI zb), .int (iI zc), .int (iI zd)]) (rest := []) (kX2_squareNumerator_bad l X b tr hi sl sf hg hc h hp hq n P Q (nI w) f ll (nI i) (nI j) (iI za) (iI zb) (iI zc) (iI zd) (fun q => hz (tu_b0 hw o_za o_zb o_zc o_zd q.2.1 q.2.2)) (by first | assumption | omega | decide)) (cwV 6 C.ts gL_turned_X2_squareNumerator rfl rfl rfl (by decide +kernel) ⟨Nat.le_of_ble_eq_true rfl, Nat.le_of_ble_eq_true rfl⟩) (q0 := 0) rfl rfl [0, 1, 2, 3] (by decide) rfl rfl (Nat.le_of_ble_eq_true rfl) rfl dL_turned_75 ⟨Nat.zero_le _, Nat.zero_le _⟩) [0, 1, 2, 3] [4, 5] [2, 3, 4, 5, 0, 1] rfl rfl (by decide) (by decide) (by decide) rfl ?_
    refine s_lstore C (pc := 78) (ls' := [(9, .long (-1)), (8, .int (iI zd)), (7, .int (iI zc)), (6, .int (iI zb)), (5, .int (iI za)), (0, .ref b), (1, .int (nI i)), (2, .int (nI j)), (3, .int (nI w)), (4, .int x)]) dL_turned_78 (by decide) rfl ?_
    refine s_aload_n C (pc := 80) dL_turned_80 rfl 5 rfl ?_
    refine s_iload_n C (pc := 81) dL_turned_81 rfl 6 rfl ?_
    refine s_iload_n C (pc := 82) dL_turned_82 rfl 7 rfl ?_
    refine s_iload C (pc := 83) dL_turned_83 4 rfl ?_
    refine s_iload C (pc := 85) dL_turned_85 3 rfl ?_
    refine s_iload C (pc := 87) dL_turned_87 2 rfl ?_
    refine s_iload C (pc := 89) dL_turned_89 1 rfl ?_
    refine s_calll C (pc := 91) (wr := [(hg, .inr (0, [.ref hgn, .int (nI z), .long ar0, .long lf, .long gl])), (hgn, .inl (X.2.1, 144, .inl (F)))]) (wc' := [(b, .inr (2, [.ref h, .ref tr, .ref hi, .ref sl, .ref sf, .ref hg, .int hc])), (h, .inr (1, [.ref hp, .ref hq, .int (nI n), .int (nI w), .int f, .int ll])), (hp, .inl (X.2.1, 4, .inl (P))), (hq, .inl (X.2.1, 4, .inl (Q)))]) (wn := [(b, .inr (2, [.ref h, .ref tr, .ref hi, .ref sl, .ref sf, .ref hg, .int hc])), (h, .inr (1, [.ref hp, .ref hq, .int (nI n), .int (nI w), .int f, .int ll])), (hp, .inl (X.2.1, 4, .inl (P))), (hq, .inl (X.2.1, 4, .inl (Q))), (hg, .inr (0, [.ref hgn, .int (nI z), .long ar0, .long lf, .long gl])), (hgn, .inl (X.2.1, 144, .inl (F)))]) (r_V C (As := [.int (nI i), .int (nI j), .int (iI za), .int (iI zb), .int (iI zc), .int (iI zd)]) (rest := []) (kX2_squareDenominator_bad l X b tr hi sl sf hg hc h hp hq n P Q (nI w) f ll (nI i) (nI j) (iI za) (iI zb) (iI zc) (iI zd) (fun q => hz (tu_b0 hw o_za o_zb o_zc o_zd q.2.1 q.2.2)) (by first | assumption | omega | decide)) (cwV 6 C.ts gL_turned_X2_squareDenominator rfl rfl rfl (by decide +kernel) ⟨Nat.le_of_ble_eq_true rfl, Nat.le_of_ble_eq_true rfl⟩) (q0 := 0) rfl rfl [0, 1, 2, 3] (by decide) rfl rfl (Nat.le_of_ble_eq_true rfl) rfl dL_turned_91 ⟨Nat.zero_le _, Nat.zero_le _⟩) [0, 1, 2, 3] [4, 5] [2, 3, 4, 5, 0, 1] rfl rfl (by decide) (by decide) (by decide) rfl ?_
    refine s_lstore C (pc := 94) (ls' := [(11, .long (-1)), (9, .long (-1)), (8, .int (iI zd)), (7, .int (iI zc)), (6, .int (iI zb)), (5, .int (iI za)), (0, .ref b), (1, .int (nI i)), (2, .int (nI j)), (3, .int (nI w)), (4, .int x)]) dL_turned_94 (by decide) rfl ?_
    refine s_aload_n C (pc := 96) dL_turned_96 rfl 6 rfl ?_
    refine s_iload_n C (pc := 97) dL_turned_97 rfl 7 rfl ?_
    refine s_iload_n C (pc := 98) dL_turned_98 rfl 8 rfl ?_
    refine s_iload C (pc := 99) dL_turned_99 5 rfl ?_
    refine s_iload C (pc := 101) dL_turned_101 4 rfl ?_
    refine s_iload C (pc := 103) dL_turned_103 3 rfl ?_
    refine s_iload C (pc := 105) dL_turned_105 2 rfl ?_
    refine s_calli C (pc := 107) (wr := [(hg, .inr (0, [.ref hgn, .int (nI z), .long ar0, .long lf, .long gl])), (hgn, .inl (X.2.1, 144, .inl (F)))]) (wc' := [(b, .inr (2, [.ref h, .ref tr, .ref hi, .ref sl, .ref sf, .ref hg, .int hc])), (h, .inr (1, [.ref hp, .ref hq, .int (nI n), .int (nI w), .int f, .int ll])), (hp, .inl (X.2.1, 4, .inl (P))), (hq, .inl (X.2.1, 4, .inl (Q)))]) (wn := [(b, .inr (2, [.ref h, .ref tr, .ref hi, .ref sl, .ref sf, .ref hg, .int hc])), (h, .inr (1, [.ref hp, .ref hq, .int (nI n), .int (nI w), .int f, .int ll])), (hp, .inl (X.2.1, 4, .inl (P))), (hq, .inl (X.2.1, 4, .inl (Q))), (hg, .inr (0, [.ref hgn, .int (nI z), .long ar0, .long lf, .long gl])), (hgn, .inl (X.2.1, 144, .inl (F)))]) (r_V C (As := [.int (nI i), .int (nI j), .int (iI za), .int (iI zb), .int (iI zc), .int (iI zd)]) (rest := []) (kX2_kind_bad l X b tr hi sl sf hg hc h hp hq n P Q (nI w) f ll (nI i) (nI j) (iI za) (iI zb) (iI zc) (iI zd) (fun q => hz (tu_b0 hw o_za o_zb o_zc o_zd q.2.1 q.2.2)) (by first | assumption | omega | decide)) (cwV 6 C.ts gL_turned_X2_kind rfl rfl rfl (by decide +kernel) ⟨Nat.le_of_ble_eq_true rfl, Nat.le_of_ble_eq_true rfl⟩) (q0 := 0) rfl rfl [0, 1, 2, 3] (by decide) rfl rfl (Nat.le_of_ble_eq_true rfl) rfl dL_turned_107 ⟨Nat.zero_le _, Nat.zero_le _⟩) [0, 1, 2, 3] [4, 5] [2, 3, 4, 5, 0, 1] rfl rfl (by decide) (by decide) (by decide) rfl ?_
    refine s_istore C (pc := 110) (ls' := [(13, .int (-1)), (11, .long (-1)), (9, .long (-1)), (8, .int (iI zd)), (7, .int (iI zc)), (6, .int (iI zb)), (5, .int (iI za)), (0, .ref b), (1, .int (nI i)), (2, .int (nI j)), (3, .int (nI w)), (4, .int x)]) dL_turned_110 (by decide) rfl ?_
    have J137 : ∀ (u : GD), g [(b, .inr (2, [.ref h, .ref tr, .ref hi, .ref sl, .ref sf, .ref hg, .int hc])), (h, .inr (1, [.ref hp, .ref hq, .int (nI n), .int (nI w), .int f, .int ll])), (hp, .inl (X.2.1, 4, .inl (P))), (hq, .inl (X.2.1, 4, .inl (Q))), (hg, .inr (0, [.ref hgn, .int (nI u.1), .long u.2.2.1, .long u.2.2.2.1, .long u.2.2.2.2])), (hgn, .inl (X.2.1, 144, .inl (u.2.1)))] 137 [(13, .int (-1)), (11, .long (-1)), (9, .long (-1)), (8, .int (iI zd)), (7, .int (iI zc)), (6, .int (iI zb)), (5, .int (iI za)), (0, .ref b), (1, .int (nI i)), (2, .int (nI j)), (3, .int (nI w)), (4, .int x)] [.int 1] := by
      intro u
      refine s_istore C (pc := 137) (ls' := [(14, .int 1), (13, .int (-1)), (11, .long (-1)), (9, .long (-1)), (8, .int (iI zd)), (7, .int (iI zc)), (6, .int (iI zb)), (5, .int (iI za)), (0, .ref b), (1, .int (nI i)), (2, .int (nI j)), (3, .int (nI w)), (4, .int x)]) dL_turned_137 (by decide) rfl ?_
      refine s_aload_n C (pc := 139) dL_turned_139 rfl 8 rfl ?_
      refine s_iload_n C (pc := 140) dL_turned_140 rfl 9 rfl ?_
      refine s_iload_n C (pc := 141) dL_turned_141 rfl 10 rfl ?_
      refine s_iload C (pc := 142) dL_turned_142 7 rfl ?_
      refine s_ineg C (pc := 144) dL_turned_144 ?_
      refine s_top C (y := iI (-za)) ((iI_neg _)) ?_
      refine s_iload C (pc := 145) dL_turned_145 6 rfl ?_
      refine s_ineg C (pc := 147) dL_turned_147 ?_
      refine s_top C (y := iI (-zb)) ((iI_neg _)) ?_
      refine s_iload C (pc := 148) dL_turned_148 5 rfl ?_
      refine s_ineg C (pc := 150) dL_turned_150 ?_
      refine s_top C (y := iI (-zc)) ((iI_neg _)) ?_
      refine s_iload C (pc := 151) dL_turned_151 4 rfl ?_
      refine s_ineg C (pc := 153) dL_turned_153 ?_
      refine s_top C (y := iI (-zd)) ((iI_neg _)) ?_
      refine s_calll C (pc := 154) (wr := [(hg, .inr (0, [.ref hgn, .int (nI u.1), .long u.2.2.1, .long u.2.2.2.1, .long u.2.2.2.2])), (hgn, .inl (X.2.1, 144, .inl (u.2.1)))]) (wc' := [(b, .inr (2, [.ref h, .ref tr, .ref hi, .ref sl, .ref sf, .ref hg, .int hc])), (h, .inr (1, [.ref hp, .ref hq, .int (nI n), .int (nI w), .int f, .int ll])), (hp, .inl (X.2.1, 4, .inl (P))), (hq, .inl (X.2.1, 4, .inl (Q)))]) (wn := [(b, .inr (2, [.ref h, .ref tr, .ref hi, .ref sl, .ref sf, .ref hg, .int hc])), (h, .inr (1, [.ref hp, .ref hq, .int (nI n), .int (nI w), .int f, .int ll])), (hp, .inl (X.2.1, 4, .inl (P))), (hq, .inl (X.2.1, 4, .inl (Q))), (hg, .inr (0, [.ref hgn, .int (nI u.1), .long u.2.2.1, .long u.2.2.2.1, .long u.2.2.2.2])), (hgn, .inl (X.2.1, 144, .inl (u.2.1)))]) (r_V C (As := [.int (nI i), .int (nI j), .int (iI (-za)), .int (iI (-zb)), .int (iI (-zc)), .int (iI (-zd))]) (rest := []) (kX2_squareNumerator_bad l X b tr hi sl sf hg hc h hp hq n P Q (nI w) f ll (nI i) (nI j) (iI (-za)) (iI (-zb)) (iI (-zc)) (iI (-zd)) (fun q => hz (tu_b1 hw o_za o_zb o_zc o_zd q.2.1 q.2.2)) (by first | assumption | omega | decide)) (cwV 6 C.ts gL_turned_X2_squareNumerator rfl rfl rfl (by decide +kernel) ⟨Nat.le_of_ble_eq_true rfl, Nat.le_of_ble_eq_true rfl⟩) (q0 := 0) rfl rfl [0, 1, 2, 3] (by decide) rfl rfl (Nat.le_of_ble_eq_true rfl) rfl dL_turned_154 ⟨Nat.zero_le _, Nat.zero_le _⟩) [0, 1, 2, 3] [4, 5] [2, 3, 4, 5, 0, 1] rfl rfl (by decide) (by decide) (by decide) rfl ?_
      refine s_lload C (pc := 157) dL_turned_157 3 rfl ?_
      refine s_lcmp_ne C (pc := 159) (tgt := 358) dL_turned_159 dL_turned_160 (by decide) (fun h => absurd (rfl) h) (fun c159 => ?_)
      refine s_aload_n C (pc := 163) dL_turned_163 rfl 8 rfl ?_
      refine s_iload_n C (pc := 164) dL_turned_164 rfl 9 rfl ?_
      refine s_iload_n C (pc := 165) dL_turned_165 rfl 10 rfl ?_
      refine s_iload C (pc := 166) dL_turned_166 7 rfl ?_
      refine s_ineg C (pc := 168) dL_turned_168 ?_
      refine s_top C (y := iI (-za)) ((iI_neg _)) ?_
      refine s_iload C (pc := 169) dL_turned_169 6 rfl ?_
      refine s_ineg C (pc := 171) dL_turned_171 ?_
      refine s_top C (y := iI (-zb)) ((iI_neg _)) ?_
      refine s_iload C (pc := 172) dL_turned_172 5 rfl ?_
      refine s_ineg C (pc := 174) dL_turned_174 ?_
      refine s_top C (y := iI (-zc)) ((iI_neg _)) ?_
      refine s_iload C (pc := 175) dL_turned_175 4 rfl ?_
      refine s_ineg C (pc := 177) dL_turned_177 ?_
      refine s_top C (y := iI (-zd)) ((iI_neg _)) ?_
      refine s_calll C (pc := 178) (wr := [(hg, .inr (0, [.ref hgn, .int (nI u.1), .long u.2.2.1, .long u.2.2.2.1, .long u.2.2.2.2])), (hgn, .inl (X.2.1, 144, .inl (u.2.1)))]) (wc' := [(b, .inr (2, [.ref h, .ref tr, .ref hi, .ref sl, .ref sf, .ref hg, .int hc])), (h, .inr (1, [.ref hp, .ref hq, .int (nI n), .int (nI w), .int f, .int ll])), (hp, .inl (X.2.1, 4, .inl (P))), (hq, .inl (X.2.1, 4, .inl (Q)))]) (wn := [(b, .inr (2, [.ref h, .ref tr, .ref hi, .ref sl, .ref sf, .ref hg, .int hc])), (h, .inr (1, [.ref hp, .ref hq, .int (nI n), .int (nI w), .int f, .int ll])), (hp, .inl (X.2.1, 4, .inl (P))), (hq, .inl (X.2.1, 4, .inl (Q))), (hg, .inr (0, [.ref hgn, .int (nI u.1), .long u.2.2.1, .long u.2.2.2.1, .long u.2.2.2.2])), (hgn, .inl (X.2.1, 144, .inl (u.2.1)))]) (r_V C (As := [.int (nI i), .int (nI j), .int (iI (-za)), .int (iI (-zb)), .int (iI (-zc)), .int (iI (-zd))]) (rest := []) (kX2_squareDenominator_bad l X b tr hi sl sf hg hc h hp hq n P Q (nI w) f ll (nI i) (nI j) (iI (-za)) (iI (-zb)) (iI (-zc)) (iI (-zd)) (fun q => hz (tu_b1 hw o_za o_zb o_zc o_zd q.2.1 q.2.2)) (by first | assumption | omega | decide)) (cwV 6 C.ts gL_turned_X2_squareDenominator rfl rfl rfl (by decide +kernel) ⟨Nat.le_of_ble_eq_true rfl, Nat.le_of_ble_eq_true rfl⟩) (q0 := 0) rfl rfl [0, 1, 2, 3] (by decide) rfl rfl (Nat.le_of_ble_eq_true rfl) rfl dL_turned_178 ⟨Nat.zero_le _, Nat.zero_le _⟩) [0, 1, 2, 3] [4, 5] [2, 3, 4, 5, 0, 1] rfl rfl (by decide) (by decide) (by decide) rfl ?_
      refine s_lload C (pc := 181) dL_turned_181 2 rfl ?_
      refine s_lcmp_ne C (pc := 183) (tgt := 358) dL_turned_183 dL_turned_184 (by decide) (fun h => absurd (rfl) h) (fun c183 => ?_)
      refine s_aload_n C (pc := 187) dL_turned_187 rfl 8 rfl ?_
      refine s_iload_n C (pc := 188) dL_turned_188 rfl 9 rfl ?_
      refine s_iload_n C (pc := 189) dL_turned_189 rfl 10 rfl ?_
      refine s_iload C (pc := 190) dL_turned_190 7 rfl ?_
      refine s_ineg C (pc := 192) dL_turned_192 ?_
      refine s_top C (y := iI (-za)) ((iI_neg _)) ?_
      refine s_iload C (pc := 193) dL_turned_193 6 rfl ?_
      refine s_ineg C (pc := 195) dL_turned_195 ?_
      refine s_top C (y := iI (-zb)) ((iI_neg _)) ?_
      refine s_iload C (pc := 196) dL_turned_196 5 rfl ?_
      refine s_ineg C (pc := 198) dL_turned_198 ?_
      refine s_top C (y := iI (-zc)) ((iI_neg _)) ?_
      refine s_iload C (pc := 199) dL_turned_199 4 rfl ?_
      refine s_ineg C (pc := 201) dL_turned_201 ?_
      refine s_top C (y := iI (-zd)) ((iI_neg _)) ?_
      refine s_calli C (pc := 202) (wr := [(hg, .inr (0, [.ref hgn, .int (nI u.1), .long u.2.2.1, .long u.2.2.2.1, .long u.2.2.2.2])), (hgn, .inl (X.2.1, 144, .inl (u.2.1)))]) (wc' := [(b, .inr (2, [.ref h, .ref tr, .ref hi, .ref sl, .ref sf, .ref hg, .int hc])), (h, .inr (1, [.ref hp, .ref hq, .int (nI n), .int (nI w), .int f, .int ll])), (hp, .inl (X.2.1, 4, .inl (P))), (hq, .inl (X.2.1, 4, .inl (Q)))]) (wn := [(b, .inr (2, [.ref h, .ref tr, .ref hi, .ref sl, .ref sf, .ref hg, .int hc])), (h, .inr (1, [.ref hp, .ref hq, .int (nI n), .int (nI w), .int f, .int ll])), (hp, .inl (X.2.1, 4, .inl (P))), (hq, .inl (X.2.1, 4, .inl (Q))), (hg, .inr (0, [.ref hgn, .int (nI u.1), .long u.2.2.1, .long u.2.2.2.1, .long u.2.2.2.2])), (hgn, .inl (X.2.1, 144, .inl (u.2.1)))]) (r_V C (As := [.int (nI i), .int (nI j), .int (iI (-za)), .int (iI (-zb)), .int (iI (-zc)), .int (iI (-zd))]) (rest := []) (kX2_kind_bad l X b tr hi sl sf hg hc h hp hq n P Q (nI w) f ll (nI i) (nI j) (iI (-za)) (iI (-zb)) (iI (-zc)) (iI (-zd)) (fun q => hz (tu_b1 hw o_za o_zb o_zc o_zd q.2.1 q.2.2)) (by first | assumption | omega | decide)) (cwV 6 C.ts gL_turned_X2_kind rfl rfl rfl (by decide +kernel) ⟨Nat.le_of_ble_eq_true rfl, Nat.le_of_ble_eq_true rfl⟩) (q0 := 0) rfl rfl [0, 1, 2, 3] (by decide) rfl rfl (Nat.le_of_ble_eq_true rfl) rfl dL_turned_202 ⟨Nat.zero_le _, Nat.zero_le _⟩) [0, 1, 2, 3] [4, 5] [2, 3, 4, 5, 0, 1] rfl rfl (by decide) (by decide) (by decide) rfl ?_
      refine s_iload C (pc := 205) dL_turned_205 1 rfl ?_
      refine s_icmp_ne C (pc := 207) (tgt := 358) dL_turned_207 (by decide) (fun h => absurd (rfl) h) (fun c207 => ?_)
      refine s_aload_n C (pc := 210) dL_turned_210 rfl 8 rfl ?_
      refine s_iload_n C (pc := 211) dL_turned_211 rfl 9 rfl ?_
      refine s_iload_n C (pc := 212) dL_turned_212 rfl 10 rfl ?_
      refine s_iload C (pc := 213) dL_turned_213 6 rfl ?_
      refine s_ineg C (pc := 215) dL_turned_215 ?_
      refine s_top C (y := iI (-zb)) ((iI_neg _)) ?_
      refine s_iload C (pc := 216) dL_turned_216 7 rfl ?_
      refine s_iload C (pc := 218) dL_turned_218 4 rfl ?_
      refine s_ineg C (pc := 220) dL_turned_220 ?_
      refine s_top C (y := iI (-zd)) ((iI_neg _)) ?_
      refine s_iload C (pc := 221) dL_turned_221 5 rfl ?_
      refine s_calll C (pc := 223) (wr := [(hg, .inr (0, [.ref hgn, .int (nI u.1), .long u.2.2.1, .long u.2.2.2.1, .long u.2.2.2.2])), (hgn, .inl (X.2.1, 144, .inl (u.2.1)))]) (wc' := [(b, .inr (2, [.ref h, .ref tr, .ref hi, .ref sl, .ref sf, .ref hg, .int hc])), (h, .inr (1, [.ref hp, .ref hq, .int (nI n), .int (nI w), .int f, .int ll])), (hp, .inl (X.2.1, 4, .inl (P))), (hq, .inl (X.2.1, 4, .inl (Q)))]) (wn := [(b, .inr (2, [.ref h, .ref tr, .ref hi, .ref sl, .ref sf, .ref hg, .int hc])), (h, .inr (1, [.ref hp, .ref hq, .int (nI n), .int (nI w), .int f, .int ll])), (hp, .inl (X.2.1, 4, .inl (P))), (hq, .inl (X.2.1, 4, .inl (Q))), (hg, .inr (0, [.ref hgn, .int (nI u.1), .long u.2.2.1, .long u.2.2.2.1, .long u.2.2.2.2])), (hgn, .inl (X.2.1, 144, .inl (u.2.1)))]) (r_V C (As := [.int (nI i), .int (nI j), .int (iI (-zb)), .int (iI za), .int (iI (-zd)), .int (iI zc)]) (rest := []) (kX2_squareNumerator_bad l X b tr hi sl sf hg hc h hp hq n P Q (nI w) f ll (nI i) (nI j) (iI (-zb)) (iI za) (iI (-zd)) (iI zc) (fun q => hz (tu_b2 hw o_za o_zb o_zc o_zd q.2.1 q.2.2)) (by first | assumption | omega | decide)) (cwV 6 C.ts gL_turned_X2_squareNumerator rfl rfl rfl (by decide +kernel) ⟨Nat.le_of_ble_eq_true rfl, Nat.le_of_ble_eq_true rfl⟩) (q0 := 0) rfl rfl [0, 1, 2, 3] (by decide) rfl rfl (Nat.le_of_ble_eq_true rfl) rfl dL_turned_223 ⟨Nat.zero_le _, Nat.zero_le _⟩) [0, 1, 2, 3] [4, 5] [2, 3, 4, 5, 0, 1] rfl rfl (by decide) (by decide) (by decide) rfl ?_
      refine s_lload C (pc := 226) dL_turned_226 3 rfl ?_
      refine s_lcmp_ne C (pc := 228) (tgt := 358) dL_turned_228 dL_turned_229 (by decide) (fun h => absurd (rfl) h) (fun c228 => ?_)
      refine s_aload_n C (pc := 232) dL_turned_232 rfl 8 rfl ?_
      refine s_iload_n C (pc := 233) dL_turned_233 rfl 9 rfl ?_
      refine s_iload_n C (pc := 234) dL_turned_234 rfl 10 rfl ?_
      refine s_iload C (pc := 235) dL_turned_235 6 rfl ?_
      refine s_ineg C (pc := 237) dL_turned_237 ?_
      refine s_top C (y := iI (-zb)) ((iI_neg _)) ?_
      refine s_iload C (pc := 238) dL_turned_238 7 rfl ?_
      refine s_iload C (pc := 240) dL_turned_240 4 rfl ?_
      refine s_ineg C (pc := 242) dL_turned_242 ?_
      refine s_top C (y := iI (-zd)) ((iI_neg _)) ?_
      refine s_iload C (pc := 243) dL_turned_243 5 rfl ?_
      refine s_calll C (pc := 245) (wr := [(hg, .inr (0, [.ref hgn, .int (nI u.1), .long u.2.2.1, .long u.2.2.2.1, .long u.2.2.2.2])), (hgn, .inl (X.2.1, 144, .inl (u.2.1)))]) (wc' := [(b, .inr (2, [.ref h, .ref tr, .ref hi, .ref sl, .ref sf, .ref hg, .int hc])), (h, .inr (1, [.ref hp, .ref hq, .int (nI n), .int (nI w), .int f, .int ll])), (hp, .inl (X.2.1, 4, .inl (P))), (hq, .inl (X.2.1, 4, .inl (Q)))]) (wn := [(b, .inr (2, [.ref h, .ref tr, .ref hi, .ref sl, .ref sf, .ref hg, .int hc])), (h, .inr (1, [.ref hp, .ref hq, .int (nI n), .int (nI w), .int f, .int ll])), (hp, .inl (X.2.1, 4, .inl (P))), (hq, .inl (X.2.1, 4, .inl (Q))), (hg, .inr (0, [.ref hgn, .int (nI u.1), .long u.2.2.1, .long u.2.2.2.1, .long u.2.2.2.2])), (hgn, .inl (X.2.1, 144, .inl (u.2.1)))]) (r_V C (As := [.int (nI i), .int (nI j), .int (iI (-zb)), .int (iI za), .int (iI (-zd)), .int (iI zc)]) (rest := []) (kX2_squareDenominator_bad l X b tr hi sl sf hg hc h hp hq n P Q (nI w) f ll (nI i) (nI j) (iI (-zb)) (iI za) (iI (-zd)) (iI zc) (fun q => hz (tu_b2 hw o_za o_zb o_zc o_zd q.2.1 q.2.2)) (by first | assumption | omega | decide)) (cwV 6 C.ts gL_turned_X2_squareDenominator rfl rfl rfl (by decide +kernel) ⟨Nat.le_of_ble_eq_true rfl, Nat.le_of_ble_eq_true rfl⟩) (q0 := 0) rfl rfl [0, 1, 2, 3] (by decide) rfl rfl (Nat.le_of_ble_eq_true rfl) rfl dL_turned_245 ⟨Nat.zero_le _, Nat.zero_le _⟩) [0, 1, 2, 3] [4, 5] [2, 3, 4, 5, 0, 1] rfl rfl (by decide) (by decide) (by decide) rfl ?_
      refine s_lload C (pc := 248) dL_turned_248 2 rfl ?_
      refine s_lcmp_ne C (pc := 250) (tgt := 358) dL_turned_250 dL_turned_251 (by decide) (fun h => absurd (rfl) h) (fun c250 => ?_)
      refine s_aload_n C (pc := 254) dL_turned_254 rfl 8 rfl ?_
      refine s_iload_n C (pc := 255) dL_turned_255 rfl 9 rfl ?_
      refine s_iload_n C (pc := 256) dL_turned_256 rfl 10 rfl ?_
      refine s_iload C (pc := 257) dL_turned_257 6 rfl ?_
      refine s_ineg C (pc := 259) dL_turned_259 ?_
      refine s_top C (y := iI (-zb)) ((iI_neg _)) ?_
      refine s_iload C (pc := 260) dL_turned_260 7 rfl ?_
      refine s_iload C (pc := 262) dL_turned_262 4 rfl ?_
      refine s_ineg C (pc := 264) dL_turned_264 ?_
      refine s_top C (y := iI (-zd)) ((iI_neg _)) ?_
      refine s_iload C (pc := 265) dL_turned_265 5 rfl ?_
      refine s_calli C (pc := 267) (wr := [(hg, .inr (0, [.ref hgn, .int (nI u.1), .long u.2.2.1, .long u.2.2.2.1, .long u.2.2.2.2])), (hgn, .inl (X.2.1, 144, .inl (u.2.1)))]) (wc' := [(b, .inr (2, [.ref h, .ref tr, .ref hi, .ref sl, .ref sf, .ref hg, .int hc])), (h, .inr (1, [.ref hp, .ref hq, .int (nI n), .int (nI w), .int f, .int ll])), (hp, .inl (X.2.1, 4, .inl (P))), (hq, .inl (X.2.1, 4, .inl (Q)))]) (wn := [(b, .inr (2, [.ref h, .ref tr, .ref hi, .ref sl, .ref sf, .ref hg, .int hc])), (h, .inr (1, [.ref hp, .ref hq, .int (nI n), .int (nI w), .int f, .int ll])), (hp, .inl (X.2.1, 4, .inl (P))), (hq, .inl (X.2.1, 4, .inl (Q))), (hg, .inr (0, [.ref hgn, .int (nI u.1), .long u.2.2.1, .long u.2.2.2.1, .long u.2.2.2.2])), (hgn, .inl (X.2.1, 144, .inl (u.2.1)))]) (r_V C (As := [.int (nI i), .int (nI j), .int (iI (-zb)), .int (iI za), .int (iI (-zd)), .int (iI zc)]) (rest := []) (kX2_kind_bad l X b tr hi sl sf hg hc h hp hq n P Q (nI w) f ll (nI i) (nI j) (iI (-zb)) (iI za) (iI (-zd)) (iI zc) (fun q => hz (tu_b2 hw o_za o_zb o_zc o_zd q.2.1 q.2.2)) (by first | assumption | omega | decide)) (cwV 6 C.ts gL_turned_X2_kind rfl rfl rfl (by decide +kernel) ⟨Nat.le_of_ble_eq_true rfl, Nat.le_of_ble_eq_true rfl⟩) (q0 := 0) rfl rfl [0, 1, 2, 3] (by decide) rfl rfl (Nat.le_of_ble_eq_true rfl) rfl dL_turned_267 ⟨Nat.zero_le _, Nat.zero_le _⟩) [0, 1, 2, 3] [4, 5] [2, 3, 4, 5, 0, 1] rfl rfl (by decide) (by decide) (by decide) rfl ?_
      refine s_iload C (pc := 270) dL_turned_270 1 rfl ?_
      refine s_icmp_ne C (pc := 272) (tgt := 358) dL_turned_272 (by decide) (fun h => absurd (rfl) h) (fun c272 => ?_)
      refine s_iload C (pc := 275) dL_turned_275 0 rfl ?_
      refine s_if_eq C (pc := 277) (tgt := 307) dL_turned_277 (by decide) (fun h => absurd h (by decide)) (fun c277 => ?_)
      refine s_lload C (pc := 280) dL_turned_280 3 rfl ?_
      refine s_ldc2 C (pc := 282) (v := (-1)) (List.mem_of_getElem? (i := 1) rfl) dL_turned_282 ?_
      refine s_lcmp_ne C (pc := 285) (tgt := 358) dL_turned_285 dL_turned_286 (by decide) (fun h => absurd (by decide) h) (fun c285 => ?_)
      refine s_lload C (pc := 289) dL_turned_289 2 rfl ?_
      refine s_ldc2 C (pc := 291) (v := (-1)) (List.mem_of_getElem? (i := 1) rfl) dL_turned_291 ?_
      refine s_lcmp_ne C (pc := 294) (tgt := 358) dL_turned_294 dL_turned_295 (by decide) (fun h => absurd (by decide) h) (fun c294 => ?_)
      refine s_iload C (pc := 298) dL_turned_298 1 rfl ?_
      refine s_iconst C (pc := 300) (v := (-1)) dL_turned_300 (by decide) ?_
      refine s_icmp_ne C (pc := 301) (tgt := 358) dL_turned_301 (by decide) (fun h => absurd (by decide) h) (fun c301 => ?_)
      refine s_goto C (pc := 304) (tgt := 338) dL_turned_304 (by decide) ?_
      refine s_aload_n C (pc := 338) dL_turned_338 rfl 8 rfl ?_
      refine s_iload_n C (pc := 339) dL_turned_339 rfl 9 rfl ?_
      refine s_iload_n C (pc := 340) dL_turned_340 rfl 10 rfl ?_
      refine s_iload_n C (pc := 341) dL_turned_341 rfl 11 rfl ?_
      refine s_iconst C (pc := 342) (v := 1) dL_turned_342 (by decide) ?_
      refine s_iadd C (pc := 343) dL_turned_343 ?_
      refine s_top C (y := nI (w + 1)) (nI_add _ _) ?_
      refine s_iconst C (pc := 344) (v := 0) dL_turned_344 (by decide) ?_
      refine s_iconst C (pc := 345) (v := 1) dL_turned_345 (by decide) ?_
      refine s_iconst C (pc := 346) (v := 1) dL_turned_346 (by decide) ?_
      refine s_calli C (pc := 347) (wr := [(hg, .inr (0, [.ref hgn, .int (nI u.1), .long u.2.2.1, .long u.2.2.2.1, .long u.2.2.2.2])), (hgn, .inl (X.2.1, 144, .inl (u.2.1)))]) (wc' := [(b, .inr (2, [.ref h, .ref tr, .ref hi, .ref sl, .ref sf, .ref hg, .int hc])), (h, .inr (1, [.ref hp, .ref hq, .int (nI n), .int (nI w), .int f, .int ll])), (hp, .inl (X.2.1, 4, .inl (P))), (hq, .inl (X.2.1, 4, .inl (Q)))]) (wn := [(b, .inr (2, [.ref h, .ref tr, .ref hi, .ref sl, .ref sf, .ref hg, .int hc])), (h, .inr (1, [.ref hp, .ref hq, .int (nI n), .int (nI w), .int f, .int ll])), (hp, .inl (X.2.1, 4, .inl (P))), (hq, .inl (X.2.1, 4, .inl (Q))), (hg, .inr (0, [.ref hgn, .int (nI u.1), .long u.2.2.1, .long u.2.2.2.1, .long u.2.2.2.2])), (hgn, .inl (X.2.1, 144, .inl (u.2.1)))]) (r_V C (As := [.int (nI i), .int (nI j), .int (nI (w + 1)), .int 0, .int 1, .int 1]) (rest := []) (kX2_kind_bad l X b tr hi sl sf hg hc h hp hq n P Q (nI w) f ll (nI i) (nI j) (nI (w + 1)) 0 1 1 (fun q => fp_big hw _ q.2.1) (by first | assumption | omega | decide)) (cwV 6 C.ts gL_turned_X2_kind rfl rfl rfl (by decide +kernel) ⟨Nat.le_of_ble_eq_true rfl, Nat.le_of_ble_eq_true rfl⟩) (q0 := 0) rfl rfl [0, 1, 2, 3] (by decide) rfl rfl (Nat.le_of_ble_eq_true rfl) rfl dL_turned_347 ⟨Nat.zero_le _, Nat.zero_le _⟩) [0, 1, 2, 3] [4, 5] [2, 3, 4, 5, 0, 1] rfl rfl (by decide) (by decide) (by decide) rfl ?_
      refine s_iconst C (pc := 350) (v := (-1)) dL_turned_350 (by decide) ?_
      refine s_icmp_ne C (pc := 351) (tgt := 358) dL_turned_351 (by decide) (fun h => absurd (by decide) h) (fun c351 => ?_)
      refine s_iconst C (pc := 354) (v := 1) dL_turned_354 (by decide) ?_
      refine s_goto C (pc := 355) (tgt := 359) dL_turned_355 (by decide) ?_
      exact s_zretX C (pc := 359) hr hlk ((u.1, u.2.1, u.2.2.1, u.2.2.2.1, u.2.2.2.2)) trivial [0, 1, 2, 3, 4, 5] (by decide) (rfl) rfl (rfl) dL_turned_359
    refine s_iload C (pc := 112) dL_turned_112 6 rfl ?_
    refine s_if_ne C (pc := 114) (tgt := 122) dL_turned_114 (by decide) (fun c114 => ?_) (fun c114 => ?_)
    · skip
      have f114 : za ≠ 0 := fun q => c114 ((iI_z0 (ow_o2 hw o_za)).mpr q)
      refine s_iload C (pc := 122) dL_turned_122 4 rfl ?_
      refine s_if_ne C (pc := 124) (tgt := 136) dL_turned_124 (by decide) (fun c124 => ?_) (fun c124 => ?_)
      · skip
        have f124 : zc ≠ 0 := fun q => c124 ((iI_z0 (ow_o2 hw o_zc)).mpr q)
        exact absurd (show (za ≠ 0 ∨ zb ≠ 0) ∧ (zc ≠ 0 ∨ zd ≠ 0) by omega) hz
      · skip
        have f124 : zc = 0 := (iI_z0 (ow_o2 hw o_zc)).mp c124
        refine s_iload C (pc := 127) dL_turned_127 3 rfl ?_
        refine s_if_ne C (pc := 129) (tgt := 136) dL_turned_129 (by decide) (fun c129 => ?_) (fun c129 => ?_)
        · skip
          have f129 : zd ≠ 0 := fun q => c129 ((iI_z0 (ow_o2 hw o_zd)).mpr q)
          exact absurd (show (za ≠ 0 ∨ zb ≠ 0) ∧ (zc ≠ 0 ∨ zd ≠ 0) by omega) hz
        · skip
          have f129 : zd = 0 := (iI_z0 (ow_o2 hw o_zd)).mp c129
          refine s_iconst C (pc := 132) (v := 1) dL_turned_132 (by decide) ?_
          refine s_goto C (pc := 133) (tgt := 137) dL_turned_133 (by decide) ?_
          exact J137 (z, F, ar0, lf, gl)
    · skip
      have f114 : za = 0 := (iI_z0 (ow_o2 hw o_za)).mp c114
      refine s_iload C (pc := 117) dL_turned_117 5 rfl ?_
      refine s_if_eq C (pc := 119) (tgt := 132) dL_turned_119 (by decide) (fun c119 => ?_) (fun c119 => ?_)
      · skip
        have f119 : zb = 0 := (iI_z0 (ow_o2 hw o_zb)).mp c119
        refine s_iconst C (pc := 132) (v := 1) dL_turned_132 (by decide) ?_
        refine s_goto C (pc := 133) (tgt := 137) dL_turned_133 (by decide) ?_
        exact J137 (z, F, ar0, lf, gl)
      · skip
        have f119 : zb ≠ 0 := fun q => c119 ((iI_z0 (ow_o2 hw o_zb)).mpr q)
        refine s_iload C (pc := 122) dL_turned_122 4 rfl ?_
        refine s_if_ne C (pc := 124) (tgt := 136) dL_turned_124 (by decide) (fun c124 => ?_) (fun c124 => ?_)
        · skip
          have f124 : zc ≠ 0 := fun q => c124 ((iI_z0 (ow_o2 hw o_zc)).mpr q)
          exact absurd (show (za ≠ 0 ∨ zb ≠ 0) ∧ (zc ≠ 0 ∨ zd ≠ 0) by omega) hz
        · skip
          have f124 : zc = 0 := (iI_z0 (ow_o2 hw o_zc)).mp c124
          refine s_iload C (pc := 127) dL_turned_127 3 rfl ?_
          refine s_if_ne C (pc := 129) (tgt := 136) dL_turned_129 (by decide) (fun c129 => ?_) (fun c129 => ?_)
          · skip
            have f129 : zd ≠ 0 := fun q => c129 ((iI_z0 (ow_o2 hw o_zd)).mpr q)
            exact absurd (show (za ≠ 0 ∨ zb ≠ 0) ∧ (zc ≠ 0 ∨ zd ≠ 0) by omega) hz
          · skip
            have f129 : zd = 0 := (iI_z0 (ow_o2 hw o_zd)).mp c129
            refine s_iconst C (pc := 132) (v := 1) dL_turned_132 (by decide) ?_
            refine s_goto C (pc := 133) (tgt := 137) dL_turned_133 (by decide) ?_
            exact J137 (z, F, ar0, lf, gl)

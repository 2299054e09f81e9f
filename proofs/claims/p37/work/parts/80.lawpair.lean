set_option maxHeartbeats 4000000 in
set_option maxRecDepth 100000 in
theorem kL_low (l : Launch) (X : XT) (v : Int32) (k : Nat) (hk1 : 1 ≤ k) (hk2 : k ≤ 1000) : KI l yL_low wsL_low ({ frames := 0, cells := 0, slots := 0, locals := 0 }) X [.int v, .int (nI k)] [] [] (nI (lowN v k)) := by
  refine k_ofI (cc := cL_low) (own := RL) (maxL := 2) (ret := (some .int)) (ls0 := [(0, .int v), (1, .int (nI k))]) (by decide) rfl rfl (Nat.le_of_ble_eq_true rfl) rfl ?_
  intro p e s m args below meth c A g C hr hlk
  refine s_iload_n C (pc := 0) dL_low_0 rfl 0 rfl ?_
  refine s_ldc C (pc := 1) (v := 2147483647) (List.mem_of_getElem? (i := 1) rfl) dL_low_1 ?_
  refine s_iand C (pc := 3) dL_low_3 ?_
  refine s_iload_n C (pc := 4) dL_low_4 rfl 1 rfl ?_
  refine s_irem C (pc := 5) dL_low_5 (by exact fun q => absurd ((nI_eq (a := k) (b := 0) (by omega) (by omega)).mp q) (by omega)) ?_
  exact s_iret C (pc := 6) hr hlk [] (by decide) (rfl) (low_e v hk1 hk2) dL_low_6

theorem kP_cnt (l : Launch) (X : XT) (b tr hi sl sf : Nat) (hc : Int32) (h hp hq n : Nat) (P Q : Nat → Int32) (w : Nat) (f ll : Int32) (hg hgn z : Nat) (F : Nat → Int32) (ar0 lf gl : Int64) (i j R : Nat) (nr sp : Nat → Nat) (hij : i < j) (hj : j < n) (hn : n ≤ 4) (hw : w = 1 ∨ w = 2) (hV : VP P Q n) (hB : BT P Q w i j f ll R nr sp) : KIx l yX2_beatCount wsX2_beatCount ({ frames := 4, cells := 0, slots := 0, locals := 100 }) X [.ref b, .int (nI i), .int (nI j)] [(b, .inr (2, [.ref h, .ref tr, .ref hi, .ref sl, .ref sf, .ref hg, .int hc])), (h, .inr (1, [.ref hp, .ref hq, .int (nI n), .int (nI w), .int f, .int ll])), (hp, .inl (X.2.1, 4, .inl (P))), (hq, .inl (X.2.1, 4, .inl (Q))), (hg, .inr (0, [.ref hgn, .int (nI z), .long ar0, .long lf, .long gl])), (hgn, .inl (X.2.1, 144, .inl (F)))] (fun u : GD => [(b, .inr (2, [.ref h, .ref tr, .ref hi, .ref sl, .ref sf, .ref hg, .int hc])), (h, .inr (1, [.ref hp, .ref hq, .int (nI n), .int (nI w), .int f, .int ll])), (hp, .inl (X.2.1, 4, .inl (P))), (hq, .inl (X.2.1, 4, .inl (Q))), (hg, .inr (0, [.ref hgn, .int (nI u.1), .long u.2.2.1, .long u.2.2.2.1, .long u.2.2.2.2])), (hgn, .inl (X.2.1, 144, .inl (u.2.1)))]) (fun _ => True) (nI R) := by
  have h1 := kX2_beatCount_ok l X b tr hi sl sf hc h hp hq n P Q w f ll hg hgn z F ar0 lf gl i j hij hj hn hw
  rw [hB.2.2.2.2.1] at h1
  exact h1

theorem kP_num (l : Launch) (X : XT) (b tr hi sl sf : Nat) (hc : Int32) (h hp hq n : Nat) (P Q : Nat → Int32) (w : Nat) (f ll : Int32) (hg hgn z : Nat) (F : Nat → Int32) (ar0 lf gl : Int64) (i j R : Nat) (nr sp : Nat → Nat) (r : Nat) (hij : i < j) (hj : j < n) (hn : n ≤ 4) (hw : w = 1 ∨ w = 2) (hV : VP P Q n) (hB : BT P Q w i j f ll R nr sp) (hr : r < R) : KLx l yX2_beatNumerator wsX2_beatNumerator ({ frames := 5, cells := 0, slots := 0, locals := 123 }) X [.ref b, .int (nI i), .int (nI j), .int (nI r)] [(b, .inr (2, [.ref h, .ref tr, .ref hi, .ref sl, .ref sf, .ref hg, .int hc])), (h, .inr (1, [.ref hp, .ref hq, .int (nI n), .int (nI w), .int f, .int ll])), (hp, .inl (X.2.1, 4, .inl (P))), (hq, .inl (X.2.1, 4, .inl (Q))), (hg, .inr (0, [.ref hgn, .int (nI z), .long ar0, .long lf, .long gl])), (hgn, .inl (X.2.1, 144, .inl (F)))] (fun u : GD => [(b, .inr (2, [.ref h, .ref tr, .ref hi, .ref sl, .ref sf, .ref hg, .int hc])), (h, .inr (1, [.ref hp, .ref hq, .int (nI n), .int (nI w), .int f, .int ll])), (hp, .inl (X.2.1, 4, .inl (P))), (hq, .inl (X.2.1, 4, .inl (Q))), (hg, .inr (0, [.ref hgn, .int (nI u.1), .long u.2.2.1, .long u.2.2.2.1, .long u.2.2.2.2])), (hgn, .inl (X.2.1, 144, .inl (u.2.1)))]) (fun _ => True) (lN (upN (nr r) (aP P Q i j))) := by
  have hr2 : r < 2 ^ 31 := by have := hB.1; omega
  have h1 := kX2_beatNumerator_ok l X b tr hi sl sf hc h hp hq n P Q w f ll hg hgn z F ar0 lf gl i j (nI r) hij hj hn hw (nI_pos' (by omega))
  rw [hB.2.2.2.2.2.1 r hr2, if_pos hr, if_pos (nI_pos' (by have := hB.2.1 r hr; omega)), aP_lN hV (show i < n by omega) hj, (ud_n (hB.2.1 r hr) (aP_bd hV (show i < n by omega) hj)).1] at h1
  exact h1

theorem kP_den (l : Launch) (X : XT) (b tr hi sl sf : Nat) (hc : Int32) (h hp hq n : Nat) (P Q : Nat → Int32) (w : Nat) (f ll : Int32) (hg hgn z : Nat) (F : Nat → Int32) (ar0 lf gl : Int64) (i j R : Nat) (nr sp : Nat → Nat) (r : Nat) (hij : i < j) (hj : j < n) (hn : n ≤ 4) (hw : w = 1 ∨ w = 2) (hV : VP P Q n) (hB : BT P Q w i j f ll R nr sp) (hr : r < R) : KLx l yX2_beatDenominator wsX2_beatDenominator ({ frames := 5, cells := 0, slots := 0, locals := 123 }) X [.ref b, .int (nI i), .int (nI j), .int (nI r)] [(b, .inr (2, [.ref h, .ref tr, .ref hi, .ref sl, .ref sf, .ref hg, .int hc])), (h, .inr (1, [.ref hp, .ref hq, .int (nI n), .int (nI w), .int f, .int ll])), (hp, .inl (X.2.1, 4, .inl (P))), (hq, .inl (X.2.1, 4, .inl (Q))), (hg, .inr (0, [.ref hgn, .int (nI z), .long ar0, .long lf, .long gl])), (hgn, .inl (X.2.1, 144, .inl (F)))] (fun u : GD => [(b, .inr (2, [.ref h, .ref tr, .ref hi, .ref sl, .ref sf, .ref hg, .int hc])), (h, .inr (1, [.ref hp, .ref hq, .int (nI n), .int (nI w), .int f, .int ll])), (hp, .inl (X.2.1, 4, .inl (P))), (hq, .inl (X.2.1, 4, .inl (Q))), (hg, .inr (0, [.ref hgn, .int (nI u.1), .long u.2.2.1, .long u.2.2.2.1, .long u.2.2.2.2])), (hgn, .inl (X.2.1, 144, .inl (u.2.1)))]) (fun _ => True) (lN (dnN (nr r) (aP P Q i j))) := by
  have hr2 : r < 2 ^ 31 := by have := hB.1; omega
  have h1 := kX2_beatDenominator_ok l X b tr hi sl sf hc h hp hq n P Q w f ll hg hgn z F ar0 lf gl i j (nI r) hij hj hn hw (nI_pos' (by omega))
  rw [hB.2.2.2.2.2.1 r hr2, if_pos hr, if_pos (nI_pos' (by have := hB.2.1 r hr; omega)), aP_lN hV (show i < n by omega) hj, (ud_n (hB.2.1 r hr) (aP_bd hV (show i < n by omega) hj)).2.1] at h1
  exact h1

theorem kP_frq (l : Launch) (X : XT) (b tr hi sl sf : Nat) (hc : Int32) (h hp hq n : Nat) (P Q : Nat → Int32) (w : Nat) (f ll : Int32) (hg hgn z : Nat) (F : Nat → Int32) (ar0 lf gl : Int64) (i j R : Nat) (nr sp : Nat → Nat) (r : Nat) (hij : i < j) (hj : j < n) (hn : n ≤ 4) (hw : w = 1 ∨ w = 2) (hV : VP P Q n) (hB : BT P Q w i j f ll R nr sp) (hr : r < R) : KIx l yX2_beatFrequency wsX2_beatFrequency ({ frames := 5, cells := 0, slots := 0, locals := 123 }) X [.ref b, .int (nI i), .int (nI j), .int (nI r)] [(b, .inr (2, [.ref h, .ref tr, .ref hi, .ref sl, .ref sf, .ref hg, .int hc])), (h, .inr (1, [.ref hp, .ref hq, .int (nI n), .int (nI w), .int f, .int ll])), (hp, .inl (X.2.1, 4, .inl (P))), (hq, .inl (X.2.1, 4, .inl (Q))), (hg, .inr (0, [.ref hgn, .int (nI z), .long ar0, .long lf, .long gl])), (hgn, .inl (X.2.1, 144, .inl (F)))] (fun u : GD => [(b, .inr (2, [.ref h, .ref tr, .ref hi, .ref sl, .ref sf, .ref hg, .int hc])), (h, .inr (1, [.ref hp, .ref hq, .int (nI n), .int (nI w), .int f, .int ll])), (hp, .inl (X.2.1, 4, .inl (P))), (hq, .inl (X.2.1, 4, .inl (Q))), (hg, .inr (0, [.ref hgn, .int (nI u.1), .long u.2.2.1, .long u.2.2.2.1, .long u.2.2.2.2])), (hgn, .inl (X.2.1, 144, .inl (u.2.1)))]) (fun _ => True) (nI (4 * (sp (r + 1) - sp r))) := by
  have hr2 : r < 2 ^ 31 := by have := hB.1; omega
  have h1 := kX2_beatFrequency_ok l X b tr hi sl sf hc h hp hq n P Q w f ll hg hgn z F ar0 lf gl i j (nI r) hij hj hn hw (nI_pos' (by omega))
  rw [hB.2.2.2.2.2.1 r hr2, if_pos hr, if_pos (nI_pos' (by have := hB.2.1 r hr; omega)), hB.2.2.2.2.2.2.1 r hr] at h1
  exact h1

theorem kP_per0 (l : Launch) (X : XT) (b tr hi sl sf : Nat) (hc : Int32) (h hp hq n : Nat) (P Q : Nat → Int32) (w : Nat) (f ll : Int32) (hg hgn z : Nat) (F : Nat → Int32) (ar0 lf gl : Int64) (i j R : Nat) (nr sp : Nat → Nat) (r : Nat) (hij : i < j) (hj : j < n) (hn : n ≤ 4) (hw : w = 1 ∨ w = 2) (hV : VP P Q n) (hB : BT P Q w i j f ll R nr sp) (hr : r < R) (hz0 : nr r = 0) : KIx l yX2_beatPeriod wsX2_beatPeriod ({ frames := 5, cells := 0, slots := 0, locals := 123 }) X [.ref b, .int (nI i), .int (nI j), .int (nI r)] [(b, .inr (2, [.ref h, .ref tr, .ref hi, .ref sl, .ref sf, .ref hg, .int hc])), (h, .inr (1, [.ref hp, .ref hq, .int (nI n), .int (nI w), .int f, .int ll])), (hp, .inl (X.2.1, 4, .inl (P))), (hq, .inl (X.2.1, 4, .inl (Q))), (hg, .inr (0, [.ref hgn, .int (nI z), .long ar0, .long lf, .long gl])), (hgn, .inl (X.2.1, 144, .inl (F)))] (fun u : GD => [(b, .inr (2, [.ref h, .ref tr, .ref hi, .ref sl, .ref sf, .ref hg, .int hc])), (h, .inr (1, [.ref hp, .ref hq, .int (nI n), .int (nI w), .int f, .int ll])), (hp, .inl (X.2.1, 4, .inl (P))), (hq, .inl (X.2.1, 4, .inl (Q))), (hg, .inr (0, [.ref hgn, .int (nI u.1), .long u.2.2.1, .long u.2.2.2.1, .long u.2.2.2.2])), (hgn, .inl (X.2.1, 144, .inl (u.2.1)))]) (fun _ => True) (-4) := by
  have hr2 : r < 2 ^ 31 := by have := hB.1; omega
  have h1 := kX2_beatPeriod_ok l X b tr hi sl sf hc h hp hq n P Q w f ll hg hgn z F ar0 lf gl i j (nI r) hij hj hn hw (nI_pos' (by omega))
  rw [hB.2.2.2.2.2.1 r hr2, if_pos hr, if_pos (nI_pos' (by have := hB.2.1 r hr; omega)), hz0, if_pos (show nI 0 = 0 from rfl)] at h1
  exact h1

theorem kP_perN (l : Launch) (X : XT) (b tr hi sl sf : Nat) (hc : Int32) (h hp hq n : Nat) (P Q : Nat → Int32) (w : Nat) (f ll : Int32) (hg hgn z : Nat) (F : Nat → Int32) (ar0 lf gl : Int64) (i j R : Nat) (nr sp : Nat → Nat) (r : Nat) (hij : i < j) (hj : j < n) (hn : n ≤ 4) (hw : w = 1 ∨ w = 2) (hV : VP P Q n) (hB : BT P Q w i j f ll R nr sp) (hr : r < R) (hz0 : ¬ nr r = 0) : KIx l yX2_beatPeriod wsX2_beatPeriod ({ frames := 5, cells := 0, slots := 0, locals := 123 }) X [.ref b, .int (nI i), .int (nI j), .int (nI r)] [(b, .inr (2, [.ref h, .ref tr, .ref hi, .ref sl, .ref sf, .ref hg, .int hc])), (h, .inr (1, [.ref hp, .ref hq, .int (nI n), .int (nI w), .int f, .int ll])), (hp, .inl (X.2.1, 4, .inl (P))), (hq, .inl (X.2.1, 4, .inl (Q))), (hg, .inr (0, [.ref hgn, .int (nI z), .long ar0, .long lf, .long gl])), (hgn, .inl (X.2.1, 144, .inl (F)))] (fun u : GD => [(b, .inr (2, [.ref h, .ref tr, .ref hi, .ref sl, .ref sf, .ref hg, .int hc])), (h, .inr (1, [.ref hp, .ref hq, .int (nI n), .int (nI w), .int f, .int ll])), (hp, .inl (X.2.1, 4, .inl (P))), (hq, .inl (X.2.1, 4, .inl (Q))), (hg, .inr (0, [.ref hgn, .int (nI u.1), .long u.2.2.1, .long u.2.2.2.1, .long u.2.2.2.2])), (hgn, .inl (X.2.1, 144, .inl (u.2.1)))]) (fun _ => True) (nI (isq (aP P Q i j / nr r))) := by
  have hr2 : r < 2 ^ 31 := by have := hB.1; omega
  have hN := hB.2.1 r hr
  have hA := aP_bd hV (show i < n by omega) hj
  have h1 := kX2_beatPeriod_ok l X b tr hi sl sf hc h hp hq n P Q w f ll hg hgn z F ar0 lf gl i j (nI r) hij hj hn hw (nI_pos' (by omega))
  rw [hB.2.2.2.2.2.1 r hr2, if_pos hr, if_pos (nI_pos' (by have := hB.2.1 r hr; omega)), if_neg (show ¬ nI (nr r) = 0 from fun q => hz0 ((nI_eq (a := nr r) (b := 0) (by omega) (by omega)).mp q)), aP_lN hV (show i < n by omega) hj, prI_n (by omega) (by omega)] at h1
  exact h1

theorem kP_numE (l : Launch) (X : XT) (b tr hi sl sf : Nat) (hc : Int32) (h hp hq n : Nat) (P Q : Nat → Int32) (w : Nat) (f ll : Int32) (hg hgn z : Nat) (F : Nat → Int32) (ar0 lf gl : Int64) (i j R : Nat) (nr sp : Nat → Nat) (r : Nat) (hij : i < j) (hj : j < n) (hn : n ≤ 4) (hw : w = 1 ∨ w = 2) (hV : VP P Q n) (hB : BT P Q w i j f ll R nr sp) (hr : R ≤ r) (hr2 : r < 2 ^ 31) : KLx l yX2_beatNumerator wsX2_beatNumerator ({ frames := 5, cells := 0, slots := 0, locals := 123 }) X [.ref b, .int (nI i), .int (nI j), .int (nI r)] [(b, .inr (2, [.ref h, .ref tr, .ref hi, .ref sl, .ref sf, .ref hg, .int hc])), (h, .inr (1, [.ref hp, .ref hq, .int (nI n), .int (nI w), .int f, .int ll])), (hp, .inl (X.2.1, 4, .inl (P))), (hq, .inl (X.2.1, 4, .inl (Q))), (hg, .inr (0, [.ref hgn, .int (nI z), .long ar0, .long lf, .long gl])), (hgn, .inl (X.2.1, 144, .inl (F)))] (fun u : GD => [(b, .inr (2, [.ref h, .ref tr, .ref hi, .ref sl, .ref sf, .ref hg, .int hc])), (h, .inr (1, [.ref hp, .ref hq, .int (nI n), .int (nI w), .int f, .int ll])), (hp, .inl (X.2.1, 4, .inl (P))), (hq, .inl (X.2.1, 4, .inl (Q))), (hg, .inr (0, [.ref hgn, .int (nI u.1), .long u.2.2.1, .long u.2.2.2.1, .long u.2.2.2.2])), (hgn, .inl (X.2.1, 144, .inl (u.2.1)))]) (fun _ => True) (-4) := by
  have h1 := kX2_beatNumerator_ok l X b tr hi sl sf hc h hp hq n P Q w f ll hg hgn z F ar0 lf gl i j (nI r) hij hj hn hw (nI_pos' (by omega))
  rw [hB.2.2.2.2.2.1 r hr2, if_neg (show ¬ r < R by omega), if_neg (show ¬ (0 : Int32) ≤ -4 by decide)] at h1
  exact h1

theorem kP_frqE (l : Launch) (X : XT) (b tr hi sl sf : Nat) (hc : Int32) (h hp hq n : Nat) (P Q : Nat → Int32) (w : Nat) (f ll : Int32) (hg hgn z : Nat) (F : Nat → Int32) (ar0 lf gl : Int64) (i j R : Nat) (nr sp : Nat → Nat) (r : Nat) (hij : i < j) (hj : j < n) (hn : n ≤ 4) (hw : w = 1 ∨ w = 2) (hV : VP P Q n) (hB : BT P Q w i j f ll R nr sp) (hr : R ≤ r) (hr2 : r < 2 ^ 31) : KIx l yX2_beatFrequency wsX2_beatFrequency ({ frames := 5, cells := 0, slots := 0, locals := 123 }) X [.ref b, .int (nI i), .int (nI j), .int (nI r)] [(b, .inr (2, [.ref h, .ref tr, .ref hi, .ref sl, .ref sf, .ref hg, .int hc])), (h, .inr (1, [.ref hp, .ref hq, .int (nI n), .int (nI w), .int f, .int ll])), (hp, .inl (X.2.1, 4, .inl (P))), (hq, .inl (X.2.1, 4, .inl (Q))), (hg, .inr (0, [.ref hgn, .int (nI z), .long ar0, .long lf, .long gl])), (hgn, .inl (X.2.1, 144, .inl (F)))] (fun u : GD => [(b, .inr (2, [.ref h, .ref tr, .ref hi, .ref sl, .ref sf, .ref hg, .int hc])), (h, .inr (1, [.ref hp, .ref hq, .int (nI n), .int (nI w), .int f, .int ll])), (hp, .inl (X.2.1, 4, .inl (P))), (hq, .inl (X.2.1, 4, .inl (Q))), (hg, .inr (0, [.ref hgn, .int (nI u.1), .long u.2.2.1, .long u.2.2.2.1, .long u.2.2.2.2])), (hgn, .inl (X.2.1, 144, .inl (u.2.1)))]) (fun _ => True) (-4) := by
  have h1 := kX2_beatFrequency_ok l X b tr hi sl sf hc h hp hq n P Q w f ll hg hgn z F ar0 lf gl i j (nI r) hij hj hn hw (nI_pos' (by omega))
  rw [hB.2.2.2.2.2.1 r hr2, if_neg (show ¬ r < R by omega), if_neg (show ¬ (0 : Int32) ≤ -4 by decide)] at h1
  exact h1

theorem kP_lck (l : Launch) (X : XT) (b tr hi sl sf : Nat) (hc : Int32) (h hp hq n : Nat) (P Q : Nat → Int32) (w : Nat) (f ll : Int32) (hg hgn z : Nat) (F : Nat → Int32) (ar0 lf gl : Int64) (i j R : Nat) (nr sp : Nat → Nat) (hij : i < j) (hj : j < n) (hn : n ≤ 4) (hw : w = 1 ∨ w = 2) (hV : VP P Q n) (hB : BT P Q w i j f ll R nr sp) : KIx l yX2_locked wsX2_locked ({ frames := 4, cells := 0, slots := 0, locals := 100 }) X [.ref b, .int (nI i), .int (nI j)] [(b, .inr (2, [.ref h, .ref tr, .ref hi, .ref sl, .ref sf, .ref hg, .int hc])), (h, .inr (1, [.ref hp, .ref hq, .int (nI n), .int (nI w), .int f, .int ll])), (hp, .inl (X.2.1, 4, .inl (P))), (hq, .inl (X.2.1, 4, .inl (Q))), (hg, .inr (0, [.ref hgn, .int (nI z), .long ar0, .long lf, .long gl])), (hgn, .inl (X.2.1, 144, .inl (F)))] (fun u : GD => [(b, .inr (2, [.ref h, .ref tr, .ref hi, .ref sl, .ref sf, .ref hg, .int hc])), (h, .inr (1, [.ref hp, .ref hq, .int (nI n), .int (nI w), .int f, .int ll])), (hp, .inl (X.2.1, 4, .inl (P))), (hq, .inl (X.2.1, 4, .inl (Q))), (hg, .inr (0, [.ref hgn, .int (nI u.1), .long u.2.2.1, .long u.2.2.2.1, .long u.2.2.2.2])), (hgn, .inl (X.2.1, 144, .inl (u.2.1)))]) (fun _ => True) (nI (if nr 0 = 0 then 4 * sp 1 else 0)) := by
  have h1 := kX2_locked_ok l X b tr hi sl sf hc h hp hq n P Q w f ll hg hgn z F ar0 lf gl i j hij hj hn hw
  rw [hB.2.2.2.2.2.2.2.1] at h1
  exact h1

theorem kP_bnd (l : Launch) (X : XT) (b tr hi sl sf : Nat) (hc : Int32) (h hp hq n : Nat) (P Q : Nat → Int32) (w : Nat) (f ll : Int32) (hg hgn z : Nat) (F : Nat → Int32) (ar0 lf gl : Int64) (i j B : Nat) (hij : i < j) (hj : j < n) (hn : n ≤ 4) (hw : w = 1 ∨ w = 2) (hBB : pbI P Q w f ll i j = nI (4 * B)) : KIx l yX2_bands wsX2_bands ({ frames := 5, cells := 0, slots := 0, locals := 122 }) X [.ref b, .int (nI i), .int (nI j)] [(b, .inr (2, [.ref h, .ref tr, .ref hi, .ref sl, .ref sf, .ref hg, .int hc])), (h, .inr (1, [.ref hp, .ref hq, .int (nI n), .int (nI w), .int f, .int ll])), (hp, .inl (X.2.1, 4, .inl (P))), (hq, .inl (X.2.1, 4, .inl (Q))), (hg, .inr (0, [.ref hgn, .int (nI z), .long ar0, .long lf, .long gl])), (hgn, .inl (X.2.1, 144, .inl (F)))] (fun u : GD => [(b, .inr (2, [.ref h, .ref tr, .ref hi, .ref sl, .ref sf, .ref hg, .int hc])), (h, .inr (1, [.ref hp, .ref hq, .int (nI n), .int (nI w), .int f, .int ll])), (hp, .inl (X.2.1, 4, .inl (P))), (hq, .inl (X.2.1, 4, .inl (Q))), (hg, .inr (0, [.ref hgn, .int (nI u.1), .long u.2.2.1, .long u.2.2.2.1, .long u.2.2.2.2])), (hgn, .inl (X.2.1, 144, .inl (u.2.1)))]) (fun _ => True) (nI (4 * B)) := by
  have h1 := kX2_bands_ok l X b tr hi sl sf hc h hp hq n P Q w f ll hg hgn z F ar0 lf gl i j hij hj hn hw
  rw [hBB] at h1
  exact h1

set_option maxHeartbeats 4000000 in
set_option maxRecDepth 100000 in
theorem kL_pair (l : Launch) (X : XT) (b tr hi sl sf : Nat) (hc : Int32) (h hp hq n : Nat) (P Q : Nat → Int32) (w : Nat) (f ll : Int32) (hg hgn z : Nat) (F : Nat → Int32) (ar0 lf gl : Int64) (i j : Nat) (hij : i < j) (hj : j < n) (hn : n ≤ 4) (hw : w = 1 ∨ w = 2) (hV : VP P Q n) (hL : LV f ll) : KIx l yL_pair wsL_pair ({ frames := 6, cells := 0, slots := 0, locals := 147 }) X [.ref b, .int (nI i), .int (nI j), .int (nI w)] [(b, .inr (2, [.ref h, .ref tr, .ref hi, .ref sl, .ref sf, .ref hg, .int hc])), (h, .inr (1, [.ref hp, .ref hq, .int (nI n), .int (nI w), .int f, .int ll])), (hp, .inl (X.2.1, 4, .inl (P))), (hq, .inl (X.2.1, 4, .inl (Q))), (hg, .inr (0, [.ref hgn, .int (nI z), .long ar0, .long lf, .long gl])), (hgn, .inl (X.2.1, 144, .inl (F)))] (fun u : GD => [(b, .inr (2, [.ref h, .ref tr, .ref hi, .ref sl, .ref sf, .ref hg, .int hc])), (h, .inr (1, [.ref hp, .ref hq, .int (nI n), .int (nI w), .int f, .int ll])), (hp, .inl (X.2.1, 4, .inl (P))), (hq, .inl (X.2.1, 4, .inl (Q))), (hg, .inr (0, [.ref hgn, .int (nI u.1), .long u.2.2.1, .long u.2.2.2.1, .long u.2.2.2.2])), (hgn, .inl (X.2.1, 144, .inl (u.2.1)))]) (fun _ => True) (1) := by
  have hi : i < n := by omega
  have hA := aP_bd hV hi hj
  obtain ⟨R, nr, sp, hB⟩ := BT_ex hV hL hi hj hw
  obtain ⟨hR, hnr, hinc, ⟨hsp0, hspR, hsp⟩, hB5, hB6, hB7, hB8, B, hBB, hBle⟩ := id hB
  have hq := qtN_bd hw
  refine k_ofIx (cc := cL_pair) (own := RL) (maxL := 21) (ret := (some .boolean)) (ls0 := [(0, .ref b), (1, .int (nI i)), (2, .int (nI j)), (3, .int (nI w))]) (by decide) rfl rfl (Nat.le_of_ble_eq_true rfl) rfl ?_
  intro p e s m args below meth c A g C hr hlk
  refine s_iconst C (pc := 0) (v := 0) dL_pair_0 (by decide) ?_
  refine s_istore C (pc := 1) (ls' := [(4, .int 0), (0, .ref b), (1, .int (nI i)), (2, .int (nI j)), (3, .int (nI w))]) dL_pair_1 (by decide) rfl ?_
  refine s_aload_n C (pc := 3) dL_pair_3 rfl 1 rfl ?_
  refine s_iload_n C (pc := 4) dL_pair_4 rfl 2 rfl ?_
  refine s_iload_n C (pc := 5) dL_pair_5 rfl 3 rfl ?_
  refine s_calliX C (pc := 6) (wr := []) (wc' := (fun u6_1 : GD => [(b, .inr (2, [.ref h, .ref tr, .ref hi, .ref sl, .ref sf, .ref hg, .int hc])), (h, .inr (1, [.ref hp, .ref hq, .int (nI n), .int (nI w), .int f, .int ll])), (hp, .inl (X.2.1, 4, .inl (P))), (hq, .inl (X.2.1, 4, .inl (Q))), (hg, .inr (0, [.ref hgn, .int (nI u6_1.1), .long u6_1.2.2.1, .long u6_1.2.2.2.1, .long u6_1.2.2.2.2])), (hgn, .inl (X.2.1, 144, .inl (u6_1.2.1)))])) (wn := (fun u6_1 : GD => [(b, .inr (2, [.ref h, .ref tr, .ref hi, .ref sl, .ref sf, .ref hg, .int hc])), (h, .inr (1, [.ref hp, .ref hq, .int (nI n), .int (nI w), .int f, .int ll])), (hp, .inl (X.2.1, 4, .inl (P))), (hq, .inl (X.2.1, 4, .inl (Q))), (hg, .inr (0, [.ref hgn, .int (nI u6_1.1), .long u6_1.2.2.1, .long u6_1.2.2.2.1, .long u6_1.2.2.2.2])), (hgn, .inl (X.2.1, 144, .inl (u6_1.2.1)))])) (r_V C (As := [.int (nI i), .int (nI j)]) (rest := []) (kP_cnt l X b tr hi sl sf hc h hp hq n P Q w f ll hg hgn z F ar0 lf gl i j R nr sp (by first | assumption | omega | decide) (by first | assumption | omega | decide) (by first | assumption | omega | decide) (by first | assumption | omega | decide) (by first | assumption | omega | decide) (by first | assumption | omega | decide)) (cwV 2 C.ts gL_pair_X2_beatCount rfl rfl rfl (by decide +kernel) ⟨Nat.le_of_ble_eq_true rfl, Nat.le_of_ble_eq_true rfl⟩) (q0 := 0) rfl rfl [0, 1, 2, 3, 4, 5] (by decide) rfl rfl (Nat.le_of_ble_eq_true rfl) rfl dL_pair_6 ⟨Nat.zero_le _, Nat.zero_le _⟩) [0, 1, 2, 3, 4, 5] [] [0, 1, 2, 3, 4, 5] rfl rfl (by decide) (by decide) (by decide) (fun _ => rfl) (fun u6_1 _ => ?_)
  refine s_istore C (pc := 9) (ls' := [(5, .int (nI R)), (4, .int 0), (0, .ref b), (1, .int (nI i)), (2, .int (nI j)), (3, .int (nI w))]) dL_pair_9 (by decide) rfl ?_
  refine s_aload_n C (pc := 11) dL_pair_11 rfl 2 rfl ?_
  refine s_iload_n C (pc := 12) dL_pair_12 rfl 3 rfl ?_
  refine s_calli C (pc := 13) (wr := [(hg, .inr (0, [.ref hgn, .int (nI u6_1.1), .long u6_1.2.2.1, .long u6_1.2.2.2.1, .long u6_1.2.2.2.2])), (hgn, .inl (X.2.1, 144, .inl (u6_1.2.1)))]) (wc' := [(b, .inr (2, [.ref h, .ref tr, .ref hi, .ref sl, .ref sf, .ref hg, .int hc])), (h, .inr (1, [.ref hp, .ref hq, .int (nI n), .int (nI w), .int f, .int ll])), (hp, .inl (X.2.1, 4, .inl (P))), (hq, .inl (X.2.1, 4, .inl (Q)))]) (wn := [(b, .inr (2, [.ref h, .ref tr, .ref hi, .ref sl, .ref sf, .ref hg, .int hc])), (h, .inr (1, [.ref hp, .ref hq, .int (nI n), .int (nI w), .int f, .int ll])), (hp, .inl (X.2.1, 4, .inl (P))), (hq, .inl (X.2.1, 4, .inl (Q))), (hg, .inr (0, [.ref hgn, .int (nI u6_1.1), .long u6_1.2.2.1, .long u6_1.2.2.2.1, .long u6_1.2.2.2.2])), (hgn, .inl (X.2.1, 144, .inl (u6_1.2.1)))]) (r_V C (As := [.int (nI i)]) (rest := []) (kX2_cellArea_ok l X b tr hi sl sf hg hc h hp hq n P Q (nI w) f ll i hi (by first | assumption | omega | decide)) (cwV 1 C.ts gL_pair_X2_cellArea rfl rfl rfl (by decide +kernel) ⟨Nat.le_of_ble_eq_true rfl, Nat.le_of_ble_eq_true rfl⟩) (q0 := 0) rfl rfl [0, 1, 2, 3] (by decide) rfl rfl (Nat.le_of_ble_eq_true rfl) rfl dL_pair_13 ⟨Nat.zero_le _, Nat.zero_le _⟩) [0, 1, 2, 3] [4, 5] [2, 3, 4, 5, 0, 1] rfl rfl (by decide) (by decide) (by decide) rfl ?_
  refine s_i2l C (pc := 16) dL_pair_16 ?_
  refine s_aload_n C (pc := 17) dL_pair_17 rfl 2 rfl ?_
  refine s_iload_n C (pc := 18) dL_pair_18 rfl 4 rfl ?_
  refine s_calli C (pc := 19) (wr := [(hg, .inr (0, [.ref hgn, .int (nI u6_1.1), .long u6_1.2.2.1, .long u6_1.2.2.2.1, .long u6_1.2.2.2.2])), (hgn, .inl (X.2.1, 144, .inl (u6_1.2.1)))]) (wc' := [(b, .inr (2, [.ref h, .ref tr, .ref hi, .ref sl, .ref sf, .ref hg, .int hc])), (h, .inr (1, [.ref hp, .ref hq, .int (nI n), .int (nI w), .int f, .int ll])), (hp, .inl (X.2.1, 4, .inl (P))), (hq, .inl (X.2.1, 4, .inl (Q)))]) (wn := [(b, .inr (2, [.ref h, .ref tr, .ref hi, .ref sl, .ref sf, .ref hg, .int hc])), (h, .inr (1, [.ref hp, .ref hq, .int (nI n), .int (nI w), .int f, .int ll])), (hp, .inl (X.2.1, 4, .inl (P))), (hq, .inl (X.2.1, 4, .inl (Q))), (hg, .inr (0, [.ref hgn, .int (nI u6_1.1), .long u6_1.2.2.1, .long u6_1.2.2.2.1, .long u6_1.2.2.2.2])), (hgn, .inl (X.2.1, 144, .inl (u6_1.2.1)))]) (r_V C (As := [.int (nI j)]) (rest := [.long ((ar P Q i).toInt64)]) (kX2_cellArea_ok l X b tr hi sl sf hg hc h hp hq n P Q (nI w) f ll j hj (by first | assumption | omega | decide)) (cwV 1 C.ts gL_pair_X2_cellArea rfl rfl rfl (by decide +kernel) ⟨Nat.le_of_ble_eq_true rfl, Nat.le_of_ble_eq_true rfl⟩) (q0 := 0) rfl rfl [0, 1, 2, 3] (by decide) rfl rfl (Nat.le_of_ble_eq_true rfl) rfl dL_pair_19 ⟨Nat.zero_le _, Nat.zero_le _⟩) [0, 1, 2, 3] [4, 5] [2, 3, 4, 5, 0, 1] rfl rfl (by decide) (by decide) (by decide) rfl ?_
  refine s_i2l C (pc := 22) dL_pair_22 ?_
  refine s_lmul C (pc := 23) dL_pair_23 ?_
  refine s_topl C (y := lN (aP P Q i j)) (aP_lN hV hi hj) ?_
  refine s_lstore C (pc := 24) (ls' := [(6, .long (lN (aP P Q i j))), (5, .int (nI R)), (4, .int 0), (0, .ref b), (1, .int (nI i)), (2, .int (nI j)), (3, .int (nI w))]) dL_pair_24 (by decide) rfl ?_
  refine s_ldc2 C (pc := 26) (v := (-1)) (List.mem_of_getElem? (i := 1) rfl) dL_pair_26 ?_
  refine s_lstore C (pc := 29) (ls' := [(8, .long (-1)), (6, .long (lN (aP P Q i j))), (5, .int (nI R)), (4, .int 0), (0, .ref b), (1, .int (nI i)), (2, .int (nI j)), (3, .int (nI w))]) dL_pair_29 (by decide) rfl ?_
  have J64 : ∀ (st : Nat) (u : GD), (1 ≤ st) → (st ≤ 20) → g [(b, .inr (2, [.ref h, .ref tr, .ref hi, .ref sl, .ref sf, .ref hg, .int hc])), (h, .inr (1, [.ref hp, .ref hq, .int (nI n), .int (nI w), .int f, .int ll])), (hp, .inl (X.2.1, 4, .inl (P))), (hq, .inl (X.2.1, 4, .inl (Q))), (hg, .inr (0, [.ref hgn, .int (nI u.1), .long u.2.2.1, .long u.2.2.2.1, .long u.2.2.2.2])), (hgn, .inl (X.2.1, 144, .inl (u.2.1)))] 64 [(0, .ref b), (1, .int (nI i)), (2, .int (nI j)), (3, .int (nI w)), (4, .int 0), (5, .int (nI R)), (6, .long (lN (aP P Q i j))), (8, .long (-1)), (10, .int (nI st)), (11, .int (nI (4 * qtN w)))] [] := by
    intro st u hst1 hst2
    refine s_iconst C (pc := 64) (v := 0) dL_pair_64 (by decide) ?_
    refine s_istore C (pc := 65) (ls' := [(12, .int 0), (0, .ref b), (1, .int (nI i)), (2, .int (nI j)), (3, .int (nI w)), (4, .int 0), (5, .int (nI R)), (6, .long (lN (aP P Q i j))), (8, .long (-1)), (10, .int (nI st)), (11, .int (nI (4 * qtN w)))]) dL_pair_65 (by decide) rfl ?_
    have L67 : ∀ (n_ : Nat) (r a : Nat) (la : Int64) (u2 : GD), (r ≤ R + 20) → (st = 1 → r ≤ R) → (st = 1 → a = 4 * sp r) → (la = -1 ∨ ∃ r0, r0 < r ∧ r0 < R ∧ la = lN (nr r0 * aP P Q i j)) → R + 21 ≤ r + n_ → g [(b, .inr (2, [.ref h, .ref tr, .ref hi, .ref sl, .ref sf, .ref hg, .int hc])), (h, .inr (1, [.ref hp, .ref hq, .int (nI n), .int (nI w), .int f, .int ll])), (hp, .inl (X.2.1, 4, .inl (P))), (hq, .inl (X.2.1, 4, .inl (Q))), (hg, .inr (0, [.ref hgn, .int (nI u2.1), .long u2.2.2.1, .long u2.2.2.2.1, .long u2.2.2.2.2])), (hgn, .inl (X.2.1, 144, .inl (u2.2.1)))] 67 [(0, .ref b), (1, .int (nI i)), (2, .int (nI j)), (3, .int (nI w)), (4, .int (nI a)), (5, .int (nI R)), (6, .long (lN (aP P Q i j))), (8, .long la), (10, .int (nI st)), (11, .int (nI (4 * qtN w))), (12, .int (nI r))] [] := by
      intro n_
      induction n_ with
      | zero =>
        intro r a la u2 hr hr1 ha hla hf
        exact absurd hf (by omega)
      | succ n_ ih67 =>
        intro r a la u2 hr hr1 ha hla hf67
        refine s_iload C (pc := 67) dL_pair_67 10 rfl ?_
        refine s_iload C (pc := 69) dL_pair_69 5 rfl ?_
        refine s_icmp_ge C (pc := 71) (tgt := 288) dL_pair_71 (by decide) (fun c71 => ?_) (fun c71 => ?_)
        · skip
          have e71 := nat_le (a := R) (b := r) (by omega) (by omega) c71
          refine s_aload_n C (pc := 288) dL_pair_288 rfl 0 rfl ?_
          refine s_iload_n C (pc := 289) dL_pair_289 rfl 1 rfl ?_
          refine s_iload_n C (pc := 290) dL_pair_290 rfl 2 rfl ?_
          by_cases h00 : nr 0 = 0
          · skip
            refine s_iconst C (pc := 291) (v := 0) dL_pair_291 (by decide) ?_
            refine s_calllX C (pc := 292) (wr := []) (wc' := (fun u292_2 : GD => [(b, .inr (2, [.ref h, .ref tr, .ref hi, .ref sl, .ref sf, .ref hg, .int hc])), (h, .inr (1, [.ref hp, .ref hq, .int (nI n), .int (nI w), .int f, .int ll])), (hp, .inl (X.2.1, 4, .inl (P))), (hq, .inl (X.2.1, 4, .inl (Q))), (hg, .inr (0, [.ref hgn, .int (nI u292_2.1), .long u292_2.2.2.1, .long u292_2.2.2.2.1, .long u292_2.2.2.2.2])), (hgn, .inl (X.2.1, 144, .inl (u292_2.2.1)))])) (wn := (fun u292_2 : GD => [(b, .inr (2, [.ref h, .ref tr, .ref hi, .ref sl, .ref sf, .ref hg, .int hc])), (h, .inr (1, [.ref hp, .ref hq, .int (nI n), .int (nI w), .int f, .int ll])), (hp, .inl (X.2.1, 4, .inl (P))), (hq, .inl (X.2.1, 4, .inl (Q))), (hg, .inr (0, [.ref hgn, .int (nI u292_2.1), .long u292_2.2.2.1, .long u292_2.2.2.2.1, .long u292_2.2.2.2.2])), (hgn, .inl (X.2.1, 144, .inl (u292_2.2.1)))])) (r_V C (As := [.int (nI i), .int (nI j), .int 0]) (rest := []) (kP_num l X b tr hi sl sf hc h hp hq n P Q w f ll hg hgn u2.1 u2.2.1 u2.2.2.1 u2.2.2.2.1 u2.2.2.2.2 i j R nr sp 0 (by first | assumption | omega | decide) (by first | assumption | omega | decide) (by first | assumption | omega | decide) (by first | assumption | omega | decide) (by first | assumption | omega | decide) (by first | assumption | omega | decide) (by first | assumption | omega | decide)) (cwV 3 C.ts gL_pair_X2_beatNumerator rfl rfl rfl (by decide +kernel) ⟨Nat.le_of_ble_eq_true rfl, Nat.le_of_ble_eq_true rfl⟩) (q0 := 0) rfl rfl [0, 1, 2, 3, 4, 5] (by decide) rfl rfl (Nat.le_of_ble_eq_true rfl) rfl dL_pair_292 ⟨Nat.zero_le _, Nat.zero_le _⟩) [0, 1, 2, 3, 4, 5] [] [0, 1, 2, 3, 4, 5] rfl rfl (by decide) (by decide) (by decide) (fun _ => rfl) (fun u292_2 _ => ?_)
            refine s_lconst C (pc := 295) (v := 0) dL_pair_295 (by decide) ?_
            refine s_lcmp_ne C (pc := 296) (tgt := 304) dL_pair_296 dL_pair_297 (by decide) (fun c296 => ?_) (fun c296 => ?_)
            · skip
              refine s_iconst C (pc := 304) (v := 0) dL_pair_304 (by decide) ?_
              refine s_istore C (pc := 305) (ls' := [(12, .int 0), (0, .ref b), (1, .int (nI i)), (2, .int (nI j)), (3, .int (nI w)), (4, .int (nI a)), (5, .int (nI R)), (6, .long (lN (aP P Q i j))), (8, .long la), (10, .int (nI st)), (11, .int (nI (4 * qtN w)))]) dL_pair_305 (by decide) rfl ?_
              refine s_iload C (pc := 307) dL_pair_307 9 rfl ?_
              refine s_iconst C (pc := 309) (v := 1) dL_pair_309 (by decide) ?_
              refine s_icmp_gt C (pc := 310) (tgt := 320) dL_pair_310 (by decide) (fun c310 => ?_) (fun c310 => ?_)
              · skip
                have e310 := nat_lt (a := 1) (b := st) (by omega) (by omega) c310
                refine s_iload C (pc := 320) dL_pair_320 0 rfl ?_
                refine s_if_ne C (pc := 322) (tgt := 334) dL_pair_322 (by decide) (fun h => absurd (by decide) h) (fun c322 => ?_)
                refine s_aload_n C (pc := 325) dL_pair_325 rfl 1 rfl ?_
                refine s_iload_n C (pc := 326) dL_pair_326 rfl 2 rfl ?_
                refine s_iload_n C (pc := 327) dL_pair_327 rfl 3 rfl ?_
                refine s_calliX C (pc := 328) (wr := []) (wc' := (fun u328_3 : GD => [(b, .inr (2, [.ref h, .ref tr, .ref hi, .ref sl, .ref sf, .ref hg, .int hc])), (h, .inr (1, [.ref hp, .ref hq, .int (nI n), .int (nI w), .int f, .int ll])), (hp, .inl (X.2.1, 4, .inl (P))), (hq, .inl (X.2.1, 4, .inl (Q))), (hg, .inr (0, [.ref hgn, .int (nI u328_3.1), .long u328_3.2.2.1, .long u328_3.2.2.2.1, .long u328_3.2.2.2.2])), (hgn, .inl (X.2.1, 144, .inl (u328_3.2.1)))])) (wn := (fun u328_3 : GD => [(b, .inr (2, [.ref h, .ref tr, .ref hi, .ref sl, .ref sf, .ref hg, .int hc])), (h, .inr (1, [.ref hp, .ref hq, .int (nI n), .int (nI w), .int f, .int ll])), (hp, .inl (X.2.1, 4, .inl (P))), (hq, .inl (X.2.1, 4, .inl (Q))), (hg, .inr (0, [.ref hgn, .int (nI u328_3.1), .long u328_3.2.2.1, .long u328_3.2.2.2.1, .long u328_3.2.2.2.2])), (hgn, .inl (X.2.1, 144, .inl (u328_3.2.1)))])) (r_V C (As := [.int (nI i), .int (nI j)]) (rest := []) (kP_lck l X b tr hi sl sf hc h hp hq n P Q w f ll hg hgn u292_2.1 u292_2.2.1 u292_2.2.2.1 u292_2.2.2.2.1 u292_2.2.2.2.2 i j R nr sp (by first | assumption | omega | decide) (by first | assumption | omega | decide) (by first | assumption | omega | decide) (by first | assumption | omega | decide) (by first | assumption | omega | decide) (by first | assumption | omega | decide)) (cwV 2 C.ts gL_pair_X2_locked rfl rfl rfl (by decide +kernel) ⟨Nat.le_of_ble_eq_true rfl, Nat.le_of_ble_eq_true rfl⟩) (q0 := 0) rfl rfl [0, 1, 2, 3, 4, 5] (by decide) rfl rfl (Nat.le_of_ble_eq_true rfl) rfl dL_pair_328 ⟨Nat.zero_le _, Nat.zero_le _⟩) [0, 1, 2, 3, 4, 5] [] [0, 1, 2, 3, 4, 5] rfl rfl (by decide) (by decide) (by decide) (fun _ => rfl) (fun u328_3 _ => ?_)
                refine s_top C (y := 0) ((congrArg nI (if_neg h00))) ?_
                refine s_if_ne C (pc := 331) (tgt := 395) dL_pair_331 (by decide) (fun h => absurd (by decide) h) (fun c331 => ?_)
                refine s_aload_n C (pc := 334) dL_pair_334 rfl 1 rfl ?_
                refine s_iload_n C (pc := 335) dL_pair_335 rfl 2 rfl ?_
                refine s_iload_n C (pc := 336) dL_pair_336 rfl 3 rfl ?_
                refine s_iload C (pc := 337) dL_pair_337 6 rfl ?_
                refine s_calliX C (pc := 339) (wr := []) (wc' := (fun u339_4 : GD => [(b, .inr (2, [.ref h, .ref tr, .ref hi, .ref sl, .ref sf, .ref hg, .int hc])), (h, .inr (1, [.ref hp, .ref hq, .int (nI n), .int (nI w), .int f, .int ll])), (hp, .inl (X.2.1, 4, .inl (P))), (hq, .inl (X.2.1, 4, .inl (Q))), (hg, .inr (0, [.ref hgn, .int (nI u339_4.1), .long u339_4.2.2.1, .long u339_4.2.2.2.1, .long u339_4.2.2.2.2])), (hgn, .inl (X.2.1, 144, .inl (u339_4.2.1)))])) (wn := (fun u339_4 : GD => [(b, .inr (2, [.ref h, .ref tr, .ref hi, .ref sl, .ref sf, .ref hg, .int hc])), (h, .inr (1, [.ref hp, .ref hq, .int (nI n), .int (nI w), .int f, .int ll])), (hp, .inl (X.2.1, 4, .inl (P))), (hq, .inl (X.2.1, 4, .inl (Q))), (hg, .inr (0, [.ref hgn, .int (nI u339_4.1), .long u339_4.2.2.1, .long u339_4.2.2.2.1, .long u339_4.2.2.2.2])), (hgn, .inl (X.2.1, 144, .inl (u339_4.2.1)))])) (r_V C (As := [.int (nI i), .int (nI j), .int (nI R)]) (rest := []) (kP_frqE l X b tr hi sl sf hc h hp hq n P Q w f ll hg hgn u328_3.1 u328_3.2.1 u328_3.2.2.1 u328_3.2.2.2.1 u328_3.2.2.2.2 i j R nr sp R (by first | assumption | omega | decide) (by first | assumption | omega | decide) (by first | assumption | omega | decide) (by first | assumption | omega | decide) (by first | assumption | omega | decide) (by first | assumption | omega | decide) (by first | assumption | omega | decide) (by first | assumption | omega | decide)) (cwV 3 C.ts gL_pair_X2_beatFrequency rfl rfl rfl (by decide +kernel) ⟨Nat.le_of_ble_eq_true rfl, Nat.le_of_ble_eq_true rfl⟩) (q0 := 0) rfl rfl [0, 1, 2, 3, 4, 5] (by decide) rfl rfl (Nat.le_of_ble_eq_true rfl) rfl dL_pair_339 ⟨Nat.zero_le _, Nat.zero_le _⟩) [0, 1, 2, 3, 4, 5] [] [0, 1, 2, 3, 4, 5] rfl rfl (by decide) (by decide) (by decide) (fun _ => rfl) (fun u339_4 _ => ?_)
                refine s_bipush C (pc := 342) (v := (-4)) dL_pair_342 (by decide) ?_
                refine s_icmp_ne C (pc := 344) (tgt := 395) dL_pair_344 (by decide) (fun h => absurd (by decide) h) (fun c344 => ?_)
                refine s_aload_n C (pc := 347) dL_pair_347 rfl 1 rfl ?_
                refine s_iload_n C (pc := 348) dL_pair_348 rfl 2 rfl ?_
                refine s_iload_n C (pc := 349) dL_pair_349 rfl 3 rfl ?_
                refine s_iload C (pc := 350) dL_pair_350 6 rfl ?_
                refine s_calllX C (pc := 352) (wr := []) (wc' := (fun u352_5 : GD => [(b, .inr (2, [.ref h, .ref tr, .ref hi, .ref sl, .ref sf, .ref hg, .int hc])), (h, .inr (1, [.ref hp, .ref hq, .int (nI n), .int (nI w), .int f, .int ll])), (hp, .inl (X.2.1, 4, .inl (P))), (hq, .inl (X.2.1, 4, .inl (Q))), (hg, .inr (0, [.ref hgn, .int (nI u352_5.1), .long u352_5.2.2.1, .long u352_5.2.2.2.1, .long u352_5.2.2.2.2])), (hgn, .inl (X.2.1, 144, .inl (u352_5.2.1)))])) (wn := (fun u352_5 : GD => [(b, .inr (2, [.ref h, .ref tr, .ref hi, .ref sl, .ref sf, .ref hg, .int hc])), (h, .inr (1, [.ref hp, .ref hq, .int (nI n), .int (nI w), .int f, .int ll])), (hp, .inl (X.2.1, 4, .inl (P))), (hq, .inl (X.2.1, 4, .inl (Q))), (hg, .inr (0, [.ref hgn, .int (nI u352_5.1), .long u352_5.2.2.1, .long u352_5.2.2.2.1, .long u352_5.2.2.2.2])), (hgn, .inl (X.2.1, 144, .inl (u352_5.2.1)))])) (r_V C (As := [.int (nI i), .int (nI j), .int (nI R)]) (rest := []) (kP_numE l X b tr hi sl sf hc h hp hq n P Q w f ll hg hgn u339_4.1 u339_4.2.1 u339_4.2.2.1 u339_4.2.2.2.1 u339_4.2.2.2.2 i j R nr sp R (by first | assumption | omega | decide) (by first | assumption | omega | decide) (by first | assumption | omega | decide) (by first | assumption | omega | decide) (by first | assumption | omega | decide) (by first | assumption | omega | decide) (by first | assumption | omega | decide) (by first | assumption | omega | decide)) (cwV 3 C.ts gL_pair_X2_beatNumerator rfl rfl rfl (by decide +kernel) ⟨Nat.le_of_ble_eq_true rfl, Nat.le_of_ble_eq_true rfl⟩) (q0 := 0) rfl rfl [0, 1, 2, 3, 4, 5] (by decide) rfl rfl (Nat.le_of_ble_eq_true rfl) rfl dL_pair_352 ⟨Nat.zero_le _, Nat.zero_le _⟩) [0, 1, 2, 3, 4, 5] [] [0, 1, 2, 3, 4, 5] rfl rfl (by decide) (by decide) (by decide) (fun _ => rfl) (fun u352_5 _ => ?_)
                refine s_ldc2 C (pc := 355) (v := (-4)) (List.mem_of_getElem? (i := 2) rfl) dL_pair_355 ?_
                refine s_lcmp_ne C (pc := 358) (tgt := 395) dL_pair_358 dL_pair_359 (by decide) (fun h => absurd (by decide) h) (fun c358 => ?_)
                refine s_aload_n C (pc := 362) dL_pair_362 rfl 1 rfl ?_
                refine s_iload_n C (pc := 363) dL_pair_363 rfl 2 rfl ?_
                refine s_iload_n C (pc := 364) dL_pair_364 rfl 3 rfl ?_
                refine s_calliX C (pc := 365) (wr := []) (wc' := (fun u365_6 : GD => [(b, .inr (2, [.ref h, .ref tr, .ref hi, .ref sl, .ref sf, .ref hg, .int hc])), (h, .inr (1, [.ref hp, .ref hq, .int (nI n), .int (nI w), .int f, .int ll])), (hp, .inl (X.2.1, 4, .inl (P))), (hq, .inl (X.2.1, 4, .inl (Q))), (hg, .inr (0, [.ref hgn, .int (nI u365_6.1), .long u365_6.2.2.1, .long u365_6.2.2.2.1, .long u365_6.2.2.2.2])), (hgn, .inl (X.2.1, 144, .inl (u365_6.2.1)))])) (wn := (fun u365_6 : GD => [(b, .inr (2, [.ref h, .ref tr, .ref hi, .ref sl, .ref sf, .ref hg, .int hc])), (h, .inr (1, [.ref hp, .ref hq, .int (nI n), .int (nI w), .int f, .int ll])), (hp, .inl (X.2.1, 4, .inl (P))), (hq, .inl (X.2.1, 4, .inl (Q))), (hg, .inr (0, [.ref hgn, .int (nI u365_6.1), .long u365_6.2.2.1, .long u365_6.2.2.2.1, .long u365_6.2.2.2.2])), (hgn, .inl (X.2.1, 144, .inl (u365_6.2.1)))])) (r_V C (As := [.int (nI i), .int (nI j)]) (rest := []) (kP_bnd l X b tr hi sl sf hc h hp hq n P Q w f ll hg hgn u352_5.1 u352_5.2.1 u352_5.2.2.1 u352_5.2.2.2.1 u352_5.2.2.2.2 i j B (by first | assumption | omega | decide) (by first | assumption | omega | decide) (by first | assumption | omega | decide) (by first | assumption | omega | decide) (by first | assumption | omega | decide)) (cwV 2 C.ts gL_pair_X2_bands rfl rfl rfl (by decide +kernel) ⟨Nat.le_of_ble_eq_true rfl, Nat.le_of_ble_eq_true rfl⟩) (q0 := 0) rfl rfl [0, 1, 2, 3, 4, 5] (by decide) rfl rfl (Nat.le_of_ble_eq_true rfl) rfl dL_pair_365 ⟨Nat.zero_le _, Nat.zero_le _⟩) [0, 1, 2, 3, 4, 5] [] [0, 1, 2, 3, 4, 5] rfl rfl (by decide) (by decide) (by decide) (fun _ => rfl) (fun u365_6 _ => ?_)
                refine s_iconst C (pc := 368) (v := 4) dL_pair_368 (by decide) ?_
                refine s_irem C (pc := 369) dL_pair_369 (by decide) ?_
                refine s_top C (y := 0) ((pr_mod4 B (by omega))) ?_
                refine s_if_ne C (pc := 370) (tgt := 395) dL_pair_370 (by decide) (fun h => absurd (by decide) h) (fun c370 => ?_)
                refine s_aload_n C (pc := 373) dL_pair_373 rfl 1 rfl ?_
                refine s_iload_n C (pc := 374) dL_pair_374 rfl 2 rfl ?_
                refine s_iload_n C (pc := 375) dL_pair_375 rfl 3 rfl ?_
                refine s_calliX C (pc := 376) (wr := []) (wc' := (fun u376_7 : GD => [(b, .inr (2, [.ref h, .ref tr, .ref hi, .ref sl, .ref sf, .ref hg, .int hc])), (h, .inr (1, [.ref hp, .ref hq, .int (nI n), .int (nI w), .int f, .int ll])), (hp, .inl (X.2.1, 4, .inl (P))), (hq, .inl (X.2.1, 4, .inl (Q))), (hg, .inr (0, [.ref hgn, .int (nI u376_7.1), .long u376_7.2.2.1, .long u376_7.2.2.2.1, .long u376_7.2.2.2.2])), (hgn, .inl (X.2.1, 144, .inl (u376_7.2.1)))])) (wn := (fun u376_7 : GD => [(b, .inr (2, [.ref h, .ref tr, .ref hi, .ref sl, .ref sf, .ref hg, .int hc])), (h, .inr (1, [.ref hp, .ref hq, .int (nI n), .int (nI w), .int f, .int ll])), (hp, .inl (X.2.1, 4, .inl (P))), (hq, .inl (X.2.1, 4, .inl (Q))), (hg, .inr (0, [.ref hgn, .int (nI u376_7.1), .long u376_7.2.2.1, .long u376_7.2.2.2.1, .long u376_7.2.2.2.2])), (hgn, .inl (X.2.1, 144, .inl (u376_7.2.1)))])) (r_V C (As := [.int (nI i), .int (nI j)]) (rest := []) (kP_bnd l X b tr hi sl sf hc h hp hq n P Q w f ll hg hgn u365_6.1 u365_6.2.1 u365_6.2.2.1 u365_6.2.2.2.1 u365_6.2.2.2.2 i j B (by first | assumption | omega | decide) (by first | assumption | omega | decide) (by first | assumption | omega | decide) (by first | assumption | omega | decide) (by first | assumption | omega | decide)) (cwV 2 C.ts gL_pair_X2_bands rfl rfl rfl (by decide +kernel) ⟨Nat.le_of_ble_eq_true rfl, Nat.le_of_ble_eq_true rfl⟩) (q0 := 0) rfl rfl [0, 1, 2, 3, 4, 5] (by decide) rfl rfl (Nat.le_of_ble_eq_true rfl) rfl dL_pair_376 ⟨Nat.zero_le _, Nat.zero_le _⟩) [0, 1, 2, 3, 4, 5] [] [0, 1, 2, 3, 4, 5] rfl rfl (by decide) (by decide) (by decide) (fun _ => rfl) (fun u376_7 _ => ?_)
                refine s_aload_n C (pc := 379) dL_pair_379 rfl 1 rfl ?_
                refine s_iload_n C (pc := 380) dL_pair_380 rfl 2 rfl ?_
                refine s_iload_n C (pc := 381) dL_pair_381 rfl 3 rfl ?_
                refine s_calliX C (pc := 382) (wr := []) (wc' := (fun u382_8 : GD => [(b, .inr (2, [.ref h, .ref tr, .ref hi, .ref sl, .ref sf, .ref hg, .int hc])), (h, .inr (1, [.ref hp, .ref hq, .int (nI n), .int (nI w), .int f, .int ll])), (hp, .inl (X.2.1, 4, .inl (P))), (hq, .inl (X.2.1, 4, .inl (Q))), (hg, .inr (0, [.ref hgn, .int (nI u382_8.1), .long u382_8.2.2.1, .long u382_8.2.2.2.1, .long u382_8.2.2.2.2])), (hgn, .inl (X.2.1, 144, .inl (u382_8.2.1)))])) (wn := (fun u382_8 : GD => [(b, .inr (2, [.ref h, .ref tr, .ref hi, .ref sl, .ref sf, .ref hg, .int hc])), (h, .inr (1, [.ref hp, .ref hq, .int (nI n), .int (nI w), .int f, .int ll])), (hp, .inl (X.2.1, 4, .inl (P))), (hq, .inl (X.2.1, 4, .inl (Q))), (hg, .inr (0, [.ref hgn, .int (nI u382_8.1), .long u382_8.2.2.1, .long u382_8.2.2.2.1, .long u382_8.2.2.2.2])), (hgn, .inl (X.2.1, 144, .inl (u382_8.2.1)))])) (r_V C (As := [.int (nI i), .int (nI j)]) (rest := [.int (nI (4 * B))]) (kP_lck l X b tr hi sl sf hc h hp hq n P Q w f ll hg hgn u376_7.1 u376_7.2.1 u376_7.2.2.1 u376_7.2.2.2.1 u376_7.2.2.2.2 i j R nr sp (by first | assumption | omega | decide) (by first | assumption | omega | decide) (by first | assumption | omega | decide) (by first | assumption | omega | decide) (by first | assumption | omega | decide) (by first | assumption | omega | decide)) (cwV 2 C.ts gL_pair_X2_locked rfl rfl rfl (by decide +kernel) ⟨Nat.le_of_ble_eq_true rfl, Nat.le_of_ble_eq_true rfl⟩) (q0 := 0) rfl rfl [0, 1, 2, 3, 4, 5] (by decide) rfl rfl (Nat.le_of_ble_eq_true rfl) rfl dL_pair_382 ⟨Nat.zero_le _, Nat.zero_le _⟩) [0, 1, 2, 3, 4, 5] [] [0, 1, 2, 3, 4, 5] rfl rfl (by decide) (by decide) (by decide) (fun _ => rfl) (fun u382_8 _ => ?_)
                refine s_iadd C (pc := 385) dL_pair_385 ?_
                refine s_top C (y := nI ((4 * B) + (if nr 0 = 0 then 4 * sp 1 else 0))) (nI_add _ _) ?_
                refine s_iload C (pc := 386) dL_pair_386 10 rfl ?_
                refine s_icmp_gt C (pc := 388) (tgt := 395) dL_pair_388 (by decide) (fun c388 => ?_) (fun c388 => ?_)
                · skip
                  have e388 := nat_lt (a := (4 * qtN w)) (b := ((4 * B) + (if nr 0 = 0 then 4 * sp 1 else 0))) (by omega) (by omega) c388
                  refine s_iconst C (pc := 395) (v := 0) dL_pair_395 (by decide) ?_
                  exact s_zretX C (pc := 396) hr hlk ((u382_8.1, u382_8.2.1, u382_8.2.2.1, u382_8.2.2.2.1, u382_8.2.2.2.2)) trivial [0, 1, 2, 3, 4, 5] (by decide) (rfl) rfl (rfl) dL_pair_396
                · skip
                  have e388 := nat_nlt (a := (4 * qtN w)) (b := ((4 * B) + (if nr 0 = 0 then 4 * sp 1 else 0))) (by omega) (by omega) c388
                  refine s_iconst C (pc := 391) (v := 1) dL_pair_391 (by decide) ?_
                  refine s_goto C (pc := 392) (tgt := 396) dL_pair_392 (by decide) ?_
                  exact s_zretX C (pc := 396) hr hlk ((u382_8.1, u382_8.2.1, u382_8.2.2.1, u382_8.2.2.2.1, u382_8.2.2.2.2)) trivial [0, 1, 2, 3, 4, 5] (by decide) (rfl) rfl (rfl) dL_pair_396
              · skip
                have e310 := nat_nlt (a := 1) (b := st) (by omega) (by omega) c310
                refine s_iload C (pc := 313) dL_pair_313 5 rfl ?_
                refine s_iload C (pc := 315) dL_pair_315 10 rfl ?_
                refine s_icmp_ne C (pc := 317) (tgt := 395) dL_pair_317 (by decide) (fun h => absurd (by rw [ha (by omega), show r = R by have := hr1 (by omega); omega, hspR]) h) (fun c317 => ?_)
                refine s_iload C (pc := 320) dL_pair_320 0 rfl ?_
                refine s_if_ne C (pc := 322) (tgt := 334) dL_pair_322 (by decide) (fun h => absurd (by decide) h) (fun c322 => ?_)
                refine s_aload_n C (pc := 325) dL_pair_325 rfl 1 rfl ?_
                refine s_iload_n C (pc := 326) dL_pair_326 rfl 2 rfl ?_
                refine s_iload_n C (pc := 327) dL_pair_327 rfl 3 rfl ?_
                refine s_calliX C (pc := 328) (wr := []) (wc' := (fun u328_9 : GD => [(b, .inr (2, [.ref h, .ref tr, .ref hi, .ref sl, .ref sf, .ref hg, .int hc])), (h, .inr (1, [.ref hp, .ref hq, .int (nI n), .int (nI w), .int f, .int ll])), (hp, .inl (X.2.1, 4, .inl (P))), (hq, .inl (X.2.1, 4, .inl (Q))), (hg, .inr (0, [.ref hgn, .int (nI u328_9.1), .long u328_9.2.2.1, .long u328_9.2.2.2.1, .long u328_9.2.2.2.2])), (hgn, .inl (X.2.1, 144, .inl (u328_9.2.1)))])) (wn := (fun u328_9 : GD => [(b, .inr (2, [.ref h, .ref tr, .ref hi, .ref sl, .ref sf, .ref hg, .int hc])), (h, .inr (1, [.ref hp, .ref hq, .int (nI n), .int (nI w), .int f, .int ll])), (hp, .inl (X.2.1, 4, .inl (P))), (hq, .inl (X.2.1, 4, .inl (Q))), (hg, .inr (0, [.ref hgn, .int (nI u328_9.1), .long u328_9.2.2.1, .long u328_9.2.2.2.1, .long u328_9.2.2.2.2])), (hgn, .inl (X.2.1, 144, .inl (u328_9.2.1)))])) (r_V C (As := [.int (nI i), .int (nI j)]) (rest := []) (kP_lck l X b tr hi sl sf hc h hp hq n P Q w f ll hg hgn u292_2.1 u292_2.2.1 u292_2.2.2.1 u292_2.2.2.2.1 u292_2.2.2.2.2 i j R nr sp (by first | assumption | omega | decide) (by first | assumption | omega | decide) (by first | assumption | omega | decide) (by first | assumption | omega | decide) (by first | assumption | omega | decide) (by first | assumption | omega | decide)) (cwV 2 C.ts gL_pair_X2_locked rfl rfl rfl (by decide +kernel) ⟨Nat.le_of_ble_eq_true rfl, Nat.le_of_ble_eq_true rfl⟩) (q0 := 0) rfl rfl [0, 1, 2, 3, 4, 5] (by decide) rfl rfl (Nat.le_of_ble_eq_true rfl) rfl dL_pair_328 ⟨Nat.zero_le _, Nat.zero_le _⟩) [0, 1, 2, 3, 4, 5] [] [0, 1, 2, 3, 4, 5] rfl rfl (by decide) (by decide) (by decide) (fun _ => rfl) (fun u328_9 _ => ?_)
                refine s_top C (y := 0) ((congrArg nI (if_neg h00))) ?_
                refine s_if_ne C (pc := 331) (tgt := 395) dL_pair_331 (by decide) (fun h => absurd (by decide) h) (fun c331 => ?_)
                refine s_aload_n C (pc := 334) dL_pair_334 rfl 1 rfl ?_
                refine s_iload_n C (pc := 335) dL_pair_335 rfl 2 rfl ?_
                refine s_iload_n C (pc := 336) dL_pair_336 rfl 3 rfl ?_
                refine s_iload C (pc := 337) dL_pair_337 6 rfl ?_
                refine s_calliX C (pc := 339) (wr := []) (wc' := (fun u339_10 : GD => [(b, .inr (2, [.ref h, .ref tr, .ref hi, .ref sl, .ref sf, .ref hg, .int hc])), (h, .inr (1, [.ref hp, .ref hq, .int (nI n), .int (nI w), .int f, .int ll])), (hp, .inl (X.2.1, 4, .inl (P))), (hq, .inl (X.2.1, 4, .inl (Q))), (hg, .inr (0, [.ref hgn, .int (nI u339_10.1), .long u339_10.2.2.1, .long u339_10.2.2.2.1, .long u339_10.2.2.2.2])), (hgn, .inl (X.2.1, 144, .inl (u339_10.2.1)))])) (wn := (fun u339_10 : GD => [(b, .inr (2, [.ref h, .ref tr, .ref hi, .ref sl, .ref sf, .ref hg, .int hc])), (h, .inr (1, [.ref hp, .ref hq, .int (nI n), .int (nI w), .int f, .int ll])), (hp, .inl (X.2.1, 4, .inl (P))), (hq, .inl (X.2.1, 4, .inl (Q))), (hg, .inr (0, [.ref hgn, .int (nI u339_10.1), .long u339_10.2.2.1, .long u339_10.2.2.2.1, .long u339_10.2.2.2.2])), (hgn, .inl (X.2.1, 144, .inl (u339_10.2.1)))])) (r_V C (As := [.int (nI i), .int (nI j), .int (nI R)]) (rest := []) (kP_frqE l X b tr hi sl sf hc h hp hq n P Q w f ll hg hgn u328_9.1 u328_9.2.1 u328_9.2.2.1 u328_9.2.2.2.1 u328_9.2.2.2.2 i j R nr sp R (by first | assumption | omega | decide) (by first | assumption | omega | decide) (by first | assumption | omega | decide) (by first | assumption | omega | decide) (by first | assumption | omega | decide) (by first | assumption | omega | decide) (by first | assumption | omega | decide) (by first | assumption | omega | decide)) (cwV 3 C.ts gL_pair_X2_beatFrequency rfl rfl rfl (by decide +kernel) ⟨Nat.le_of_ble_eq_true rfl, Nat.le_of_ble_eq_true rfl⟩) (q0 := 0) rfl rfl [0, 1, 2, 3, 4, 5] (by decide) rfl rfl (Nat.le_of_ble_eq_true rfl) rfl dL_pair_339 ⟨Nat.zero_le _, Nat.zero_le _⟩) [0, 1, 2, 3, 4, 5] [] [0, 1, 2, 3, 4, 5] rfl rfl (by decide) (by decide) (by decide) (fun _ => rfl) (fun u339_10 _ => ?_)
                refine s_bipush C (pc := 342) (v := (-4)) dL_pair_342 (by decide) ?_
                refine s_icmp_ne C (pc := 344) (tgt := 395) dL_pair_344 (by decide) (fun h => absurd (by decide) h) (fun c344 => ?_)
                refine s_aload_n C (pc := 347) dL_pair_347 rfl 1 rfl ?_
                refine s_iload_n C (pc := 348) dL_pair_348 rfl 2 rfl ?_
                refine s_iload_n C (pc := 349) dL_pair_349 rfl 3 rfl ?_
                refine s_iload C (pc := 350) dL_pair_350 6 rfl ?_
                refine s_calllX C (pc := 352) (wr := []) (wc' := (fun u352_11 : GD => [(b, .inr (2, [.ref h, .ref tr, .ref hi, .ref sl, .ref sf, .ref hg, .int hc])), (h, .inr (1, [.ref hp, .ref hq, .int (nI n), .int (nI w), .int f, .int ll])), (hp, .inl (X.2.1, 4, .inl (P))), (hq, .inl (X.2.1, 4, .inl (Q))), (hg, .inr (0, [.ref hgn, .int (nI u352_11.1), .long u352_11.2.2.1, .long u352_11.2.2.2.1, .long u352_11.2.2.2.2])), (hgn, .inl (X.2.1, 144, .inl (u352_11.2.1)))])) (wn := (fun u352_11 : GD => [(b, .inr (2, [.ref h, .ref tr, .ref hi, .ref sl, .ref sf, .ref hg, .int hc])), (h, .inr (1, [.ref hp, .ref hq, .int (nI n), .int (nI w), .int f, .int ll])), (hp, .inl (X.2.1, 4, .inl (P))), (hq, .inl (X.2.1, 4, .inl (Q))), (hg, .inr (0, [.ref hgn, .int (nI u352_11.1), .long u352_11.2.2.1, .long u352_11.2.2.2.1, .long u352_11.2.2.2.2])), (hgn, .inl (X.2.1, 144, .inl (u352_11.2.1)))])) (r_V C (As := [.int (nI i), .int (nI j), .int (nI R)]) (rest := []) (kP_numE l X b tr hi sl sf hc h hp hq n P Q w f ll hg hgn u339_10.1 u339_10.2.1 u339_10.2.2.1 u339_10.2.2.2.1 u339_10.2.2.2.2 i j R nr sp R (by first | assumption | omega | decide) (by first | assumption | omega | decide) (by first | assumption | omega | decide) (by first | assumption | omega | decide) (by first | assumption | omega | decide) (by first | assumption | omega | decide) (by first | assumption | omega | decide) (by first | assumption | omega | decide)) (cwV 3 C.ts gL_pair_X2_beatNumerator rfl rfl rfl (by decide +kernel) ⟨Nat.le_of_ble_eq_true rfl, Nat.le_of_ble_eq_true rfl⟩) (q0 := 0) rfl rfl [0, 1, 2, 3, 4, 5] (by decide) rfl rfl (Nat.le_of_ble_eq_true rfl) rfl dL_pair_352 ⟨Nat.zero_le _, Nat.zero_le _⟩) [0, 1, 2, 3, 4, 5] [] [0, 1, 2, 3, 4, 5] rfl rfl (by decide) (by decide) (by decide) (fun _ => rfl) (fun u352_11 _ => ?_)
                refine s_ldc2 C (pc := 355) (v := (-4)) (List.mem_of_getElem? (i := 2) rfl) dL_pair_355 ?_
                refine s_lcmp_ne C (pc := 358) (tgt := 395) dL_pair_358 dL_pair_359 (by decide) (fun h => absurd (by decide) h) (fun c358 => ?_)
                refine s_aload_n C (pc := 362) dL_pair_362 rfl 1 rfl ?_
                refine s_iload_n C (pc := 363) dL_pair_363 rfl 2 rfl ?_
                refine s_iload_n C (pc := 364) dL_pair_364 rfl 3 rfl ?_
                refine s_calliX C (pc := 365) (wr := []) (wc' := (fun u365_12 : GD => [(b, .inr (2, [.ref h, .ref tr, .ref hi, .ref sl, .ref sf, .ref hg, .int hc])), (h, .inr (1, [.ref hp, .ref hq, .int (nI n), .int (nI w), .int f, .int ll])), (hp, .inl (X.2.1, 4, .inl (P))), (hq, .inl (X.2.1, 4, .inl (Q))), (hg, .inr (0, [.ref hgn, .int (nI u365_12.1), .long u365_12.2.2.1, .long u365_12.2.2.2.1, .long u365_12.2.2.2.2])), (hgn, .inl (X.2.1, 144, .inl (u365_12.2.1)))])) (wn := (fun u365_12 : GD => [(b, .inr (2, [.ref h, .ref tr, .ref hi, .ref sl, .ref sf, .ref hg, .int hc])), (h, .inr (1, [.ref hp, .ref hq, .int (nI n), .int (nI w), .int f, .int ll])), (hp, .inl (X.2.1, 4, .inl (P))), (hq, .inl (X.2.1, 4, .inl (Q))), (hg, .inr (0, [.ref hgn, .int (nI u365_12.1), .long u365_12.2.2.1, .long u365_12.2.2.2.1, .long u365_12.2.2.2.2])), (hgn, .inl (X.2.1, 144, .inl (u365_12.2.1)))])) (r_V C (As := [.int (nI i), .int (nI j)]) (rest := []) (kP_bnd l X b tr hi sl sf hc h hp hq n P Q w f ll hg hgn u352_11.1 u352_11.2.1 u352_11.2.2.1 u352_11.2.2.2.1 u352_11.2.2.2.2 i j B (by first | assumption | omega | decide) (by first | assumption | omega | decide) (by first | assumption | omega | decide) (by first | assumption | omega | decide) (by first | assumption | omega | decide)) (cwV 2 C.ts gL_pair_X2_bands rfl rfl rfl (by decide +kernel) ⟨Nat.le_of_ble_eq_true rfl, Nat.le_of_ble_eq_true rfl⟩) (q0 := 0) rfl rfl [0, 1, 2, 3, 4, 5] (by decide) rfl rfl (Nat.le_of_ble_eq_true rfl) rfl dL_pair_365 ⟨Nat.zero_le _, Nat.zero_le _⟩) [0, 1, 2, 3, 4, 5] [] [0, 1, 2, 3, 4, 5] rfl rfl (by decide) (by decide) (by decide) (fun _ => rfl) (fun u365_12 _ => ?_)
                refine s_iconst C (pc := 368) (v := 4) dL_pair_368 (by decide) ?_
                refine s_irem C (pc := 369) dL_pair_369 (by decide) ?_
                refine s_top C (y := 0) ((pr_mod4 B (by omega))) ?_
                refine s_if_ne C (pc := 370) (tgt := 395) dL_pair_370 (by decide) (fun h => absurd (by decide) h) (fun c370 => ?_)
                refine s_aload_n C (pc := 373) dL_pair_373 rfl 1 rfl ?_
                refine s_iload_n C (pc := 374) dL_pair_374 rfl 2 rfl ?_
                refine s_iload_n C (pc := 375) dL_pair_375 rfl 3 rfl ?_
                refine s_calliX C (pc := 376) (wr := []) (wc' := (fun u376_13 : GD => [(b, .inr (2, [.ref h, .ref tr, .ref hi, .ref sl, .ref sf, .ref hg, .int hc])), (h, .inr (1, [.ref hp, .ref hq, .int (nI n), .int (nI w), .int f, .int ll])), (hp, .inl (X.2.1, 4, .inl (P))), (hq, .inl (X.2.1, 4, .inl (Q))), (hg, .inr (0, [.ref hgn, .int (nI u376_13.1), .long u376_13.2.2.1, .long u376_13.2.2.2.1, .long u376_13.2.2.2.2])), (hgn, .inl (X.2.1, 144, .inl (u376_13.2.1)))])) (wn := (fun u376_13 : GD => [(b, .inr (2, [.ref h, .ref tr, .ref hi, .ref sl, .ref sf, .ref hg, .int hc])), (h, .inr (1, [.ref hp, .ref hq, .int (nI n), .int (nI w), .int f, .int ll])), (hp, .inl (X.2.1, 4, .inl (P))), (hq, .inl (X.2.1, 4, .inl (Q))), (hg, .inr (0, [.ref hgn, .int (nI u376_13.1), .long u376_13.2.2.1, .long u376_13.2.2.2.1, .long u376_13.2.2.2.2])), (hgn, .inl (X.2.1, 144, .inl (u376_13.2.1)))])) (r_V C (As := [.int (nI i), .int (nI j)]) (rest := []) (kP_bnd l X b tr hi sl sf hc h hp hq n P Q w f ll hg hgn u365_12.1 u365_12.2.1 u365_12.2.2.1 u365_12.2.2.2.1 u365_12.2.2.2.2 i j B (by first | assumption | omega | decide) (by first | assumption | omega | decide) (by first | assumption | omega | decide) (by first | assumption | omega | decide) (by first | assumption | omega | decide)) (cwV 2 C.ts gL_pair_X2_bands rfl rfl rfl (by decide +kernel) ⟨Nat.le_of_ble_eq_true rfl, Nat.le_of_ble_eq_true rfl⟩) (q0 := 0) rfl rfl [0, 1, 2, 3, 4, 5] (by decide) rfl rfl (Nat.le_of_ble_eq_true rfl) rfl dL_pair_376 ⟨Nat.zero_le _, Nat.zero_le _⟩) [0, 1, 2, 3, 4, 5] [] [0, 1, 2, 3, 4, 5] rfl rfl (by decide) (by decide) (by decide) (fun _ => rfl) (fun u376_13 _ => ?_)
                refine s_aload_n C (pc := 379) dL_pair_379 rfl 1 rfl ?_
                refine s_iload_n C (pc := 380) dL_pair_380 rfl 2 rfl ?_
                refine s_iload_n C (pc := 381) dL_pair_381 rfl 3 rfl ?_
                refine s_calliX C (pc := 382) (wr := []) (wc' := (fun u382_14 : GD => [(b, .inr (2, [.ref h, .ref tr, .ref hi, .ref sl, .ref sf, .ref hg, .int hc])), (h, .inr (1, [.ref hp, .ref hq, .int (nI n), .int (nI w), .int f, .int ll])), (hp, .inl (X.2.1, 4, .inl (P))), (hq, .inl (X.2.1, 4, .inl (Q))), (hg, .inr (0, [.ref hgn, .int (nI u382_14.1), .long u382_14.2.2.1, .long u382_14.2.2.2.1, .long u382_14.2.2.2.2])), (hgn, .inl (X.2.1, 144, .inl (u382_14.2.1)))])) (wn := (fun u382_14 : GD => [(b, .inr (2, [.ref h, .ref tr, .ref hi, .ref sl, .ref sf, .ref hg, .int hc])), (h, .inr (1, [.ref hp, .ref hq, .int (nI n), .int (nI w), .int f, .int ll])), (hp, .inl (X.2.1, 4, .inl (P))), (hq, .inl (X.2.1, 4, .inl (Q))), (hg, .inr (0, [.ref hgn, .int (nI u382_14.1), .long u382_14.2.2.1, .long u382_14.2.2.2.1, .long u382_14.2.2.2.2])), (hgn, .inl (X.2.1, 144, .inl (u382_14.2.1)))])) (r_V C (As := [.int (nI i), .int (nI j)]) (rest := [.int (nI (4 * B))]) (kP_lck l X b tr hi sl sf hc h hp hq n P Q w f ll hg hgn u376_13.1 u376_13.2.1 u376_13.2.2.1 u376_13.2.2.2.1 u376_13.2.2.2.2 i j R nr sp (by first | assumption | omega | decide) (by first | assumption | omega | decide) (by first | assumption | omega | decide) (by first | assumption | omega | decide) (by first | assumption | omega | decide) (by first | assumption | omega | decide)) (cwV 2 C.ts gL_pair_X2_locked rfl rfl rfl (by decide +kernel) ⟨Nat.le_of_ble_eq_true rfl, Nat.le_of_ble_eq_true rfl⟩) (q0 := 0) rfl rfl [0, 1, 2, 3, 4, 5] (by decide) rfl rfl (Nat.le_of_ble_eq_true rfl) rfl dL_pair_382 ⟨Nat.zero_le _, Nat.zero_le _⟩) [0, 1, 2, 3, 4, 5] [] [0, 1, 2, 3, 4, 5] rfl rfl (by decide) (by decide) (by decide) (fun _ => rfl) (fun u382_14 _ => ?_)
                refine s_iadd C (pc := 385) dL_pair_385 ?_
                refine s_top C (y := nI ((4 * B) + (if nr 0 = 0 then 4 * sp 1 else 0))) (nI_add _ _) ?_
                refine s_iload C (pc := 386) dL_pair_386 10 rfl ?_
                refine s_icmp_gt C (pc := 388) (tgt := 395) dL_pair_388 (by decide) (fun c388 => ?_) (fun c388 => ?_)
                · skip
                  have e388 := nat_lt (a := (4 * qtN w)) (b := ((4 * B) + (if nr 0 = 0 then 4 * sp 1 else 0))) (by omega) (by omega) c388
                  refine s_iconst C (pc := 395) (v := 0) dL_pair_395 (by decide) ?_
                  exact s_zretX C (pc := 396) hr hlk ((u382_14.1, u382_14.2.1, u382_14.2.2.1, u382_14.2.2.2.1, u382_14.2.2.2.2)) trivial [0, 1, 2, 3, 4, 5] (by decide) (rfl) rfl (rfl) dL_pair_396
                · skip
                  have e388 := nat_nlt (a := (4 * qtN w)) (b := ((4 * B) + (if nr 0 = 0 then 4 * sp 1 else 0))) (by omega) (by omega) c388
                  refine s_iconst C (pc := 391) (v := 1) dL_pair_391 (by decide) ?_
                  refine s_goto C (pc := 392) (tgt := 396) dL_pair_392 (by decide) ?_
                  exact s_zretX C (pc := 396) hr hlk ((u382_14.1, u382_14.2.1, u382_14.2.2.1, u382_14.2.2.2.1, u382_14.2.2.2.2)) trivial [0, 1, 2, 3, 4, 5] (by decide) (rfl) rfl (rfl) dL_pair_396
            · skip
              refine s_iconst C (pc := 300) (v := 1) dL_pair_300 (by decide) ?_
              refine s_goto C (pc := 301) (tgt := 305) dL_pair_301 (by decide) ?_
              refine s_istore C (pc := 305) (ls' := [(12, .int 1), (0, .ref b), (1, .int (nI i)), (2, .int (nI j)), (3, .int (nI w)), (4, .int (nI a)), (5, .int (nI R)), (6, .long (lN (aP P Q i j))), (8, .long la), (10, .int (nI st)), (11, .int (nI (4 * qtN w)))]) dL_pair_305 (by decide) rfl ?_
              refine s_iload C (pc := 307) dL_pair_307 9 rfl ?_
              refine s_iconst C (pc := 309) (v := 1) dL_pair_309 (by decide) ?_
              refine s_icmp_gt C (pc := 310) (tgt := 320) dL_pair_310 (by decide) (fun c310 => ?_) (fun c310 => ?_)
              · skip
                have e310 := nat_lt (a := 1) (b := st) (by omega) (by omega) c310
                refine s_iload C (pc := 320) dL_pair_320 0 rfl ?_
                refine s_if_ne C (pc := 322) (tgt := 334) dL_pair_322 (by decide) (fun c322 => ?_) (fun h => absurd h (by decide))
                refine s_aload_n C (pc := 334) dL_pair_334 rfl 1 rfl ?_
                refine s_iload_n C (pc := 335) dL_pair_335 rfl 2 rfl ?_
                refine s_iload_n C (pc := 336) dL_pair_336 rfl 3 rfl ?_
                refine s_iload C (pc := 337) dL_pair_337 6 rfl ?_
                refine s_calliX C (pc := 339) (wr := []) (wc' := (fun u339_15 : GD => [(b, .inr (2, [.ref h, .ref tr, .ref hi, .ref sl, .ref sf, .ref hg, .int hc])), (h, .inr (1, [.ref hp, .ref hq, .int (nI n), .int (nI w), .int f, .int ll])), (hp, .inl (X.2.1, 4, .inl (P))), (hq, .inl (X.2.1, 4, .inl (Q))), (hg, .inr (0, [.ref hgn, .int (nI u339_15.1), .long u339_15.2.2.1, .long u339_15.2.2.2.1, .long u339_15.2.2.2.2])), (hgn, .inl (X.2.1, 144, .inl (u339_15.2.1)))])) (wn := (fun u339_15 : GD => [(b, .inr (2, [.ref h, .ref tr, .ref hi, .ref sl, .ref sf, .ref hg, .int hc])), (h, .inr (1, [.ref hp, .ref hq, .int (nI n), .int (nI w), .int f, .int ll])), (hp, .inl (X.2.1, 4, .inl (P))), (hq, .inl (X.2.1, 4, .inl (Q))), (hg, .inr (0, [.ref hgn, .int (nI u339_15.1), .long u339_15.2.2.1, .long u339_15.2.2.2.1, .long u339_15.2.2.2.2])), (hgn, .inl (X.2.1, 144, .inl (u339_15.2.1)))])) (r_V C (As := [.int (nI i), .int (nI j), .int (nI R)]) (rest := []) (kP_frqE l X b tr hi sl sf hc h hp hq n P Q w f ll hg hgn u292_2.1 u292_2.2.1 u292_2.2.2.1 u292_2.2.2.2.1 u292_2.2.2.2.2 i j R nr sp R (by first | assumption | omega | decide) (by first | assumption | omega | decide) (by first | assumption | omega | decide) (by first | assumption | omega | decide) (by first | assumption | omega | decide) (by first | assumption | omega | decide) (by first | assumption | omega | decide) (by first | assumption | omega | decide)) (cwV 3 C.ts gL_pair_X2_beatFrequency rfl rfl rfl (by decide +kernel) ⟨Nat.le_of_ble_eq_true rfl, Nat.le_of_ble_eq_true rfl⟩) (q0 := 0) rfl rfl [0, 1, 2, 3, 4, 5] (by decide) rfl rfl (Nat.le_of_ble_eq_true rfl) rfl dL_pair_339 ⟨Nat.zero_le _, Nat.zero_le _⟩) [0, 1, 2, 3, 4, 5] [] [0, 1, 2, 3, 4, 5] rfl rfl (by decide) (by decide) (by decide) (fun _ => rfl) (fun u339_15 _ => ?_)
                refine s_bipush C (pc := 342) (v := (-4)) dL_pair_342 (by decide) ?_
                refine s_icmp_ne C (pc := 344) (tgt := 395) dL_pair_344 (by decide) (fun h => absurd (by decide) h) (fun c344 => ?_)
                refine s_aload_n C (pc := 347) dL_pair_347 rfl 1 rfl ?_
                refine s_iload_n C (pc := 348) dL_pair_348 rfl 2 rfl ?_
                refine s_iload_n C (pc := 349) dL_pair_349 rfl 3 rfl ?_
                refine s_iload C (pc := 350) dL_pair_350 6 rfl ?_
                refine s_calllX C (pc := 352) (wr := []) (wc' := (fun u352_16 : GD => [(b, .inr (2, [.ref h, .ref tr, .ref hi, .ref sl, .ref sf, .ref hg, .int hc])), (h, .inr (1, [.ref hp, .ref hq, .int (nI n), .int (nI w), .int f, .int ll])), (hp, .inl (X.2.1, 4, .inl (P))), (hq, .inl (X.2.1, 4, .inl (Q))), (hg, .inr (0, [.ref hgn, .int (nI u352_16.1), .long u352_16.2.2.1, .long u352_16.2.2.2.1, .long u352_16.2.2.2.2])), (hgn, .inl (X.2.1, 144, .inl (u352_16.2.1)))])) (wn := (fun u352_16 : GD => [(b, .inr (2, [.ref h, .ref tr, .ref hi, .ref sl, .ref sf, .ref hg, .int hc])), (h, .inr (1, [.ref hp, .ref hq, .int (nI n), .int (nI w), .int f, .int ll])), (hp, .inl (X.2.1, 4, .inl (P))), (hq, .inl (X.2.1, 4, .inl (Q))), (hg, .inr (0, [.ref hgn, .int (nI u352_16.1), .long u352_16.2.2.1, .long u352_16.2.2.2.1, .long u352_16.2.2.2.2])), (hgn, .inl (X.2.1, 144, .inl (u352_16.2.1)))])) (r_V C (As := [.int (nI i), .int (nI j), .int (nI R)]) (rest := []) (kP_numE l X b tr hi sl sf hc h hp hq n P Q w f ll hg hgn u339_15.1 u339_15.2.1 u339_15.2.2.1 u339_15.2.2.2.1 u339_15.2.2.2.2 i j R nr sp R (by first | assumption | omega | decide) (by first | assumption | omega | decide) (by first | assumption | omega | decide) (by first | assumption | omega | decide) (by first | assumption | omega | decide) (by first | assumption | omega | decide) (by first | assumption | omega | decide) (by first | assumption | omega | decide)) (cwV 3 C.ts gL_pair_X2_beatNumerator rfl rfl rfl (by decide +kernel) ⟨Nat.le_of_ble_eq_true rfl, Nat.le_of_ble_eq_true rfl⟩) (q0 := 0) rfl rfl [0, 1, 2, 3, 4, 5] (by decide) rfl rfl (Nat.le_of_ble_eq_true rfl) rfl dL_pair_352 ⟨Nat.zero_le _, Nat.zero_le _⟩) [0, 1, 2, 3, 4, 5] [] [0, 1, 2, 3, 4, 5] rfl rfl (by decide) (by decide) (by decide) (fun _ => rfl) (fun u352_16 _ => ?_)
                refine s_ldc2 C (pc := 355) (v := (-4)) (List.mem_of_getElem? (i := 2) rfl) dL_pair_355 ?_
                refine s_lcmp_ne C (pc := 358) (tgt := 395) dL_pair_358 dL_pair_359 (by decide) (fun h => absurd (by decide) h) (fun c358 => ?_)
                refine s_aload_n C (pc := 362) dL_pair_362 rfl 1 rfl ?_
                refine s_iload_n C (pc := 363) dL_pair_363 rfl 2 rfl ?_
                refine s_iload_n C (pc := 364) dL_pair_364 rfl 3 rfl ?_
                refine s_calliX C (pc := 365) (wr := []) (wc' := (fun u365_17 : GD => [(b, .inr (2, [.ref h, .ref tr, .ref hi, .ref sl, .ref sf, .ref hg, .int hc])), (h, .inr (1, [.ref hp, .ref hq, .int (nI n), .int (nI w), .int f, .int ll])), (hp, .inl (X.2.1, 4, .inl (P))), (hq, .inl (X.2.1, 4, .inl (Q))), (hg, .inr (0, [.ref hgn, .int (nI u365_17.1), .long u365_17.2.2.1, .long u365_17.2.2.2.1, .long u365_17.2.2.2.2])), (hgn, .inl (X.2.1, 144, .inl (u365_17.2.1)))])) (wn := (fun u365_17 : GD => [(b, .inr (2, [.ref h, .ref tr, .ref hi, .ref sl, .ref sf, .ref hg, .int hc])), (h, .inr (1, [.ref hp, .ref hq, .int (nI n), .int (nI w), .int f, .int ll])), (hp, .inl (X.2.1, 4, .inl (P))), (hq, .inl (X.2.1, 4, .inl (Q))), (hg, .inr (0, [.ref hgn, .int (nI u365_17.1), .long u365_17.2.2.1, .long u365_17.2.2.2.1, .long u365_17.2.2.2.2])), (hgn, .inl (X.2.1, 144, .inl (u365_17.2.1)))])) (r_V C (As := [.int (nI i), .int (nI j)]) (rest := []) (kP_bnd l X b tr hi sl sf hc h hp hq n P Q w f ll hg hgn u352_16.1 u352_16.2.1 u352_16.2.2.1 u352_16.2.2.2.1 u352_16.2.2.2.2 i j B (by first | assumption | omega | decide) (by first | assumption | omega | decide) (by first | assumption | omega | decide) (by first | assumption | omega | decide) (by first | assumption | omega | decide)) (cwV 2 C.ts gL_pair_X2_bands rfl rfl rfl (by decide +kernel) ⟨Nat.le_of_ble_eq_true rfl, Nat.le_of_ble_eq_true rfl⟩) (q0 := 0) rfl rfl [0, 1, 2, 3, 4, 5] (by decide) rfl rfl (Nat.le_of_ble_eq_true rfl) rfl dL_pair_365 ⟨Nat.zero_le _, Nat.zero_le _⟩) [0, 1, 2, 3, 4, 5] [] [0, 1, 2, 3, 4, 5] rfl rfl (by decide) (by decide) (by decide) (fun _ => rfl) (fun u365_17 _ => ?_)
                refine s_iconst C (pc := 368) (v := 4) dL_pair_368 (by decide) ?_
                refine s_irem C (pc := 369) dL_pair_369 (by decide) ?_
                refine s_top C (y := 0) ((pr_mod4 B (by omega))) ?_
                refine s_if_ne C (pc := 370) (tgt := 395) dL_pair_370 (by decide) (fun h => absurd (by decide) h) (fun c370 => ?_)
                refine s_aload_n C (pc := 373) dL_pair_373 rfl 1 rfl ?_
                refine s_iload_n C (pc := 374) dL_pair_374 rfl 2 rfl ?_
                refine s_iload_n C (pc := 375) dL_pair_375 rfl 3 rfl ?_
                refine s_calliX C (pc := 376) (wr := []) (wc' := (fun u376_18 : GD => [(b, .inr (2, [.ref h, .ref tr, .ref hi, .ref sl, .ref sf, .ref hg, .int hc])), (h, .inr (1, [.ref hp, .ref hq, .int (nI n), .int (nI w), .int f, .int ll])), (hp, .inl (X.2.1, 4, .inl (P))), (hq, .inl (X.2.1, 4, .inl (Q))), (hg, .inr (0, [.ref hgn, .int (nI u376_18.1), .long u376_18.2.2.1, .long u376_18.2.2.2.1, .long u376_18.2.2.2.2])), (hgn, .inl (X.2.1, 144, .inl (u376_18.2.1)))])) (wn := (fun u376_18 : GD => [(b, .inr (2, [.ref h, .ref tr, .ref hi, .ref sl, .ref sf, .ref hg, .int hc])), (h, .inr (1, [.ref hp, .ref hq, .int (nI n), .int (nI w), .int f, .int ll])), (hp, .inl (X.2.1, 4, .inl (P))), (hq, .inl (X.2.1, 4, .inl (Q))), (hg, .inr (0, [.ref hgn, .int (nI u376_18.1), .long u376_18.2.2.1, .long u376_18.2.2.2.1, .long u376_18.2.2.2.2])), (hgn, .inl (X.2.1, 144, .inl (u376_18.2.1)))])) (r_V C (As := [.int (nI i), .int (nI j)]) (rest := []) (kP_bnd l X b tr hi sl sf hc h hp hq n P Q w f ll hg hgn u365_17.1 u365_17.2.1 u365_17.2.2.1 u365_17.2.2.2.1 u365_17.2.2.2.2 i j B (by first | assumption | omega | decide) (by first | assumption | omega | decide) (by first | assumption | omega | decide) (by first | assumption | omega | decide) (by first | assumption | omega | decide)) (cwV 2 C.ts gL_pair_X2_bands rfl rfl rfl (by decide +kernel) ⟨Nat.le_of_ble_eq_true rfl, Nat.le_of_ble_eq_true rfl⟩) (q0 := 0) rfl rfl [0, 1, 2, 3, 4, 5] (by decide) rfl rfl (Nat.le_of_ble_eq_true rfl) rfl dL_pair_376 ⟨Nat.zero_le _, Nat.zero_le _⟩) [0, 1, 2, 3, 4, 5] [] [0, 1, 2, 3, 4, 5] rfl rfl (by decide) (by decide) (by decide) (fun _ => rfl) (fun u376_18 _ => ?_)
                refine s_aload_n C (pc := 379) dL_pair_379 rfl 1 rfl ?_
                refine s_iload_n C (pc := 380) dL_pair_380 rfl 2 rfl ?_
                refine s_iload_n C (pc := 381) dL_pair_381 rfl 3 rfl ?_
                refine s_calliX C (pc := 382) (wr := []) (wc' := (fun u382_19 : GD => [(b, .inr (2, [.ref h, .ref tr, .ref hi, .ref sl, .ref sf, .ref hg, .int hc])), (h, .inr (1, [.ref hp, .ref hq, .int (nI n), .int (nI w), .int f, .int ll])), (hp, .inl (X.2.1, 4, .inl (P))), (hq, .inl (X.2.1, 4, .inl (Q))), (hg, .inr (0, [.ref hgn, .int (nI u382_19.1), .long u382_19.2.2.1, .long u382_19.2.2.2.1, .long u382_19.2.2.2.2])), (hgn, .inl (X.2.1, 144, .inl (u382_19.2.1)))])) (wn := (fun u382_19 : GD => [(b, .inr (2, [.ref h, .ref tr, .ref hi, .ref sl, .ref sf, .ref hg, .int hc])), (h, .inr (1, [.ref hp, .ref hq, .int (nI n), .int (nI w), .int f, .int ll])), (hp, .inl (X.2.1, 4, .inl (P))), (hq, .inl (X.2.1, 4, .inl (Q))), (hg, .inr (0, [.ref hgn, .int (nI u382_19.1), .long u382_19.2.2.1, .long u382_19.2.2.2.1, .long u382_19.2.2.2.2])), (hgn, .inl (X.2.1, 144, .inl (u382_19.2.1)))])) (r_V C (As := [.int (nI i), .int (nI j)]) (rest := [.int (nI (4 * B))]) (kP_lck l X b tr hi sl sf hc h hp hq n P Q w f ll hg hgn u376_18.1 u376_18.2.1 u376_18.2.2.1 u376_18.2.2.2.1 u376_18.2.2.2.2 i j R nr sp (by first | assumption | omega | decide) (by first | assumption | omega | decide) (by first | assumption | omega | decide) (by first | assumption | omega | decide) (by first | assumption | omega | decide) (by first | assumption | omega | decide)) (cwV 2 C.ts gL_pair_X2_locked rfl rfl rfl (by decide +kernel) ⟨Nat.le_of_ble_eq_true rfl, Nat.le_of_ble_eq_true rfl⟩) (q0 := 0) rfl rfl [0, 1, 2, 3, 4, 5] (by decide) rfl rfl (Nat.le_of_ble_eq_true rfl) rfl dL_pair_382 ⟨Nat.zero_le _, Nat.zero_le _⟩) [0, 1, 2, 3, 4, 5] [] [0, 1, 2, 3, 4, 5] rfl rfl (by decide) (by decide) (by decide) (fun _ => rfl) (fun u382_19 _ => ?_)
                refine s_iadd C (pc := 385) dL_pair_385 ?_
                refine s_top C (y := nI ((4 * B) + (if nr 0 = 0 then 4 * sp 1 else 0))) (nI_add _ _) ?_
                refine s_iload C (pc := 386) dL_pair_386 10 rfl ?_
                refine s_icmp_gt C (pc := 388) (tgt := 395) dL_pair_388 (by decide) (fun c388 => ?_) (fun c388 => ?_)
                · skip
                  have e388 := nat_lt (a := (4 * qtN w)) (b := ((4 * B) + (if nr 0 = 0 then 4 * sp 1 else 0))) (by omega) (by omega) c388
                  refine s_iconst C (pc := 395) (v := 0) dL_pair_395 (by decide) ?_
                  exact s_zretX C (pc := 396) hr hlk ((u382_19.1, u382_19.2.1, u382_19.2.2.1, u382_19.2.2.2.1, u382_19.2.2.2.2)) trivial [0, 1, 2, 3, 4, 5] (by decide) (rfl) rfl (rfl) dL_pair_396
                · skip
                  have e388 := nat_nlt (a := (4 * qtN w)) (b := ((4 * B) + (if nr 0 = 0 then 4 * sp 1 else 0))) (by omega) (by omega) c388
                  refine s_iconst C (pc := 391) (v := 1) dL_pair_391 (by decide) ?_
                  refine s_goto C (pc := 392) (tgt := 396) dL_pair_392 (by decide) ?_
                  exact s_zretX C (pc := 396) hr hlk ((u382_19.1, u382_19.2.1, u382_19.2.2.1, u382_19.2.2.2.1, u382_19.2.2.2.2)) trivial [0, 1, 2, 3, 4, 5] (by decide) (rfl) rfl (rfl) dL_pair_396
              · skip
                have e310 := nat_nlt (a := 1) (b := st) (by omega) (by omega) c310
                refine s_iload C (pc := 313) dL_pair_313 5 rfl ?_
                refine s_iload C (pc := 315) dL_pair_315 10 rfl ?_
                refine s_icmp_ne C (pc := 317) (tgt := 395) dL_pair_317 (by decide) (fun h => absurd (by rw [ha (by omega), show r = R by have := hr1 (by omega); omega, hspR]) h) (fun c317 => ?_)
                refine s_iload C (pc := 320) dL_pair_320 0 rfl ?_
                refine s_if_ne C (pc := 322) (tgt := 334) dL_pair_322 (by decide) (fun c322 => ?_) (fun h => absurd h (by decide))
                refine s_aload_n C (pc := 334) dL_pair_334 rfl 1 rfl ?_
                refine s_iload_n C (pc := 335) dL_pair_335 rfl 2 rfl ?_
                refine s_iload_n C (pc := 336) dL_pair_336 rfl 3 rfl ?_
                refine s_iload C (pc := 337) dL_pair_337 6 rfl ?_
                refine s_calliX C (pc := 339) (wr := []) (wc' := (fun u339_20 : GD => [(b, .inr (2, [.ref h, .ref tr, .ref hi, .ref sl, .ref sf, .ref hg, .int hc])), (h, .inr (1, [.ref hp, .ref hq, .int (nI n), .int (nI w), .int f, .int ll])), (hp, .inl (X.2.1, 4, .inl (P))), (hq, .inl (X.2.1, 4, .inl (Q))), (hg, .inr (0, [.ref hgn, .int (nI u339_20.1), .long u339_20.2.2.1, .long u339_20.2.2.2.1, .long u339_20.2.2.2.2])), (hgn, .inl (X.2.1, 144, .inl (u339_20.2.1)))])) (wn := (fun u339_20 : GD => [(b, .inr (2, [.ref h, .ref tr, .ref hi, .ref sl, .ref sf, .ref hg, .int hc])), (h, .inr (1, [.ref hp, .ref hq, .int (nI n), .int (nI w), .int f, .int ll])), (hp, .inl (X.2.1, 4, .inl (P))), (hq, .inl (X.2.1, 4, .inl (Q))), (hg, .inr (0, [.ref hgn, .int (nI u339_20.1), .long u339_20.2.2.1, .long u339_20.2.2.2.1, .long u339_20.2.2.2.2])), (hgn, .inl (X.2.1, 144, .inl (u339_20.2.1)))])) (r_V C (As := [.int (nI i), .int (nI j), .int (nI R)]) (rest := []) (kP_frqE l X b tr hi sl sf hc h hp hq n P Q w f ll hg hgn u292_2.1 u292_2.2.1 u292_2.2.2.1 u292_2.2.2.2.1 u292_2.2.2.2.2 i j R nr sp R (by first | assumption | omega | decide) (by first | assumption | omega | decide) (by first | assumption | omega | decide) (by first | assumption | omega | decide) (by first | assumption | omega | decide) (by first | assumption | omega | decide) (by first | assumption | omega | decide) (by first | assumption | omega | decide)) (cwV 3 C.ts gL_pair_X2_beatFrequency rfl rfl rfl (by decide +kernel) ⟨Nat.le_of_ble_eq_true rfl, Nat.le_of_ble_eq_true rfl⟩) (q0 := 0) rfl rfl [0, 1, 2, 3, 4, 5] (by decide) rfl rfl (Nat.le_of_ble_eq_true rfl) rfl dL_pair_339 ⟨Nat.zero_le _, Nat.zero_le _⟩) [0, 1, 2, 3, 4, 5] [] [0, 1, 2, 3, 4, 5] rfl rfl (by decide) (by decide) (by decide) (fun _ => rfl) (fun u339_20 _ => ?_)
                refine s_bipush C (pc := 342) (v := (-4)) dL_pair_342 (by decide) ?_
                refine s_icmp_ne C (pc := 344) (tgt := 395) dL_pair_344 (by decide) (fun h => absurd (by decide) h) (fun c344 => ?_)
                refine s_aload_n C (pc := 347) dL_pair_347 rfl 1 rfl ?_
                refine s_iload_n C (pc := 348) dL_pair_348 rfl 2 rfl ?_
                refine s_iload_n C (pc := 349) dL_pair_349 rfl 3 rfl ?_
                refine s_iload C (pc := 350) dL_pair_350 6 rfl ?_
                refine s_calllX C (pc := 352) (wr := []) (wc' := (fun u352_21 : GD => [(b, .inr (2, [.ref h, .ref tr, .ref hi, .ref sl, .ref sf, .ref hg, .int hc])), (h, .inr (1, [.ref hp, .ref hq, .int (nI n), .int (nI w), .int f, .int ll])), (hp, .inl (X.2.1, 4, .inl (P))), (hq, .inl (X.2.1, 4, .inl (Q))), (hg, .inr (0, [.ref hgn, .int (nI u352_21.1), .long u352_21.2.2.1, .long u352_21.2.2.2.1, .long u352_21.2.2.2.2])), (hgn, .inl (X.2.1, 144, .inl (u352_21.2.1)))])) (wn := (fun u352_21 : GD => [(b, .inr (2, [.ref h, .ref tr, .ref hi, .ref sl, .ref sf, .ref hg, .int hc])), (h, .inr (1, [.ref hp, .ref hq, .int (nI n), .int (nI w), .int f, .int ll])), (hp, .inl (X.2.1, 4, .inl (P))), (hq, .inl (X.2.1, 4, .inl (Q))), (hg, .inr (0, [.ref hgn, .int (nI u352_21.1), .long u352_21.2.2.1, .long u352_21.2.2.2.1, .long u352_21.2.2.2.2])), (hgn, .inl (X.2.1, 144, .inl (u352_21.2.1)))])) (r_V C (As := [.int (nI i), .int (nI j), .int (nI R)]) (rest := []) (kP_numE l X b tr hi sl sf hc h hp hq n P Q w f ll hg hgn u339_20.1 u339_20.2.1 u339_20.2.2.1 u339_20.2.2.2.1 u339_20.2.2.2.2 i j R nr sp R (by first | assumption | omega | decide) (by first | assumption | omega | decide) (by first | assumption | omega | decide) (by first | assumption | omega | decide) (by first | assumption | omega | decide) (by first | assumption | omega | decide) (by first | assumption | omega | decide) (by first | assumption | omega | decide)) (cwV 3 C.ts gL_pair_X2_beatNumerator rfl rfl rfl (by decide +kernel) ⟨Nat.le_of_ble_eq_true rfl, Nat.le_of_ble_eq_true rfl⟩) (q0 := 0) rfl rfl [0, 1, 2, 3, 4, 5] (by decide) rfl rfl (Nat.le_of_ble_eq_true rfl) rfl dL_pair_352 ⟨Nat.zero_le _, Nat.zero_le _⟩) [0, 1, 2, 3, 4, 5] [] [0, 1, 2, 3, 4, 5] rfl rfl (by decide) (by decide) (by decide) (fun _ => rfl) (fun u352_21 _ => ?_)
                refine s_ldc2 C (pc := 355) (v := (-4)) (List.mem_of_getElem? (i := 2) rfl) dL_pair_355 ?_
                refine s_lcmp_ne C (pc := 358) (tgt := 395) dL_pair_358 dL_pair_359 (by decide) (fun h => absurd (by decide) h) (fun c358 => ?_)
                refine s_aload_n C (pc := 362) dL_pair_362 rfl 1 rfl ?_
                refine s_iload_n C (pc := 363) dL_pair_363 rfl 2 rfl ?_
                refine s_iload_n C (pc := 364) dL_pair_364 rfl 3 rfl ?_
                refine s_calliX C (pc := 365) (wr := []) (wc' := (fun u365_22 : GD => [(b, .inr (2, [.ref h, .ref tr, .ref hi, .ref sl, .ref sf, .ref hg, .int hc])), (h, .inr (1, [.ref hp, .ref hq, .int (nI n), .int (nI w), .int f, .int ll])), (hp, .inl (X.2.1, 4, .inl (P))), (hq, .inl (X.2.1, 4, .inl (Q))), (hg, .inr (0, [.ref hgn, .int (nI u365_22.1), .long u365_22.2.2.1, .long u365_22.2.2.2.1, .long u365_22.2.2.2.2])), (hgn, .inl (X.2.1, 144, .inl (u365_22.2.1)))])) (wn := (fun u365_22 : GD => [(b, .inr (2, [.ref h, .ref tr, .ref hi, .ref sl, .ref sf, .ref hg, .int hc])), (h, .inr (1, [.ref hp, .ref hq, .int (nI n), .int (nI w), .int f, .int ll])), (hp, .inl (X.2.1, 4, .inl (P))), (hq, .inl (X.2.1, 4, .inl (Q))), (hg, .inr (0, [.ref hgn, .int (nI u365_22.1), .long u365_22.2.2.1, .long u365_22.2.2.2.1, .long u365_22.2.2.2.2])), (hgn, .inl (X.2.1, 144, .inl (u365_22.2.1)))])) (r_V C (As := [.int (nI i), .int (nI j)]) (rest := []) (kP_bnd l X b tr hi sl sf hc h hp hq n P Q w f ll hg hgn u352_21.1 u352_21.2.1 u352_21.2.2.1 u352_21.2.2.2.1 u352_21.2.2.2.2 i j B (by first | assumption | omega | decide) (by first | assumption | omega | decide) (by first | assumption | omega | decide) (by first | assumption | omega | decide) (by first | assumption | omega | decide)) (cwV 2 C.ts gL_pair_X2_bands rfl rfl rfl (by decide +kernel) ⟨Nat.le_of_ble_eq_true rfl, Nat.le_of_ble_eq_true rfl⟩) (q0 := 0) rfl rfl [0, 1, 2, 3, 4, 5] (by decide) rfl rfl (Nat.le_of_ble_eq_true rfl) rfl dL_pair_365 ⟨Nat.zero_le _, Nat.zero_le _⟩) [0, 1, 2, 3, 4, 5] [] [0, 1, 2, 3, 4, 5] rfl rfl (by decide) (by decide) (by decide) (fun _ => rfl) (fun u365_22 _ => ?_)
                refine s_iconst C (pc := 368) (v := 4) dL_pair_368 (by decide) ?_
                refine s_irem C (pc := 369) dL_pair_369 (by decide) ?_
                refine s_top C (y := 0) ((pr_mod4 B (by omega))) ?_
                refine s_if_ne C (pc := 370) (tgt := 395) dL_pair_370 (by decide) (fun h => absurd (by decide) h) (fun c370 => ?_)
                refine s_aload_n C (pc := 373) dL_pair_373 rfl 1 rfl ?_
                refine s_iload_n C (pc := 374) dL_pair_374 rfl 2 rfl ?_
                refine s_iload_n C (pc := 375) dL_pair_375 rfl 3 rfl ?_
                refine s_calliX C (pc := 376) (wr := []) (wc' := (fun u376_23 : GD => [(b, .inr (2, [.ref h, .ref tr, .ref hi, .ref sl, .ref sf, .ref hg, .int hc])), (h, .inr (1, [.ref hp, .ref hq, .int (nI n), .int (nI w), .int f, .int ll])), (hp, .inl (X.2.1, 4, .inl (P))), (hq, .inl (X.2.1, 4, .inl (Q))), (hg, .inr (0, [.ref hgn, .int (nI u376_23.1), .long u376_23.2.2.1, .long u376_23.2.2.2.1, .long u376_23.2.2.2.2])), (hgn, .inl (X.2.1, 144, .inl (u376_23.2.1)))])) (wn := (fun u376_23 : GD => [(b, .inr (2, [.ref h, .ref tr, .ref hi, .ref sl, .ref sf, .ref hg, .int hc])), (h, .inr (1, [.ref hp, .ref hq, .int (nI n), .int (nI w), .int f, .int ll])), (hp, .inl (X.2.1, 4, .inl (P))), (hq, .inl (X.2.1, 4, .inl (Q))), (hg, .inr (0, [.ref hgn, .int (nI u376_23.1), .long u376_23.2.2.1, .long u376_23.2.2.2.1, .long u376_23.2.2.2.2])), (hgn, .inl (X.2.1, 144, .inl (u376_23.2.1)))])) (r_V C (As := [.int (nI i), .int (nI j)]) (rest := []) (kP_bnd l X b tr hi sl sf hc h hp hq n P Q w f ll hg hgn u365_22.1 u365_22.2.1 u365_22.2.2.1 u365_22.2.2.2.1 u365_22.2.2.2.2 i j B (by first | assumption | omega | decide) (by first | assumption | omega | decide) (by first | assumption | omega | decide) (by first | assumption | omega | decide) (by first | assumption | omega | decide)) (cwV 2 C.ts gL_pair_X2_bands rfl rfl rfl (by decide +kernel) ⟨Nat.le_of_ble_eq_true rfl, Nat.le_of_ble_eq_true rfl⟩) (q0 := 0) rfl rfl [0, 1, 2, 3, 4, 5] (by decide) rfl rfl (Nat.le_of_ble_eq_true rfl) rfl dL_pair_376 ⟨Nat.zero_le _, Nat.zero_le _⟩) [0, 1, 2, 3, 4, 5] [] [0, 1, 2, 3, 4, 5] rfl rfl (by decide) (by decide) (by decide) (fun _ => rfl) (fun u376_23 _ => ?_)
                refine s_aload_n C (pc := 379) dL_pair_379 rfl 1 rfl ?_
                refine s_iload_n C (pc := 380) dL_pair_380 rfl 2 rfl ?_
                refine s_iload_n C (pc := 381) dL_pair_381 rfl 3 rfl ?_
                refine s_calliX C (pc := 382) (wr := []) (wc' := (fun u382_24 : GD => [(b, .inr (2, [.ref h, .ref tr, .ref hi, .ref sl, .ref sf, .ref hg, .int hc])), (h, .inr (1, [.ref hp, .ref hq, .int (nI n), .int (nI w), .int f, .int ll])), (hp, .inl (X.2.1, 4, .inl (P))), (hq, .inl (X.2.1, 4, .inl (Q))), (hg, .inr (0, [.ref hgn, .int (nI u382_24.1), .long u382_24.2.2.1, .long u382_24.2.2.2.1, .long u382_24.2.2.2.2])), (hgn, .inl (X.2.1, 144, .inl (u382_24.2.1)))])) (wn := (fun u382_24 : GD => [(b, .inr (2, [.ref h, .ref tr, .ref hi, .ref sl, .ref sf, .ref hg, .int hc])), (h, .inr (1, [.ref hp, .ref hq, .int (nI n), .int (nI w), .int f, .int ll])), (hp, .inl (X.2.1, 4, .inl (P))), (hq, .inl (X.2.1, 4, .inl (Q))), (hg, .inr (0, [.ref hgn, .int (nI u382_24.1), .long u382_24.2.2.1, .long u382_24.2.2.2.1, .long u382_24.2.2.2.2])), (hgn, .inl (X.2.1, 144, .inl (u382_24.2.1)))])) (r_V C (As := [.int (nI i), .int (nI j)]) (rest := [.int (nI (4 * B))]) (kP_lck l X b tr hi sl sf hc h hp hq n P Q w f ll hg hgn u376_23.1 u376_23.2.1 u376_23.2.2.1 u376_23.2.2.2.1 u376_23.2.2.2.2 i j R nr sp (by first | assumption | omega | decide) (by first | assumption | omega | decide) (by first | assumption | omega | decide) (by first | assumption | omega | decide) (by first | assumption | omega | decide) (by first | assumption | omega | decide)) (cwV 2 C.ts gL_pair_X2_locked rfl rfl rfl (by decide +kernel) ⟨Nat.le_of_ble_eq_true rfl, Nat.le_of_ble_eq_true rfl⟩) (q0 := 0) rfl rfl [0, 1, 2, 3, 4, 5] (by decide) rfl rfl (Nat.le_of_ble_eq_true rfl) rfl dL_pair_382 ⟨Nat.zero_le _, Nat.zero_le _⟩) [0, 1, 2, 3, 4, 5] [] [0, 1, 2, 3, 4, 5] rfl rfl (by decide) (by decide) (by decide) (fun _ => rfl) (fun u382_24 _ => ?_)
                refine s_iadd C (pc := 385) dL_pair_385 ?_
                refine s_top C (y := nI ((4 * B) + (if nr 0 = 0 then 4 * sp 1 else 0))) (nI_add _ _) ?_
                refine s_iload C (pc := 386) dL_pair_386 10 rfl ?_
                refine s_icmp_gt C (pc := 388) (tgt := 395) dL_pair_388 (by decide) (fun c388 => ?_) (fun c388 => ?_)
                · skip
                  have e388 := nat_lt (a := (4 * qtN w)) (b := ((4 * B) + (if nr 0 = 0 then 4 * sp 1 else 0))) (by omega) (by omega) c388
                  refine s_iconst C (pc := 395) (v := 0) dL_pair_395 (by decide) ?_
                  exact s_zretX C (pc := 396) hr hlk ((u382_24.1, u382_24.2.1, u382_24.2.2.1, u382_24.2.2.2.1, u382_24.2.2.2.2)) trivial [0, 1, 2, 3, 4, 5] (by decide) (rfl) rfl (rfl) dL_pair_396
                · skip
                  have e388 := nat_nlt (a := (4 * qtN w)) (b := ((4 * B) + (if nr 0 = 0 then 4 * sp 1 else 0))) (by omega) (by omega) c388
                  refine s_iconst C (pc := 391) (v := 1) dL_pair_391 (by decide) ?_
                  refine s_goto C (pc := 392) (tgt := 396) dL_pair_392 (by decide) ?_
                  exact s_zretX C (pc := 396) hr hlk ((u382_24.1, u382_24.2.1, u382_24.2.2.1, u382_24.2.2.2.1, u382_24.2.2.2.2)) trivial [0, 1, 2, 3, 4, 5] (by decide) (rfl) rfl (rfl) dL_pair_396
          · skip
            refine s_iconst C (pc := 291) (v := 0) dL_pair_291 (by decide) ?_
            refine s_calllX C (pc := 292) (wr := []) (wc' := (fun u292_25 : GD => [(b, .inr (2, [.ref h, .ref tr, .ref hi, .ref sl, .ref sf, .ref hg, .int hc])), (h, .inr (1, [.ref hp, .ref hq, .int (nI n), .int (nI w), .int f, .int ll])), (hp, .inl (X.2.1, 4, .inl (P))), (hq, .inl (X.2.1, 4, .inl (Q))), (hg, .inr (0, [.ref hgn, .int (nI u292_25.1), .long u292_25.2.2.1, .long u292_25.2.2.2.1, .long u292_25.2.2.2.2])), (hgn, .inl (X.2.1, 144, .inl (u292_25.2.1)))])) (wn := (fun u292_25 : GD => [(b, .inr (2, [.ref h, .ref tr, .ref hi, .ref sl, .ref sf, .ref hg, .int hc])), (h, .inr (1, [.ref hp, .ref hq, .int (nI n), .int (nI w), .int f, .int ll])), (hp, .inl (X.2.1, 4, .inl (P))), (hq, .inl (X.2.1, 4, .inl (Q))), (hg, .inr (0, [.ref hgn, .int (nI u292_25.1), .long u292_25.2.2.1, .long u292_25.2.2.2.1, .long u292_25.2.2.2.2])), (hgn, .inl (X.2.1, 144, .inl (u292_25.2.1)))])) (r_V C (As := [.int (nI i), .int (nI j), .int 0]) (rest := []) (kP_num l X b tr hi sl sf hc h hp hq n P Q w f ll hg hgn u2.1 u2.2.1 u2.2.2.1 u2.2.2.2.1 u2.2.2.2.2 i j R nr sp 0 (by first | assumption | omega | decide) (by first | assumption | omega | decide) (by first | assumption | omega | decide) (by first | assumption | omega | decide) (by first | assumption | omega | decide) (by first | assumption | omega | decide) (by first | assumption | omega | decide)) (cwV 3 C.ts gL_pair_X2_beatNumerator rfl rfl rfl (by decide +kernel) ⟨Nat.le_of_ble_eq_true rfl, Nat.le_of_ble_eq_true rfl⟩) (q0 := 0) rfl rfl [0, 1, 2, 3, 4, 5] (by decide) rfl rfl (Nat.le_of_ble_eq_true rfl) rfl dL_pair_292 ⟨Nat.zero_le _, Nat.zero_le _⟩) [0, 1, 2, 3, 4, 5] [] [0, 1, 2, 3, 4, 5] rfl rfl (by decide) (by decide) (by decide) (fun _ => rfl) (fun u292_25 _ => ?_)
            refine s_lconst C (pc := 295) (v := 0) dL_pair_295 (by decide) ?_
            refine s_lcmp_ne C (pc := 296) (tgt := 304) dL_pair_296 dL_pair_297 (by decide) (fun c296 => ?_) (fun c296 => ?_)
            · skip
              refine s_iconst C (pc := 304) (v := 0) dL_pair_304 (by decide) ?_
              refine s_istore C (pc := 305) (ls' := [(12, .int 0), (0, .ref b), (1, .int (nI i)), (2, .int (nI j)), (3, .int (nI w)), (4, .int (nI a)), (5, .int (nI R)), (6, .long (lN (aP P Q i j))), (8, .long la), (10, .int (nI st)), (11, .int (nI (4 * qtN w)))]) dL_pair_305 (by decide) rfl ?_
              refine s_iload C (pc := 307) dL_pair_307 9 rfl ?_
              refine s_iconst C (pc := 309) (v := 1) dL_pair_309 (by decide) ?_
              refine s_icmp_gt C (pc := 310) (tgt := 320) dL_pair_310 (by decide) (fun c310 => ?_) (fun c310 => ?_)
              · skip
                have e310 := nat_lt (a := 1) (b := st) (by omega) (by omega) c310
                refine s_iload C (pc := 320) dL_pair_320 0 rfl ?_
                refine s_if_ne C (pc := 322) (tgt := 334) dL_pair_322 (by decide) (fun h => absurd (by decide) h) (fun c322 => ?_)
                refine s_aload_n C (pc := 325) dL_pair_325 rfl 1 rfl ?_
                refine s_iload_n C (pc := 326) dL_pair_326 rfl 2 rfl ?_
                refine s_iload_n C (pc := 327) dL_pair_327 rfl 3 rfl ?_
                refine s_calliX C (pc := 328) (wr := []) (wc' := (fun u328_26 : GD => [(b, .inr (2, [.ref h, .ref tr, .ref hi, .ref sl, .ref sf, .ref hg, .int hc])), (h, .inr (1, [.ref hp, .ref hq, .int (nI n), .int (nI w), .int f, .int ll])), (hp, .inl (X.2.1, 4, .inl (P))), (hq, .inl (X.2.1, 4, .inl (Q))), (hg, .inr (0, [.ref hgn, .int (nI u328_26.1), .long u328_26.2.2.1, .long u328_26.2.2.2.1, .long u328_26.2.2.2.2])), (hgn, .inl (X.2.1, 144, .inl (u328_26.2.1)))])) (wn := (fun u328_26 : GD => [(b, .inr (2, [.ref h, .ref tr, .ref hi, .ref sl, .ref sf, .ref hg, .int hc])), (h, .inr (1, [.ref hp, .ref hq, .int (nI n), .int (nI w), .int f, .int ll])), (hp, .inl (X.2.1, 4, .inl (P))), (hq, .inl (X.2.1, 4, .inl (Q))), (hg, .inr (0, [.ref hgn, .int (nI u328_26.1), .long u328_26.2.2.1, .long u328_26.2.2.2.1, .long u328_26.2.2.2.2])), (hgn, .inl (X.2.1, 144, .inl (u328_26.2.1)))])) (r_V C (As := [.int (nI i), .int (nI j)]) (rest := []) (kP_lck l X b tr hi sl sf hc h hp hq n P Q w f ll hg hgn u292_25.1 u292_25.2.1 u292_25.2.2.1 u292_25.2.2.2.1 u292_25.2.2.2.2 i j R nr sp (by first | assumption | omega | decide) (by first | assumption | omega | decide) (by first | assumption | omega | decide) (by first | assumption | omega | decide) (by first | assumption | omega | decide) (by first | assumption | omega | decide)) (cwV 2 C.ts gL_pair_X2_locked rfl rfl rfl (by decide +kernel) ⟨Nat.le_of_ble_eq_true rfl, Nat.le_of_ble_eq_true rfl⟩) (q0 := 0) rfl rfl [0, 1, 2, 3, 4, 5] (by decide) rfl rfl (Nat.le_of_ble_eq_true rfl) rfl dL_pair_328 ⟨Nat.zero_le _, Nat.zero_le _⟩) [0, 1, 2, 3, 4, 5] [] [0, 1, 2, 3, 4, 5] rfl rfl (by decide) (by decide) (by decide) (fun _ => rfl) (fun u328_26 _ => ?_)
                refine s_top C (y := 0) ((congrArg nI (if_neg h00))) ?_
                refine s_if_ne C (pc := 331) (tgt := 395) dL_pair_331 (by decide) (fun h => absurd (by decide) h) (fun c331 => ?_)
                refine s_aload_n C (pc := 334) dL_pair_334 rfl 1 rfl ?_
                refine s_iload_n C (pc := 335) dL_pair_335 rfl 2 rfl ?_
                refine s_iload_n C (pc := 336) dL_pair_336 rfl 3 rfl ?_
                refine s_iload C (pc := 337) dL_pair_337 6 rfl ?_
                refine s_calliX C (pc := 339) (wr := []) (wc' := (fun u339_27 : GD => [(b, .inr (2, [.ref h, .ref tr, .ref hi, .ref sl, .ref sf, .ref hg, .int hc])), (h, .inr (1, [.ref hp, .ref hq, .int (nI n), .int (nI w), .int f, .int ll])), (hp, .inl (X.2.1, 4, .inl (P))), (hq, .inl (X.2.1, 4, .inl (Q))), (hg, .inr (0, [.ref hgn, .int (nI u339_27.1), .long u339_27.2.2.1, .long u339_27.2.2.2.1, .long u339_27.2.2.2.2])), (hgn, .inl (X.2.1, 144, .inl (u339_27.2.1)))])) (wn := (fun u339_27 : GD => [(b, .inr (2, [.ref h, .ref tr, .ref hi, .ref sl, .ref sf, .ref hg, .int hc])), (h, .inr (1, [.ref hp, .ref hq, .int (nI n), .int (nI w), .int f, .int ll])), (hp, .inl (X.2.1, 4, .inl (P))), (hq, .inl (X.2.1, 4, .inl (Q))), (hg, .inr (0, [.ref hgn, .int (nI u339_27.1), .long u339_27.2.2.1, .long u339_27.2.2.2.1, .long u339_27.2.2.2.2])), (hgn, .inl (X.2.1, 144, .inl (u339_27.2.1)))])) (r_V C (As := [.int (nI i), .int (nI j), .int (nI R)]) (rest := []) (kP_frqE l X b tr hi sl sf hc h hp hq n P Q w f ll hg hgn u328_26.1 u328_26.2.1 u328_26.2.2.1 u328_26.2.2.2.1 u328_26.2.2.2.2 i j R nr sp R (by first | assumption | omega | decide) (by first | assumption | omega | decide) (by first | assumption | omega | decide) (by first | assumption | omega | decide) (by first | assumption | omega | decide) (by first | assumption | omega | decide) (by first | assumption | omega | decide) (by first | assumption | omega | decide)) (cwV 3 C.ts gL_pair_X2_beatFrequency rfl rfl rfl (by decide +kernel) ⟨Nat.le_of_ble_eq_true rfl, Nat.le_of_ble_eq_true rfl⟩) (q0 := 0) rfl rfl [0, 1, 2, 3, 4, 5] (by decide) rfl rfl (Nat.le_of_ble_eq_true rfl) rfl dL_pair_339 ⟨Nat.zero_le _, Nat.zero_le _⟩) [0, 1, 2, 3, 4, 5] [] [0, 1, 2, 3, 4, 5] rfl rfl (by decide) (by decide) (by decide) (fun _ => rfl) (fun u339_27 _ => ?_)
                refine s_bipush C (pc := 342) (v := (-4)) dL_pair_342 (by decide) ?_
                refine s_icmp_ne C (pc := 344) (tgt := 395) dL_pair_344 (by decide) (fun h => absurd (by decide) h) (fun c344 => ?_)
                refine s_aload_n C (pc := 347) dL_pair_347 rfl 1 rfl ?_
                refine s_iload_n C (pc := 348) dL_pair_348 rfl 2 rfl ?_
                refine s_iload_n C (pc := 349) dL_pair_349 rfl 3 rfl ?_
                refine s_iload C (pc := 350) dL_pair_350 6 rfl ?_
                refine s_calllX C (pc := 352) (wr := []) (wc' := (fun u352_28 : GD => [(b, .inr (2, [.ref h, .ref tr, .ref hi, .ref sl, .ref sf, .ref hg, .int hc])), (h, .inr (1, [.ref hp, .ref hq, .int (nI n), .int (nI w), .int f, .int ll])), (hp, .inl (X.2.1, 4, .inl (P))), (hq, .inl (X.2.1, 4, .inl (Q))), (hg, .inr (0, [.ref hgn, .int (nI u352_28.1), .long u352_28.2.2.1, .long u352_28.2.2.2.1, .long u352_28.2.2.2.2])), (hgn, .inl (X.2.1, 144, .inl (u352_28.2.1)))])) (wn := (fun u352_28 : GD => [(b, .inr (2, [.ref h, .ref tr, .ref hi, .ref sl, .ref sf, .ref hg, .int hc])), (h, .inr (1, [.ref hp, .ref hq, .int (nI n), .int (nI w), .int f, .int ll])), (hp, .inl (X.2.1, 4, .inl (P))), (hq, .inl (X.2.1, 4, .inl (Q))), (hg, .inr (0, [.ref hgn, .int (nI u352_28.1), .long u352_28.2.2.1, .long u352_28.2.2.2.1, .long u352_28.2.2.2.2])), (hgn, .inl (X.2.1, 144, .inl (u352_28.2.1)))])) (r_V C (As := [.int (nI i), .int (nI j), .int (nI R)]) (rest := []) (kP_numE l X b tr hi sl sf hc h hp hq n P Q w f ll hg hgn u339_27.1 u339_27.2.1 u339_27.2.2.1 u339_27.2.2.2.1 u339_27.2.2.2.2 i j R nr sp R (by first | assumption | omega | decide) (by first | assumption | omega | decide) (by first | assumption | omega | decide) (by first | assumption | omega | decide) (by first | assumption | omega | decide) (by first | assumption | omega | decide) (by first | assumption | omega | decide) (by first | assumption | omega | decide)) (cwV 3 C.ts gL_pair_X2_beatNumerator rfl rfl rfl (by decide +kernel) ⟨Nat.le_of_ble_eq_true rfl, Nat.le_of_ble_eq_true rfl⟩) (q0 := 0) rfl rfl [0, 1, 2, 3, 4, 5] (by decide) rfl rfl (Nat.le_of_ble_eq_true rfl) rfl dL_pair_352 ⟨Nat.zero_le _, Nat.zero_le _⟩) [0, 1, 2, 3, 4, 5] [] [0, 1, 2, 3, 4, 5] rfl rfl (by decide) (by decide) (by decide) (fun _ => rfl) (fun u352_28 _ => ?_)
                refine s_ldc2 C (pc := 355) (v := (-4)) (List.mem_of_getElem? (i := 2) rfl) dL_pair_355 ?_
                refine s_lcmp_ne C (pc := 358) (tgt := 395) dL_pair_358 dL_pair_359 (by decide) (fun h => absurd (by decide) h) (fun c358 => ?_)
                refine s_aload_n C (pc := 362) dL_pair_362 rfl 1 rfl ?_
                refine s_iload_n C (pc := 363) dL_pair_363 rfl 2 rfl ?_
                refine s_iload_n C (pc := 364) dL_pair_364 rfl 3 rfl ?_
                refine s_calliX C (pc := 365) (wr := []) (wc' := (fun u365_29 : GD => [(b, .inr (2, [.ref h, .ref tr, .ref hi, .ref sl, .ref sf, .ref hg, .int hc])), (h, .inr (1, [.ref hp, .ref hq, .int (nI n), .int (nI w), .int f, .int ll])), (hp, .inl (X.2.1, 4, .inl (P))), (hq, .inl (X.2.1, 4, .inl (Q))), (hg, .inr (0, [.ref hgn, .int (nI u365_29.1), .long u365_29.2.2.1, .long u365_29.2.2.2.1, .long u365_29.2.2.2.2])), (hgn, .inl (X.2.1, 144, .inl (u365_29.2.1)))])) (wn := (fun u365_29 : GD => [(b, .inr (2, [.ref h, .ref tr, .ref hi, .ref sl, .ref sf, .ref hg, .int hc])), (h, .inr (1, [.ref hp, .ref hq, .int (nI n), .int (nI w), .int f, .int ll])), (hp, .inl (X.2.1, 4, .inl (P))), (hq, .inl (X.2.1, 4, .inl (Q))), (hg, .inr (0, [.ref hgn, .int (nI u365_29.1), .long u365_29.2.2.1, .long u365_29.2.2.2.1, .long u365_29.2.2.2.2])), (hgn, .inl (X.2.1, 144, .inl (u365_29.2.1)))])) (r_V C (As := [.int (nI i), .int (nI j)]) (rest := []) (kP_bnd l X b tr hi sl sf hc h hp hq n P Q w f ll hg hgn u352_28.1 u352_28.2.1 u352_28.2.2.1 u352_28.2.2.2.1 u352_28.2.2.2.2 i j B (by first | assumption | omega | decide) (by first | assumption | omega | decide) (by first | assumption | omega | decide) (by first | assumption | omega | decide) (by first | assumption | omega | decide)) (cwV 2 C.ts gL_pair_X2_bands rfl rfl rfl (by decide +kernel) ⟨Nat.le_of_ble_eq_true rfl, Nat.le_of_ble_eq_true rfl⟩) (q0 := 0) rfl rfl [0, 1, 2, 3, 4, 5] (by decide) rfl rfl (Nat.le_of_ble_eq_true rfl) rfl dL_pair_365 ⟨Nat.zero_le _, Nat.zero_le _⟩) [0, 1, 2, 3, 4, 5] [] [0, 1, 2, 3, 4, 5] rfl rfl (by decide) (by decide) (by decide) (fun _ => rfl) (fun u365_29 _ => ?_)
                refine s_iconst C (pc := 368) (v := 4) dL_pair_368 (by decide) ?_
                refine s_irem C (pc := 369) dL_pair_369 (by decide) ?_
                refine s_top C (y := 0) ((pr_mod4 B (by omega))) ?_
                refine s_if_ne C (pc := 370) (tgt := 395) dL_pair_370 (by decide) (fun h => absurd (by decide) h) (fun c370 => ?_)
                refine s_aload_n C (pc := 373) dL_pair_373 rfl 1 rfl ?_
                refine s_iload_n C (pc := 374) dL_pair_374 rfl 2 rfl ?_
                refine s_iload_n C (pc := 375) dL_pair_375 rfl 3 rfl ?_
                refine s_calliX C (pc := 376) (wr := []) (wc' := (fun u376_30 : GD => [(b, .inr (2, [.ref h, .ref tr, .ref hi, .ref sl, .ref sf, .ref hg, .int hc])), (h, .inr (1, [.ref hp, .ref hq, .int (nI n), .int (nI w), .int f, .int ll])), (hp, .inl (X.2.1, 4, .inl (P))), (hq, .inl (X.2.1, 4, .inl (Q))), (hg, .inr (0, [.ref hgn, .int (nI u376_30.1), .long u376_30.2.2.1, .long u376_30.2.2.2.1, .long u376_30.2.2.2.2])), (hgn, .inl (X.2.1, 144, .inl (u376_30.2.1)))])) (wn := (fun u376_30 : GD => [(b, .inr (2, [.ref h, .ref tr, .ref hi, .ref sl, .ref sf, .ref hg, .int hc])), (h, .inr (1, [.ref hp, .ref hq, .int (nI n), .int (nI w), .int f, .int ll])), (hp, .inl (X.2.1, 4, .inl (P))), (hq, .inl (X.2.1, 4, .inl (Q))), (hg, .inr (0, [.ref hgn, .int (nI u376_30.1), .long u376_30.2.2.1, .long u376_30.2.2.2.1, .long u376_30.2.2.2.2])), (hgn, .inl (X.2.1, 144, .inl (u376_30.2.1)))])) (r_V C (As := [.int (nI i), .int (nI j)]) (rest := []) (kP_bnd l X b tr hi sl sf hc h hp hq n P Q w f ll hg hgn u365_29.1 u365_29.2.1 u365_29.2.2.1 u365_29.2.2.2.1 u365_29.2.2.2.2 i j B (by first | assumption | omega | decide) (by first | assumption | omega | decide) (by first | assumption | omega | decide) (by first | assumption | omega | decide) (by first | assumption | omega | decide)) (cwV 2 C.ts gL_pair_X2_bands rfl rfl rfl (by decide +kernel) ⟨Nat.le_of_ble_eq_true rfl, Nat.le_of_ble_eq_true rfl⟩) (q0 := 0) rfl rfl [0, 1, 2, 3, 4, 5] (by decide) rfl rfl (Nat.le_of_ble_eq_true rfl) rfl dL_pair_376 ⟨Nat.zero_le _, Nat.zero_le _⟩) [0, 1, 2, 3, 4, 5] [] [0, 1, 2, 3, 4, 5] rfl rfl (by decide) (by decide) (by decide) (fun _ => rfl) (fun u376_30 _ => ?_)
                refine s_aload_n C (pc := 379) dL_pair_379 rfl 1 rfl ?_
                refine s_iload_n C (pc := 380) dL_pair_380 rfl 2 rfl ?_
                refine s_iload_n C (pc := 381) dL_pair_381 rfl 3 rfl ?_
                refine s_calliX C (pc := 382) (wr := []) (wc' := (fun u382_31 : GD => [(b, .inr (2, [.ref h, .ref tr, .ref hi, .ref sl, .ref sf, .ref hg, .int hc])), (h, .inr (1, [.ref hp, .ref hq, .int (nI n), .int (nI w), .int f, .int ll])), (hp, .inl (X.2.1, 4, .inl (P))), (hq, .inl (X.2.1, 4, .inl (Q))), (hg, .inr (0, [.ref hgn, .int (nI u382_31.1), .long u382_31.2.2.1, .long u382_31.2.2.2.1, .long u382_31.2.2.2.2])), (hgn, .inl (X.2.1, 144, .inl (u382_31.2.1)))])) (wn := (fun u382_31 : GD => [(b, .inr (2, [.ref h, .ref tr, .ref hi, .ref sl, .ref sf, .ref hg, .int hc])), (h, .inr (1, [.ref hp, .ref hq, .int (nI n), .int (nI w), .int f, .int ll])), (hp, .inl (X.2.1, 4, .inl (P))), (hq, .inl (X.2.1, 4, .inl (Q))), (hg, .inr (0, [.ref hgn, .int (nI u382_31.1), .long u382_31.2.2.1, .long u382_31.2.2.2.1, .long u382_31.2.2.2.2])), (hgn, .inl (X.2.1, 144, .inl (u382_31.2.1)))])) (r_V C (As := [.int (nI i), .int (nI j)]) (rest := [.int (nI (4 * B))]) (kP_lck l X b tr hi sl sf hc h hp hq n P Q w f ll hg hgn u376_30.1 u376_30.2.1 u376_30.2.2.1 u376_30.2.2.2.1 u376_30.2.2.2.2 i j R nr sp (by first | assumption | omega | decide) (by first | assumption | omega | decide) (by first | assumption | omega | decide) (by first | assumption | omega | decide) (by first | assumption | omega | decide) (by first | assumption | omega | decide)) (cwV 2 C.ts gL_pair_X2_locked rfl rfl rfl (by decide +kernel) ⟨Nat.le_of_ble_eq_true rfl, Nat.le_of_ble_eq_true rfl⟩) (q0 := 0) rfl rfl [0, 1, 2, 3, 4, 5] (by decide) rfl rfl (Nat.le_of_ble_eq_true rfl) rfl dL_pair_382 ⟨Nat.zero_le _, Nat.zero_le _⟩) [0, 1, 2, 3, 4, 5] [] [0, 1, 2, 3, 4, 5] rfl rfl (by decide) (by decide) (by decide) (fun _ => rfl) (fun u382_31 _ => ?_)
                refine s_iadd C (pc := 385) dL_pair_385 ?_
                refine s_top C (y := nI ((4 * B) + (if nr 0 = 0 then 4 * sp 1 else 0))) (nI_add _ _) ?_
                refine s_iload C (pc := 386) dL_pair_386 10 rfl ?_
                refine s_icmp_gt C (pc := 388) (tgt := 395) dL_pair_388 (by decide) (fun c388 => ?_) (fun c388 => ?_)
                · skip
                  have e388 := nat_lt (a := (4 * qtN w)) (b := ((4 * B) + (if nr 0 = 0 then 4 * sp 1 else 0))) (by omega) (by omega) c388
                  refine s_iconst C (pc := 395) (v := 0) dL_pair_395 (by decide) ?_
                  exact s_zretX C (pc := 396) hr hlk ((u382_31.1, u382_31.2.1, u382_31.2.2.1, u382_31.2.2.2.1, u382_31.2.2.2.2)) trivial [0, 1, 2, 3, 4, 5] (by decide) (rfl) rfl (rfl) dL_pair_396
                · skip
                  have e388 := nat_nlt (a := (4 * qtN w)) (b := ((4 * B) + (if nr 0 = 0 then 4 * sp 1 else 0))) (by omega) (by omega) c388
                  refine s_iconst C (pc := 391) (v := 1) dL_pair_391 (by decide) ?_
                  refine s_goto C (pc := 392) (tgt := 396) dL_pair_392 (by decide) ?_
                  exact s_zretX C (pc := 396) hr hlk ((u382_31.1, u382_31.2.1, u382_31.2.2.1, u382_31.2.2.2.1, u382_31.2.2.2.2)) trivial [0, 1, 2, 3, 4, 5] (by decide) (rfl) rfl (rfl) dL_pair_396
              · skip
                have e310 := nat_nlt (a := 1) (b := st) (by omega) (by omega) c310
                refine s_iload C (pc := 313) dL_pair_313 5 rfl ?_
                refine s_iload C (pc := 315) dL_pair_315 10 rfl ?_
                refine s_icmp_ne C (pc := 317) (tgt := 395) dL_pair_317 (by decide) (fun h => absurd (by rw [ha (by omega), show r = R by have := hr1 (by omega); omega, hspR]) h) (fun c317 => ?_)
                refine s_iload C (pc := 320) dL_pair_320 0 rfl ?_
                refine s_if_ne C (pc := 322) (tgt := 334) dL_pair_322 (by decide) (fun h => absurd (by decide) h) (fun c322 => ?_)
                refine s_aload_n C (pc := 325) dL_pair_325 rfl 1 rfl ?_
                refine s_iload_n C (pc := 326) dL_pair_326 rfl 2 rfl ?_
                refine s_iload_n C (pc := 327) dL_pair_327 rfl 3 rfl ?_
                refine s_calliX C (pc := 328) (wr := []) (wc' := (fun u328_32 : GD => [(b, .inr (2, [.ref h, .ref tr, .ref hi, .ref sl, .ref sf, .ref hg, .int hc])), (h, .inr (1, [.ref hp, .ref hq, .int (nI n), .int (nI w), .int f, .int ll])), (hp, .inl (X.2.1, 4, .inl (P))), (hq, .inl (X.2.1, 4, .inl (Q))), (hg, .inr (0, [.ref hgn, .int (nI u328_32.1), .long u328_32.2.2.1, .long u328_32.2.2.2.1, .long u328_32.2.2.2.2])), (hgn, .inl (X.2.1, 144, .inl (u328_32.2.1)))])) (wn := (fun u328_32 : GD => [(b, .inr (2, [.ref h, .ref tr, .ref hi, .ref sl, .ref sf, .ref hg, .int hc])), (h, .inr (1, [.ref hp, .ref hq, .int (nI n), .int (nI w), .int f, .int ll])), (hp, .inl (X.2.1, 4, .inl (P))), (hq, .inl (X.2.1, 4, .inl (Q))), (hg, .inr (0, [.ref hgn, .int (nI u328_32.1), .long u328_32.2.2.1, .long u328_32.2.2.2.1, .long u328_32.2.2.2.2])), (hgn, .inl (X.2.1, 144, .inl (u328_32.2.1)))])) (r_V C (As := [.int (nI i), .int (nI j)]) (rest := []) (kP_lck l X b tr hi sl sf hc h hp hq n P Q w f ll hg hgn u292_25.1 u292_25.2.1 u292_25.2.2.1 u292_25.2.2.2.1 u292_25.2.2.2.2 i j R nr sp (by first | assumption | omega | decide) (by first | assumption | omega | decide) (by first | assumption | omega | decide) (by first | assumption | omega | decide) (by first | assumption | omega | decide) (by first | assumption | omega | decide)) (cwV 2 C.ts gL_pair_X2_locked rfl rfl rfl (by decide +kernel) ⟨Nat.le_of_ble_eq_true rfl, Nat.le_of_ble_eq_true rfl⟩) (q0 := 0) rfl rfl [0, 1, 2, 3, 4, 5] (by decide) rfl rfl (Nat.le_of_ble_eq_true rfl) rfl dL_pair_328 ⟨Nat.zero_le _, Nat.zero_le _⟩) [0, 1, 2, 3, 4, 5] [] [0, 1, 2, 3, 4, 5] rfl rfl (by decide) (by decide) (by decide) (fun _ => rfl) (fun u328_32 _ => ?_)
                refine s_top C (y := 0) ((congrArg nI (if_neg h00))) ?_
                refine s_if_ne C (pc := 331) (tgt := 395) dL_pair_331 (by decide) (fun h => absurd (by decide) h) (fun c331 => ?_)
                refine s_aload_n C (pc := 334) dL_pair_334 rfl 1 rfl ?_
                refine s_iload_n C (pc := 335) dL_pair_335 rfl 2 rfl ?_
                refine s_iload_n C (pc := 336) dL_pair_336 rfl 3 rfl ?_
                refine s_iload C (pc := 337) dL_pair_337 6 rfl ?_
                refine s_calliX C (pc := 339) (wr := []) (wc' := (fun u339_33 : GD => [(b, .inr (2, [.ref h, .ref tr, .ref hi, .ref sl, .ref sf, .ref hg, .int hc])), (h, .inr (1, [.ref hp, .ref hq, .int (nI n), .int (nI w), .int f, .int ll])), (hp, .inl (X.2.1, 4, .inl (P))), (hq, .inl (X.2.1, 4, .inl (Q))), (hg, .inr (0, [.ref hgn, .int (nI u339_33.1), .long u339_33.2.2.1, .long u339_33.2.2.2.1, .long u339_33.2.2.2.2])), (hgn, .inl (X.2.1, 144, .inl (u339_33.2.1)))])) (wn := (fun u339_33 : GD => [(b, .inr (2, [.ref h, .ref tr, .ref hi, .ref sl, .ref sf, .ref hg, .int hc])), (h, .inr (1, [.ref hp, .ref hq, .int (nI n), .int (nI w), .int f, .int ll])), (hp, .inl (X.2.1, 4, .inl (P))), (hq, .inl (X.2.1, 4, .inl (Q))), (hg, .inr (0, [.ref hgn, .int (nI u339_33.1), .long u339_33.2.2.1, .long u339_33.2.2.2.1, .long u339_33.2.2.2.2])), (hgn, .inl (X.2.1, 144, .inl (u339_33.2.1)))])) (r_V C (As := [.int (nI i), .int (nI j), .int (nI R)]) (rest := []) (kP_frqE l X b tr hi sl sf hc h hp hq n P Q w f ll hg hgn u328_32.1 u328_32.2.1 u328_32.2.2.1 u328_32.2.2.2.1 u328_32.2.2.2.2 i j R nr sp R (by first | assumption | omega | decide) (by first | assumption | omega | decide) (by first | assumption | omega | decide) (by first | assumption | omega | decide) (by first | assumption | omega | decide) (by first | assumption | omega | decide) (by first | assumption | omega | decide) (by first | assumption | omega | decide)) (cwV 3 C.ts gL_pair_X2_beatFrequency rfl rfl rfl (by decide +kernel) ⟨Nat.le_of_ble_eq_true rfl, Nat.le_of_ble_eq_true rfl⟩) (q0 := 0) rfl rfl [0, 1, 2, 3, 4, 5] (by decide) rfl rfl (Nat.le_of_ble_eq_true rfl) rfl dL_pair_339 ⟨Nat.zero_le _, Nat.zero_le _⟩) [0, 1, 2, 3, 4, 5] [] [0, 1, 2, 3, 4, 5] rfl rfl (by decide) (by decide) (by decide) (fun _ => rfl) (fun u339_33 _ => ?_)
                refine s_bipush C (pc := 342) (v := (-4)) dL_pair_342 (by decide) ?_
                refine s_icmp_ne C (pc := 344) (tgt := 395) dL_pair_344 (by decide) (fun h => absurd (by decide) h) (fun c344 => ?_)
                refine s_aload_n C (pc := 347) dL_pair_347 rfl 1 rfl ?_
                refine s_iload_n C (pc := 348) dL_pair_348 rfl 2 rfl ?_
                refine s_iload_n C (pc := 349) dL_pair_349 rfl 3 rfl ?_
                refine s_iload C (pc := 350) dL_pair_350 6 rfl ?_
                refine s_calllX C (pc := 352) (wr := []) (wc' := (fun u352_34 : GD => [(b, .inr (2, [.ref h, .ref tr, .ref hi, .ref sl, .ref sf, .ref hg, .int hc])), (h, .inr (1, [.ref hp, .ref hq, .int (nI n), .int (nI w), .int f, .int ll])), (hp, .inl (X.2.1, 4, .inl (P))), (hq, .inl (X.2.1, 4, .inl (Q))), (hg, .inr (0, [.ref hgn, .int (nI u352_34.1), .long u352_34.2.2.1, .long u352_34.2.2.2.1, .long u352_34.2.2.2.2])), (hgn, .inl (X.2.1, 144, .inl (u352_34.2.1)))])) (wn := (fun u352_34 : GD => [(b, .inr (2, [.ref h, .ref tr, .ref hi, .ref sl, .ref sf, .ref hg, .int hc])), (h, .inr (1, [.ref hp, .ref hq, .int (nI n), .int (nI w), .int f, .int ll])), (hp, .inl (X.2.1, 4, .inl (P))), (hq, .inl (X.2.1, 4, .inl (Q))), (hg, .inr (0, [.ref hgn, .int (nI u352_34.1), .long u352_34.2.2.1, .long u352_34.2.2.2.1, .long u352_34.2.2.2.2])), (hgn, .inl (X.2.1, 144, .inl (u352_34.2.1)))])) (r_V C (As := [.int (nI i), .int (nI j), .int (nI R)]) (rest := []) (kP_numE l X b tr hi sl sf hc h hp hq n P Q w f ll hg hgn u339_33.1 u339_33.2.1 u339_33.2.2.1 u339_33.2.2.2.1 u339_33.2.2.2.2 i j R nr sp R (by first | assumption | omega | decide) (by first | assumption | omega | decide) (by first | assumption | omega | decide) (by first | assumption | omega | decide) (by first | assumption | omega | decide) (by first | assumption | omega | decide) (by first | assumption | omega | decide) (by first | assumption | omega | decide)) (cwV 3 C.ts gL_pair_X2_beatNumerator rfl rfl rfl (by decide +kernel) ⟨Nat.le_of_ble_eq_true rfl, Nat.le_of_ble_eq_true rfl⟩) (q0 := 0) rfl rfl [0, 1, 2, 3, 4, 5] (by decide) rfl rfl (Nat.le_of_ble_eq_true rfl) rfl dL_pair_352 ⟨Nat.zero_le _, Nat.zero_le _⟩) [0, 1, 2, 3, 4, 5] [] [0, 1, 2, 3, 4, 5] rfl rfl (by decide) (by decide) (by decide) (fun _ => rfl) (fun u352_34 _ => ?_)
                refine s_ldc2 C (pc := 355) (v := (-4)) (List.mem_of_getElem? (i := 2) rfl) dL_pair_355 ?_
                refine s_lcmp_ne C (pc := 358) (tgt := 395) dL_pair_358 dL_pair_359 (by decide) (fun h => absurd (by decide) h) (fun c358 => ?_)
                refine s_aload_n C (pc := 362) dL_pair_362 rfl 1 rfl ?_
                refine s_iload_n C (pc := 363) dL_pair_363 rfl 2 rfl ?_
                refine s_iload_n C (pc := 364) dL_pair_364 rfl 3 rfl ?_
                refine s_calliX C (pc := 365) (wr := []) (wc' := (fun u365_35 : GD => [(b, .inr (2, [.ref h, .ref tr, .ref hi, .ref sl, .ref sf, .ref hg, .int hc])), (h, .inr (1, [.ref hp, .ref hq, .int (nI n), .int (nI w), .int f, .int ll])), (hp, .inl (X.2.1, 4, .inl (P))), (hq, .inl (X.2.1, 4, .inl (Q))), (hg, .inr (0, [.ref hgn, .int (nI u365_35.1), .long u365_35.2.2.1, .long u365_35.2.2.2.1, .long u365_35.2.2.2.2])), (hgn, .inl (X.2.1, 144, .inl (u365_35.2.1)))])) (wn := (fun u365_35 : GD => [(b, .inr (2, [.ref h, .ref tr, .ref hi, .ref sl, .ref sf, .ref hg, .int hc])), (h, .inr (1, [.ref hp, .ref hq, .int (nI n), .int (nI w), .int f, .int ll])), (hp, .inl (X.2.1, 4, .inl (P))), (hq, .inl (X.2.1, 4, .inl (Q))), (hg, .inr (0, [.ref hgn, .int (nI u365_35.1), .long u365_35.2.2.1, .long u365_35.2.2.2.1, .long u365_35.2.2.2.2])), (hgn, .inl (X.2.1, 144, .inl (u365_35.2.1)))])) (r_V C (As := [.int (nI i), .int (nI j)]) (rest := []) (kP_bnd l X b tr hi sl sf hc h hp hq n P Q w f ll hg hgn u352_34.1 u352_34.2.1 u352_34.2.2.1 u352_34.2.2.2.1 u352_34.2.2.2.2 i j B (by first | assumption | omega | decide) (by first | assumption | omega | decide) (by first | assumption | omega | decide) (by first | assumption | omega | decide) (by first | assumption | omega | decide)) (cwV 2 C.ts gL_pair_X2_bands rfl rfl rfl (by decide +kernel) ⟨Nat.le_of_ble_eq_true rfl, Nat.le_of_ble_eq_true rfl⟩) (q0 := 0) rfl rfl [0, 1, 2, 3, 4, 5] (by decide) rfl rfl (Nat.le_of_ble_eq_true rfl) rfl dL_pair_365 ⟨Nat.zero_le _, Nat.zero_le _⟩) [0, 1, 2, 3, 4, 5] [] [0, 1, 2, 3, 4, 5] rfl rfl (by decide) (by decide) (by decide) (fun _ => rfl) (fun u365_35 _ => ?_)
                refine s_iconst C (pc := 368) (v := 4) dL_pair_368 (by decide) ?_
                refine s_irem C (pc := 369) dL_pair_369 (by decide) ?_
                refine s_top C (y := 0) ((pr_mod4 B (by omega))) ?_
                refine s_if_ne C (pc := 370) (tgt := 395) dL_pair_370 (by decide) (fun h => absurd (by decide) h) (fun c370 => ?_)
                refine s_aload_n C (pc := 373) dL_pair_373 rfl 1 rfl ?_
                refine s_iload_n C (pc := 374) dL_pair_374 rfl 2 rfl ?_
                refine s_iload_n C (pc := 375) dL_pair_375 rfl 3 rfl ?_
                refine s_calliX C (pc := 376) (wr := []) (wc' := (fun u376_36 : GD => [(b, .inr (2, [.ref h, .ref tr, .ref hi, .ref sl, .ref sf, .ref hg, .int hc])), (h, .inr (1, [.ref hp, .ref hq, .int (nI n), .int (nI w), .int f, .int ll])), (hp, .inl (X.2.1, 4, .inl (P))), (hq, .inl (X.2.1, 4, .inl (Q))), (hg, .inr (0, [.ref hgn, .int (nI u376_36.1), .long u376_36.2.2.1, .long u376_36.2.2.2.1, .long u376_36.2.2.2.2])), (hgn, .inl (X.2.1, 144, .inl (u376_36.2.1)))])) (wn := (fun u376_36 : GD => [(b, .inr (2, [.ref h, .ref tr, .ref hi, .ref sl, .ref sf, .ref hg, .int hc])), (h, .inr (1, [.ref hp, .ref hq, .int (nI n), .int (nI w), .int f, .int ll])), (hp, .inl (X.2.1, 4, .inl (P))), (hq, .inl (X.2.1, 4, .inl (Q))), (hg, .inr (0, [.ref hgn, .int (nI u376_36.1), .long u376_36.2.2.1, .long u376_36.2.2.2.1, .long u376_36.2.2.2.2])), (hgn, .inl (X.2.1, 144, .inl (u376_36.2.1)))])) (r_V C (As := [.int (nI i), .int (nI j)]) (rest := []) (kP_bnd l X b tr hi sl sf hc h hp hq n P Q w f ll hg hgn u365_35.1 u365_35.2.1 u365_35.2.2.1 u365_35.2.2.2.1 u365_35.2.2.2.2 i j B (by first | assumption | omega | decide) (by first | assumption | omega | decide) (by first | assumption | omega | decide) (by first | assumption | omega | decide) (by first | assumption | omega | decide)) (cwV 2 C.ts gL_pair_X2_bands rfl rfl rfl (by decide +kernel) ⟨Nat.le_of_ble_eq_true rfl, Nat.le_of_ble_eq_true rfl⟩) (q0 := 0) rfl rfl [0, 1, 2, 3, 4, 5] (by decide) rfl rfl (Nat.le_of_ble_eq_true rfl) rfl dL_pair_376 ⟨Nat.zero_le _, Nat.zero_le _⟩) [0, 1, 2, 3, 4, 5] [] [0, 1, 2, 3, 4, 5] rfl rfl (by decide) (by decide) (by decide) (fun _ => rfl) (fun u376_36 _ => ?_)
                refine s_aload_n C (pc := 379) dL_pair_379 rfl 1 rfl ?_
                refine s_iload_n C (pc := 380) dL_pair_380 rfl 2 rfl ?_
                refine s_iload_n C (pc := 381) dL_pair_381 rfl 3 rfl ?_
                refine s_calliX C (pc := 382) (wr := []) (wc' := (fun u382_37 : GD => [(b, .inr (2, [.ref h, .ref tr, .ref hi, .ref sl, .ref sf, .ref hg, .int hc])), (h, .inr (1, [.ref hp, .ref hq, .int (nI n), .int (nI w), .int f, .int ll])), (hp, .inl (X.2.1, 4, .inl (P))), (hq, .inl (X.2.1, 4, .inl (Q))), (hg, .inr (0, [.ref hgn, .int (nI u382_37.1), .long u382_37.2.2.1, .long u382_37.2.2.2.1, .long u382_37.2.2.2.2])), (hgn, .inl (X.2.1, 144, .inl (u382_37.2.1)))])) (wn := (fun u382_37 : GD => [(b, .inr (2, [.ref h, .ref tr, .ref hi, .ref sl, .ref sf, .ref hg, .int hc])), (h, .inr (1, [.ref hp, .ref hq, .int (nI n), .int (nI w), .int f, .int ll])), (hp, .inl (X.2.1, 4, .inl (P))), (hq, .inl (X.2.1, 4, .inl (Q))), (hg, .inr (0, [.ref hgn, .int (nI u382_37.1), .long u382_37.2.2.1, .long u382_37.2.2.2.1, .long u382_37.2.2.2.2])), (hgn, .inl (X.2.1, 144, .inl (u382_37.2.1)))])) (r_V C (As := [.int (nI i), .int (nI j)]) (rest := [.int (nI (4 * B))]) (kP_lck l X b tr hi sl sf hc h hp hq n P Q w f ll hg hgn u376_36.1 u376_36.2.1 u376_36.2.2.1 u376_36.2.2.2.1 u376_36.2.2.2.2 i j R nr sp (by first | assumption | omega | decide) (by first | assumption | omega | decide) (by first | assumption | omega | decide) (by first | assumption | omega | decide) (by first | assumption | omega | decide) (by first | assumption | omega | decide)) (cwV 2 C.ts gL_pair_X2_locked rfl rfl rfl (by decide +kernel) ⟨Nat.le_of_ble_eq_true rfl, Nat.le_of_ble_eq_true rfl⟩) (q0 := 0) rfl rfl [0, 1, 2, 3, 4, 5] (by decide) rfl rfl (Nat.le_of_ble_eq_true rfl) rfl dL_pair_382 ⟨Nat.zero_le _, Nat.zero_le _⟩) [0, 1, 2, 3, 4, 5] [] [0, 1, 2, 3, 4, 5] rfl rfl (by decide) (by decide) (by decide) (fun _ => rfl) (fun u382_37 _ => ?_)
                refine s_iadd C (pc := 385) dL_pair_385 ?_
                refine s_top C (y := nI ((4 * B) + (if nr 0 = 0 then 4 * sp 1 else 0))) (nI_add _ _) ?_
                refine s_iload C (pc := 386) dL_pair_386 10 rfl ?_
                refine s_icmp_gt C (pc := 388) (tgt := 395) dL_pair_388 (by decide) (fun c388 => ?_) (fun c388 => ?_)
                · skip
                  have e388 := nat_lt (a := (4 * qtN w)) (b := ((4 * B) + (if nr 0 = 0 then 4 * sp 1 else 0))) (by omega) (by omega) c388
                  refine s_iconst C (pc := 395) (v := 0) dL_pair_395 (by decide) ?_
                  exact s_zretX C (pc := 396) hr hlk ((u382_37.1, u382_37.2.1, u382_37.2.2.1, u382_37.2.2.2.1, u382_37.2.2.2.2)) trivial [0, 1, 2, 3, 4, 5] (by decide) (rfl) rfl (rfl) dL_pair_396
                · skip
                  have e388 := nat_nlt (a := (4 * qtN w)) (b := ((4 * B) + (if nr 0 = 0 then 4 * sp 1 else 0))) (by omega) (by omega) c388
                  refine s_iconst C (pc := 391) (v := 1) dL_pair_391 (by decide) ?_
                  refine s_goto C (pc := 392) (tgt := 396) dL_pair_392 (by decide) ?_
                  exact s_zretX C (pc := 396) hr hlk ((u382_37.1, u382_37.2.1, u382_37.2.2.1, u382_37.2.2.2.1, u382_37.2.2.2.2)) trivial [0, 1, 2, 3, 4, 5] (by decide) (rfl) rfl (rfl) dL_pair_396
            · skip
              refine s_iconst C (pc := 300) (v := 1) dL_pair_300 (by decide) ?_
              refine s_goto C (pc := 301) (tgt := 305) dL_pair_301 (by decide) ?_
              refine s_istore C (pc := 305) (ls' := [(12, .int 1), (0, .ref b), (1, .int (nI i)), (2, .int (nI j)), (3, .int (nI w)), (4, .int (nI a)), (5, .int (nI R)), (6, .long (lN (aP P Q i j))), (8, .long la), (10, .int (nI st)), (11, .int (nI (4 * qtN w)))]) dL_pair_305 (by decide) rfl ?_
              refine s_iload C (pc := 307) dL_pair_307 9 rfl ?_
              refine s_iconst C (pc := 309) (v := 1) dL_pair_309 (by decide) ?_
              refine s_icmp_gt C (pc := 310) (tgt := 320) dL_pair_310 (by decide) (fun c310 => ?_) (fun c310 => ?_)
              · skip
                have e310 := nat_lt (a := 1) (b := st) (by omega) (by omega) c310
                refine s_iload C (pc := 320) dL_pair_320 0 rfl ?_
                refine s_if_ne C (pc := 322) (tgt := 334) dL_pair_322 (by decide) (fun c322 => ?_) (fun h => absurd h (by decide))
                refine s_aload_n C (pc := 334) dL_pair_334 rfl 1 rfl ?_
                refine s_iload_n C (pc := 335) dL_pair_335 rfl 2 rfl ?_
                refine s_iload_n C (pc := 336) dL_pair_336 rfl 3 rfl ?_
                refine s_iload C (pc := 337) dL_pair_337 6 rfl ?_
                refine s_calliX C (pc := 339) (wr := []) (wc' := (fun u339_38 : GD => [(b, .inr (2, [.ref h, .ref tr, .ref hi, .ref sl, .ref sf, .ref hg, .int hc])), (h, .inr (1, [.ref hp, .ref hq, .int (nI n), .int (nI w), .int f, .int ll])), (hp, .inl (X.2.1, 4, .inl (P))), (hq, .inl (X.2.1, 4, .inl (Q))), (hg, .inr (0, [.ref hgn, .int (nI u339_38.1), .long u339_38.2.2.1, .long u339_38.2.2.2.1, .long u339_38.2.2.2.2])), (hgn, .inl (X.2.1, 144, .inl (u339_38.2.1)))])) (wn := (fun u339_38 : GD => [(b, .inr (2, [.ref h, .ref tr, .ref hi, .ref sl, .ref sf, .ref hg, .int hc])), (h, .inr (1, [.ref hp, .ref hq, .int (nI n), .int (nI w), .int f, .int ll])), (hp, .inl (X.2.1, 4, .inl (P))), (hq, .inl (X.2.1, 4, .inl (Q))), (hg, .inr (0, [.ref hgn, .int (nI u339_38.1), .long u339_38.2.2.1, .long u339_38.2.2.2.1, .long u339_38.2.2.2.2])), (hgn, .inl (X.2.1, 144, .inl (u339_38.2.1)))])) (r_V C (As := [.int (nI i), .int (nI j), .int (nI R)]) (rest := []) (kP_frqE l X b tr hi sl sf hc h hp hq n P Q w f ll hg hgn u292_25.1 u292_25.2.1 u292_25.2.2.1 u292_25.2.2.2.1 u292_25.2.2.2.2 i j R nr sp R (by first | assumption | omega | decide) (by first | assumption | omega | decide) (by first | assumption | omega | decide) (by first | assumption | omega | decide) (by first | assumption | omega | decide) (by first | assumption | omega | decide) (by first | assumption | omega | decide) (by first | assumption | omega | decide)) (cwV 3 C.ts gL_pair_X2_beatFrequency rfl rfl rfl (by decide +kernel) ⟨Nat.le_of_ble_eq_true rfl, Nat.le_of_ble_eq_true rfl⟩) (q0 := 0) rfl rfl [0, 1, 2, 3, 4, 5] (by decide) rfl rfl (Nat.le_of_ble_eq_true rfl) rfl dL_pair_339 ⟨Nat.zero_le _, Nat.zero_le _⟩) [0, 1, 2, 3, 4, 5] [] [0, 1, 2, 3, 4, 5] rfl rfl (by decide) (by decide) (by decide) (fun _ => rfl) (fun u339_38 _ => ?_)
                refine s_bipush C (pc := 342) (v := (-4)) dL_pair_342 (by decide) ?_
                refine s_icmp_ne C (pc := 344) (tgt := 395) dL_pair_344 (by decide) (fun h => absurd (by decide) h) (fun c344 => ?_)
                refine s_aload_n C (pc := 347) dL_pair_347 rfl 1 rfl ?_
                refine s_iload_n C (pc := 348) dL_pair_348 rfl 2 rfl ?_
                refine s_iload_n C (pc := 349) dL_pair_349 rfl 3 rfl ?_
                refine s_iload C (pc := 350) dL_pair_350 6 rfl ?_
                refine s_calllX C (pc := 352) (wr := []) (wc' := (fun u352_39 : GD => [(b, .inr (2, [.ref h, .ref tr, .ref hi, .ref sl, .ref sf, .ref hg, .int hc])), (h, .inr (1, [.ref hp, .ref hq, .int (nI n), .int (nI w), .int f, .int ll])), (hp, .inl (X.2.1, 4, .inl (P))), (hq, .inl (X.2.1, 4, .inl (Q))), (hg, .inr (0, [.ref hgn, .int (nI u352_39.1), .long u352_39.2.2.1, .long u352_39.2.2.2.1, .long u352_39.2.2.2.2])), (hgn, .inl (X.2.1, 144, .inl (u352_39.2.1)))])) (wn := (fun u352_39 : GD => [(b, .inr (2, [.ref h, .ref tr, .ref hi, .ref sl, .ref sf, .ref hg, .int hc])), (h, .inr (1, [.ref hp, .ref hq, .int (nI n), .int (nI w), .int f, .int ll])), (hp, .inl (X.2.1, 4, .inl (P))), (hq, .inl (X.2.1, 4, .inl (Q))), (hg, .inr (0, [.ref hgn, .int (nI u352_39.1), .long u352_39.2.2.1, .long u352_39.2.2.2.1, .long u352_39.2.2.2.2])), (hgn, .inl (X.2.1, 144, .inl (u352_39.2.1)))])) (r_V C (As := [.int (nI i), .int (nI j), .int (nI R)]) (rest := []) (kP_numE l X b tr hi sl sf hc h hp hq n P Q w f ll hg hgn u339_38.1 u339_38.2.1 u339_38.2.2.1 u339_38.2.2.2.1 u339_38.2.2.2.2 i j R nr sp R (by first | assumption | omega | decide) (by first | assumption | omega | decide) (by first | assumption | omega | decide) (by first | assumption | omega | decide) (by first | assumption | omega | decide) (by first | assumption | omega | decide) (by first | assumption | omega | decide) (by first | assumption | omega | decide)) (cwV 3 C.ts gL_pair_X2_beatNumerator rfl rfl rfl (by decide +kernel) ⟨Nat.le_of_ble_eq_true rfl, Nat.le_of_ble_eq_true rfl⟩) (q0 := 0) rfl rfl [0, 1, 2, 3, 4, 5] (by decide) rfl rfl (Nat.le_of_ble_eq_true rfl) rfl dL_pair_352 ⟨Nat.zero_le _, Nat.zero_le _⟩) [0, 1, 2, 3, 4, 5] [] [0, 1, 2, 3, 4, 5] rfl rfl (by decide) (by decide) (by decide) (fun _ => rfl) (fun u352_39 _ => ?_)
                refine s_ldc2 C (pc := 355) (v := (-4)) (List.mem_of_getElem? (i := 2) rfl) dL_pair_355 ?_
                refine s_lcmp_ne C (pc := 358) (tgt := 395) dL_pair_358 dL_pair_359 (by decide) (fun h => absurd (by decide) h) (fun c358 => ?_)
                refine s_aload_n C (pc := 362) dL_pair_362 rfl 1 rfl ?_
                refine s_iload_n C (pc := 363) dL_pair_363 rfl 2 rfl ?_
                refine s_iload_n C (pc := 364) dL_pair_364 rfl 3 rfl ?_
                refine s_calliX C (pc := 365) (wr := []) (wc' := (fun u365_40 : GD => [(b, .inr (2, [.ref h, .ref tr, .ref hi, .ref sl, .ref sf, .ref hg, .int hc])), (h, .inr (1, [.ref hp, .ref hq, .int (nI n), .int (nI w), .int f, .int ll])), (hp, .inl (X.2.1, 4, .inl (P))), (hq, .inl (X.2.1, 4, .inl (Q))), (hg, .inr (0, [.ref hgn, .int (nI u365_40.1), .long u365_40.2.2.1, .long u365_40.2.2.2.1, .long u365_40.2.2.2.2])), (hgn, .inl (X.2.1, 144, .inl (u365_40.2.1)))])) (wn := (fun u365_40 : GD => [(b, .inr (2, [.ref h, .ref tr, .ref hi, .ref sl, .ref sf, .ref hg, .int hc])), (h, .inr (1, [.ref hp, .ref hq, .int (nI n), .int (nI w), .int f, .int ll])), (hp, .inl (X.2.1, 4, .inl (P))), (hq, .inl (X.2.1, 4, .inl (Q))), (hg, .inr (0, [.ref hgn, .int (nI u365_40.1), .long u365_40.2.2.1, .long u365_40.2.2.2.1, .long u365_40.2.2.2.2])), (hgn, .inl (X.2.1, 144, .inl (u365_40.2.1)))])) (r_V C (As := [.int (nI i), .int (nI j)]) (rest := []) (kP_bnd l X b tr hi sl sf hc h hp hq n P Q w f ll hg hgn u352_39.1 u352_39.2.1 u352_39.2.2.1 u352_39.2.2.2.1 u352_39.2.2.2.2 i j B (by first | assumption | omega | decide) (by first | assumption | omega | decide) (by first | assumption | omega | decide) (by first | assumption | omega | decide) (by first | assumption | omega | decide)) (cwV 2 C.ts gL_pair_X2_bands rfl rfl rfl (by decide +kernel) ⟨Nat.le_of_ble_eq_true rfl, Nat.le_of_ble_eq_true rfl⟩) (q0 := 0) rfl rfl [0, 1, 2, 3, 4, 5] (by decide) rfl rfl (Nat.le_of_ble_eq_true rfl) rfl dL_pair_365 ⟨Nat.zero_le _, Nat.zero_le _⟩) [0, 1, 2, 3, 4, 5] [] [0, 1, 2, 3, 4, 5] rfl rfl (by decide) (by decide) (by decide) (fun _ => rfl) (fun u365_40 _ => ?_)
                refine s_iconst C (pc := 368) (v := 4) dL_pair_368 (by decide) ?_
                refine s_irem C (pc := 369) dL_pair_369 (by decide) ?_
                refine s_top C (y := 0) ((pr_mod4 B (by omega))) ?_
                refine s_if_ne C (pc := 370) (tgt := 395) dL_pair_370 (by decide) (fun h => absurd (by decide) h) (fun c370 => ?_)
                refine s_aload_n C (pc := 373) dL_pair_373 rfl 1 rfl ?_
                refine s_iload_n C (pc := 374) dL_pair_374 rfl 2 rfl ?_
                refine s_iload_n C (pc := 375) dL_pair_375 rfl 3 rfl ?_
                refine s_calliX C (pc := 376) (wr := []) (wc' := (fun u376_41 : GD => [(b, .inr (2, [.ref h, .ref tr, .ref hi, .ref sl, .ref sf, .ref hg, .int hc])), (h, .inr (1, [.ref hp, .ref hq, .int (nI n), .int (nI w), .int f, .int ll])), (hp, .inl (X.2.1, 4, .inl (P))), (hq, .inl (X.2.1, 4, .inl (Q))), (hg, .inr (0, [.ref hgn, .int (nI u376_41.1), .long u376_41.2.2.1, .long u376_41.2.2.2.1, .long u376_41.2.2.2.2])), (hgn, .inl (X.2.1, 144, .inl (u376_41.2.1)))])) (wn := (fun u376_41 : GD => [(b, .inr (2, [.ref h, .ref tr, .ref hi, .ref sl, .ref sf, .ref hg, .int hc])), (h, .inr (1, [.ref hp, .ref hq, .int (nI n), .int (nI w), .int f, .int ll])), (hp, .inl (X.2.1, 4, .inl (P))), (hq, .inl (X.2.1, 4, .inl (Q))), (hg, .inr (0, [.ref hgn, .int (nI u376_41.1), .long u376_41.2.2.1, .long u376_41.2.2.2.1, .long u376_41.2.2.2.2])), (hgn, .inl (X.2.1, 144, .inl (u376_41.2.1)))])) (r_V C (As := [.int (nI i), .int (nI j)]) (rest := []) (kP_bnd l X b tr hi sl sf hc h hp hq n P Q w f ll hg hgn u365_40.1 u365_40.2.1 u365_40.2.2.1 u365_40.2.2.2.1 u365_40.2.2.2.2 i j B (by first | assumption | omega | decide) (by first | assumption | omega | decide) (by first | assumption | omega | decide) (by first | assumption | omega | decide) (by first | assumption | omega | decide)) (cwV 2 C.ts gL_pair_X2_bands rfl rfl rfl (by decide +kernel) ⟨Nat.le_of_ble_eq_true rfl, Nat.le_of_ble_eq_true rfl⟩) (q0 := 0) rfl rfl [0, 1, 2, 3, 4, 5] (by decide) rfl rfl (Nat.le_of_ble_eq_true rfl) rfl dL_pair_376 ⟨Nat.zero_le _, Nat.zero_le _⟩) [0, 1, 2, 3, 4, 5] [] [0, 1, 2, 3, 4, 5] rfl rfl (by decide) (by decide) (by decide) (fun _ => rfl) (fun u376_41 _ => ?_)
                refine s_aload_n C (pc := 379) dL_pair_379 rfl 1 rfl ?_
                refine s_iload_n C (pc := 380) dL_pair_380 rfl 2 rfl ?_
                refine s_iload_n C (pc := 381) dL_pair_381 rfl 3 rfl ?_
                refine s_calliX C (pc := 382) (wr := []) (wc' := (fun u382_42 : GD => [(b, .inr (2, [.ref h, .ref tr, .ref hi, .ref sl, .ref sf, .ref hg, .int hc])), (h, .inr (1, [.ref hp, .ref hq, .int (nI n), .int (nI w), .int f, .int ll])), (hp, .inl (X.2.1, 4, .inl (P))), (hq, .inl (X.2.1, 4, .inl (Q))), (hg, .inr (0, [.ref hgn, .int (nI u382_42.1), .long u382_42.2.2.1, .long u382_42.2.2.2.1, .long u382_42.2.2.2.2])), (hgn, .inl (X.2.1, 144, .inl (u382_42.2.1)))])) (wn := (fun u382_42 : GD => [(b, .inr (2, [.ref h, .ref tr, .ref hi, .ref sl, .ref sf, .ref hg, .int hc])), (h, .inr (1, [.ref hp, .ref hq, .int (nI n), .int (nI w), .int f, .int ll])), (hp, .inl (X.2.1, 4, .inl (P))), (hq, .inl (X.2.1, 4, .inl (Q))), (hg, .inr (0, [.ref hgn, .int (nI u382_42.1), .long u382_42.2.2.1, .long u382_42.2.2.2.1, .long u382_42.2.2.2.2])), (hgn, .inl (X.2.1, 144, .inl (u382_42.2.1)))])) (r_V C (As := [.int (nI i), .int (nI j)]) (rest := [.int (nI (4 * B))]) (kP_lck l X b tr hi sl sf hc h hp hq n P Q w f ll hg hgn u376_41.1 u376_41.2.1 u376_41.2.2.1 u376_41.2.2.2.1 u376_41.2.2.2.2 i j R nr sp (by first | assumption | omega | decide) (by first | assumption | omega | decide) (by first | assumption | omega | decide) (by first | assumption | omega | decide) (by first | assumption | omega | decide) (by first | assumption | omega | decide)) (cwV 2 C.ts gL_pair_X2_locked rfl rfl rfl (by decide +kernel) ⟨Nat.le_of_ble_eq_true rfl, Nat.le_of_ble_eq_true rfl⟩) (q0 := 0) rfl rfl [0, 1, 2, 3, 4, 5] (by decide) rfl rfl (Nat.le_of_ble_eq_true rfl) rfl dL_pair_382 ⟨Nat.zero_le _, Nat.zero_le _⟩) [0, 1, 2, 3, 4, 5] [] [0, 1, 2, 3, 4, 5] rfl rfl (by decide) (by decide) (by decide) (fun _ => rfl) (fun u382_42 _ => ?_)
                refine s_iadd C (pc := 385) dL_pair_385 ?_
                refine s_top C (y := nI ((4 * B) + (if nr 0 = 0 then 4 * sp 1 else 0))) (nI_add _ _) ?_
                refine s_iload C (pc := 386) dL_pair_386 10 rfl ?_
                refine s_icmp_gt C (pc := 388) (tgt := 395) dL_pair_388 (by decide) (fun c388 => ?_) (fun c388 => ?_)
                · skip
                  have e388 := nat_lt (a := (4 * qtN w)) (b := ((4 * B) + (if nr 0 = 0 then 4 * sp 1 else 0))) (by omega) (by omega) c388
                  refine s_iconst C (pc := 395) (v := 0) dL_pair_395 (by decide) ?_
                  exact s_zretX C (pc := 396) hr hlk ((u382_42.1, u382_42.2.1, u382_42.2.2.1, u382_42.2.2.2.1, u382_42.2.2.2.2)) trivial [0, 1, 2, 3, 4, 5] (by decide) (rfl) rfl (rfl) dL_pair_396
                · skip
                  have e388 := nat_nlt (a := (4 * qtN w)) (b := ((4 * B) + (if nr 0 = 0 then 4 * sp 1 else 0))) (by omega) (by omega) c388
                  refine s_iconst C (pc := 391) (v := 1) dL_pair_391 (by decide) ?_
                  refine s_goto C (pc := 392) (tgt := 396) dL_pair_392 (by decide) ?_
                  exact s_zretX C (pc := 396) hr hlk ((u382_42.1, u382_42.2.1, u382_42.2.2.1, u382_42.2.2.2.1, u382_42.2.2.2.2)) trivial [0, 1, 2, 3, 4, 5] (by decide) (rfl) rfl (rfl) dL_pair_396
              · skip
                have e310 := nat_nlt (a := 1) (b := st) (by omega) (by omega) c310
                refine s_iload C (pc := 313) dL_pair_313 5 rfl ?_
                refine s_iload C (pc := 315) dL_pair_315 10 rfl ?_
                refine s_icmp_ne C (pc := 317) (tgt := 395) dL_pair_317 (by decide) (fun h => absurd (by rw [ha (by omega), show r = R by have := hr1 (by omega); omega, hspR]) h) (fun c317 => ?_)
                refine s_iload C (pc := 320) dL_pair_320 0 rfl ?_
                refine s_if_ne C (pc := 322) (tgt := 334) dL_pair_322 (by decide) (fun c322 => ?_) (fun h => absurd h (by decide))
                refine s_aload_n C (pc := 334) dL_pair_334 rfl 1 rfl ?_
                refine s_iload_n C (pc := 335) dL_pair_335 rfl 2 rfl ?_
                refine s_iload_n C (pc := 336) dL_pair_336 rfl 3 rfl ?_
                refine s_iload C (pc := 337) dL_pair_337 6 rfl ?_
                refine s_calliX C (pc := 339) (wr := []) (wc' := (fun u339_43 : GD => [(b, .inr (2, [.ref h, .ref tr, .ref hi, .ref sl, .ref sf, .ref hg, .int hc])), (h, .inr (1, [.ref hp, .ref hq, .int (nI n), .int (nI w), .int f, .int ll])), (hp, .inl (X.2.1, 4, .inl (P))), (hq, .inl (X.2.1, 4, .inl (Q))), (hg, .inr (0, [.ref hgn, .int (nI u339_43.1), .long u339_43.2.2.1, .long u339_43.2.2.2.1, .long u339_43.2.2.2.2])), (hgn, .inl (X.2.1, 144, .inl (u339_43.2.1)))])) (wn := (fun u339_43 : GD => [(b, .inr (2, [.ref h, .ref tr, .ref hi, .ref sl, .ref sf, .ref hg, .int hc])), (h, .inr (1, [.ref hp, .ref hq, .int (nI n), .int (nI w), .int f, .int ll])), (hp, .inl (X.2.1, 4, .inl (P))), (hq, .inl (X.2.1, 4, .inl (Q))), (hg, .inr (0, [.ref hgn, .int (nI u339_43.1), .long u339_43.2.2.1, .long u339_43.2.2.2.1, .long u339_43.2.2.2.2])), (hgn, .inl (X.2.1, 144, .inl (u339_43.2.1)))])) (r_V C (As := [.int (nI i), .int (nI j), .int (nI R)]) (rest := []) (kP_frqE l X b tr hi sl sf hc h hp hq n P Q w f ll hg hgn u292_25.1 u292_25.2.1 u292_25.2.2.1 u292_25.2.2.2.1 u292_25.2.2.2.2 i j R nr sp R (by first | assumption | omega | decide) (by first | assumption | omega | decide) (by first | assumption | omega | decide) (by first | assumption | omega | decide) (by first | assumption | omega | decide) (by first | assumption | omega | decide) (by first | assumption | omega | decide) (by first | assumption | omega | decide)) (cwV 3 C.ts gL_pair_X2_beatFrequency rfl rfl rfl (by decide +kernel) ⟨Nat.le_of_ble_eq_true rfl, Nat.le_of_ble_eq_true rfl⟩) (q0 := 0) rfl rfl [0, 1, 2, 3, 4, 5] (by decide) rfl rfl (Nat.le_of_ble_eq_true rfl) rfl dL_pair_339 ⟨Nat.zero_le _, Nat.zero_le _⟩) [0, 1, 2, 3, 4, 5] [] [0, 1, 2, 3, 4, 5] rfl rfl (by decide) (by decide) (by decide) (fun _ => rfl) (fun u339_43 _ => ?_)
                refine s_bipush C (pc := 342) (v := (-4)) dL_pair_342 (by decide) ?_
                refine s_icmp_ne C (pc := 344) (tgt := 395) dL_pair_344 (by decide) (fun h => absurd (by decide) h) (fun c344 => ?_)
                refine s_aload_n C (pc := 347) dL_pair_347 rfl 1 rfl ?_
                refine s_iload_n C (pc := 348) dL_pair_348 rfl 2 rfl ?_
                refine s_iload_n C (pc := 349) dL_pair_349 rfl 3 rfl ?_
                refine s_iload C (pc := 350) dL_pair_350 6 rfl ?_
                refine s_calllX C (pc := 352) (wr := []) (wc' := (fun u352_44 : GD => [(b, .inr (2, [.ref h, .ref tr, .ref hi, .ref sl, .ref sf, .ref hg, .int hc])), (h, .inr (1, [.ref hp, .ref hq, .int (nI n), .int (nI w), .int f, .int ll])), (hp, .inl (X.2.1, 4, .inl (P))), (hq, .inl (X.2.1, 4, .inl (Q))), (hg, .inr (0, [.ref hgn, .int (nI u352_44.1), .long u352_44.2.2.1, .long u352_44.2.2.2.1, .long u352_44.2.2.2.2])), (hgn, .inl (X.2.1, 144, .inl (u352_44.2.1)))])) (wn := (fun u352_44 : GD => [(b, .inr (2, [.ref h, .ref tr, .ref hi, .ref sl, .ref sf, .ref hg, .int hc])), (h, .inr (1, [.ref hp, .ref hq, .int (nI n), .int (nI w), .int f, .int ll])), (hp, .inl (X.2.1, 4, .inl (P))), (hq, .inl (X.2.1, 4, .inl (Q))), (hg, .inr (0, [.ref hgn, .int (nI u352_44.1), .long u352_44.2.2.1, .long u352_44.2.2.2.1, .long u352_44.2.2.2.2])), (hgn, .inl (X.2.1, 144, .inl (u352_44.2.1)))])) (r_V C (As := [.int (nI i), .int (nI j), .int (nI R)]) (rest := []) (kP_numE l X b tr hi sl sf hc h hp hq n P Q w f ll hg hgn u339_43.1 u339_43.2.1 u339_43.2.2.1 u339_43.2.2.2.1 u339_43.2.2.2.2 i j R nr sp R (by first | assumption | omega | decide) (by first | assumption | omega | decide) (by first | assumption | omega | decide) (by first | assumption | omega | decide) (by first | assumption | omega | decide) (by first | assumption | omega | decide) (by first | assumption | omega | decide) (by first | assumption | omega | decide)) (cwV 3 C.ts gL_pair_X2_beatNumerator rfl rfl rfl (by decide +kernel) ⟨Nat.le_of_ble_eq_true rfl, Nat.le_of_ble_eq_true rfl⟩) (q0 := 0) rfl rfl [0, 1, 2, 3, 4, 5] (by decide) rfl rfl (Nat.le_of_ble_eq_true rfl) rfl dL_pair_352 ⟨Nat.zero_le _, Nat.zero_le _⟩) [0, 1, 2, 3, 4, 5] [] [0, 1, 2, 3, 4, 5] rfl rfl (by decide) (by decide) (by decide) (fun _ => rfl) (fun u352_44 _ => ?_)
                refine s_ldc2 C (pc := 355) (v := (-4)) (List.mem_of_getElem? (i := 2) rfl) dL_pair_355 ?_
                refine s_lcmp_ne C (pc := 358) (tgt := 395) dL_pair_358 dL_pair_359 (by decide) (fun h => absurd (by decide) h) (fun c358 => ?_)
                refine s_aload_n C (pc := 362) dL_pair_362 rfl 1 rfl ?_
                refine s_iload_n C (pc := 363) dL_pair_363 rfl 2 rfl ?_
                refine s_iload_n C (pc := 364) dL_pair_364 rfl 3 rfl ?_
                refine s_calliX C (pc := 365) (wr := []) (wc' := (fun u365_45 : GD => [(b, .inr (2, [.ref h, .ref tr, .ref hi, .ref sl, .ref sf, .ref hg, .int hc])), (h, .inr (1, [.ref hp, .ref hq, .int (nI n), .int (nI w), .int f, .int ll])), (hp, .inl (X.2.1, 4, .inl (P))), (hq, .inl (X.2.1, 4, .inl (Q))), (hg, .inr (0, [.ref hgn, .int (nI u365_45.1), .long u365_45.2.2.1, .long u365_45.2.2.2.1, .long u365_45.2.2.2.2])), (hgn, .inl (X.2.1, 144, .inl (u365_45.2.1)))])) (wn := (fun u365_45 : GD => [(b, .inr (2, [.ref h, .ref tr, .ref hi, .ref sl, .ref sf, .ref hg, .int hc])), (h, .inr (1, [.ref hp, .ref hq, .int (nI n), .int (nI w), .int f, .int ll])), (hp, .inl (X.2.1, 4, .inl (P))), (hq, .inl (X.2.1, 4, .inl (Q))), (hg, .inr (0, [.ref hgn, .int (nI u365_45.1), .long u365_45.2.2.1, .long u365_45.2.2.2.1, .long u365_45.2.2.2.2])), (hgn, .inl (X.2.1, 144, .inl (u365_45.2.1)))])) (r_V C (As := [.int (nI i), .int (nI j)]) (rest := []) (kP_bnd l X b tr hi sl sf hc h hp hq n P Q w f ll hg hgn u352_44.1 u352_44.2.1 u352_44.2.2.1 u352_44.2.2.2.1 u352_44.2.2.2.2 i j B (by first | assumption | omega | decide) (by first | assumption | omega | decide) (by first | assumption | omega | decide) (by first | assumption | omega | decide) (by first | assumption | omega | decide)) (cwV 2 C.ts gL_pair_X2_bands rfl rfl rfl (by decide +kernel) ⟨Nat.le_of_ble_eq_true rfl, Nat.le_of_ble_eq_true rfl⟩) (q0 := 0) rfl rfl [0, 1, 2, 3, 4, 5] (by decide) rfl rfl (Nat.le_of_ble_eq_true rfl) rfl dL_pair_365 ⟨Nat.zero_le _, Nat.zero_le _⟩) [0, 1, 2, 3, 4, 5] [] [0, 1, 2, 3, 4, 5] rfl rfl (by decide) (by decide) (by decide) (fun _ => rfl) (fun u365_45 _ => ?_)
                refine s_iconst C (pc := 368) (v := 4) dL_pair_368 (by decide) ?_
                refine s_irem C (pc := 369) dL_pair_369 (by decide) ?_
                refine s_top C (y := 0) ((pr_mod4 B (by omega))) ?_
                refine s_if_ne C (pc := 370) (tgt := 395) dL_pair_370 (by decide) (fun h => absurd (by decide) h) (fun c370 => ?_)
                refine s_aload_n C (pc := 373) dL_pair_373 rfl 1 rfl ?_
                refine s_iload_n C (pc := 374) dL_pair_374 rfl 2 rfl ?_
                refine s_iload_n C (pc := 375) dL_pair_375 rfl 3 rfl ?_
                refine s_calliX C (pc := 376) (wr := []) (wc' := (fun u376_46 : GD => [(b, .inr (2, [.ref h, .ref tr, .ref hi, .ref sl, .ref sf, .ref hg, .int hc])), (h, .inr (1, [.ref hp, .ref hq, .int (nI n), .int (nI w), .int f, .int ll])), (hp, .inl (X.2.1, 4, .inl (P))), (hq, .inl (X.2.1, 4, .inl (Q))), (hg, .inr (0, [.ref hgn, .int (nI u376_46.1), .long u376_46.2.2.1, .long u376_46.2.2.2.1, .long u376_46.2.2.2.2])), (hgn, .inl (X.2.1, 144, .inl (u376_46.2.1)))])) (wn := (fun u376_46 : GD => [(b, .inr (2, [.ref h, .ref tr, .ref hi, .ref sl, .ref sf, .ref hg, .int hc])), (h, .inr (1, [.ref hp, .ref hq, .int (nI n), .int (nI w), .int f, .int ll])), (hp, .inl (X.2.1, 4, .inl (P))), (hq, .inl (X.2.1, 4, .inl (Q))), (hg, .inr (0, [.ref hgn, .int (nI u376_46.1), .long u376_46.2.2.1, .long u376_46.2.2.2.1, .long u376_46.2.2.2.2])), (hgn, .inl (X.2.1, 144, .inl (u376_46.2.1)))])) (r_V C (As := [.int (nI i), .int (nI j)]) (rest := []) (kP_bnd l X b tr hi sl sf hc h hp hq n P Q w f ll hg hgn u365_45.1 u365_45.2.1 u365_45.2.2.1 u365_45.2.2.2.1 u365_45.2.2.2.2 i j B (by first | assumption | omega | decide) (by first | assumption | omega | decide) (by first | assumption | omega | decide) (by first | assumption | omega | decide) (by first | assumption | omega | decide)) (cwV 2 C.ts gL_pair_X2_bands rfl rfl rfl (by decide +kernel) ⟨Nat.le_of_ble_eq_true rfl, Nat.le_of_ble_eq_true rfl⟩) (q0 := 0) rfl rfl [0, 1, 2, 3, 4, 5] (by decide) rfl rfl (Nat.le_of_ble_eq_true rfl) rfl dL_pair_376 ⟨Nat.zero_le _, Nat.zero_le _⟩) [0, 1, 2, 3, 4, 5] [] [0, 1, 2, 3, 4, 5] rfl rfl (by decide) (by decide) (by decide) (fun _ => rfl) (fun u376_46 _ => ?_)
                refine s_aload_n C (pc := 379) dL_pair_379 rfl 1 rfl ?_
                refine s_iload_n C (pc := 380) dL_pair_380 rfl 2 rfl ?_
                refine s_iload_n C (pc := 381) dL_pair_381 rfl 3 rfl ?_
                refine s_calliX C (pc := 382) (wr := []) (wc' := (fun u382_47 : GD => [(b, .inr (2, [.ref h, .ref tr, .ref hi, .ref sl, .ref sf, .ref hg, .int hc])), (h, .inr (1, [.ref hp, .ref hq, .int (nI n), .int (nI w), .int f, .int ll])), (hp, .inl (X.2.1, 4, .inl (P))), (hq, .inl (X.2.1, 4, .inl (Q))), (hg, .inr (0, [.ref hgn, .int (nI u382_47.1), .long u382_47.2.2.1, .long u382_47.2.2.2.1, .long u382_47.2.2.2.2])), (hgn, .inl (X.2.1, 144, .inl (u382_47.2.1)))])) (wn := (fun u382_47 : GD => [(b, .inr (2, [.ref h, .ref tr, .ref hi, .ref sl, .ref sf, .ref hg, .int hc])), (h, .inr (1, [.ref hp, .ref hq, .int (nI n), .int (nI w), .int f, .int ll])), (hp, .inl (X.2.1, 4, .inl (P))), (hq, .inl (X.2.1, 4, .inl (Q))), (hg, .inr (0, [.ref hgn, .int (nI u382_47.1), .long u382_47.2.2.1, .long u382_47.2.2.2.1, .long u382_47.2.2.2.2])), (hgn, .inl (X.2.1, 144, .inl (u382_47.2.1)))])) (r_V C (As := [.int (nI i), .int (nI j)]) (rest := [.int (nI (4 * B))]) (kP_lck l X b tr hi sl sf hc h hp hq n P Q w f ll hg hgn u376_46.1 u376_46.2.1 u376_46.2.2.1 u376_46.2.2.2.1 u376_46.2.2.2.2 i j R nr sp (by first | assumption | omega | decide) (by first | assumption | omega | decide) (by first | assumption | omega | decide) (by first | assumption | omega | decide) (by first | assumption | omega | decide) (by first | assumption | omega | decide)) (cwV 2 C.ts gL_pair_X2_locked rfl rfl rfl (by decide +kernel) ⟨Nat.le_of_ble_eq_true rfl, Nat.le_of_ble_eq_true rfl⟩) (q0 := 0) rfl rfl [0, 1, 2, 3, 4, 5] (by decide) rfl rfl (Nat.le_of_ble_eq_true rfl) rfl dL_pair_382 ⟨Nat.zero_le _, Nat.zero_le _⟩) [0, 1, 2, 3, 4, 5] [] [0, 1, 2, 3, 4, 5] rfl rfl (by decide) (by decide) (by decide) (fun _ => rfl) (fun u382_47 _ => ?_)
                refine s_iadd C (pc := 385) dL_pair_385 ?_
                refine s_top C (y := nI ((4 * B) + (if nr 0 = 0 then 4 * sp 1 else 0))) (nI_add _ _) ?_
                refine s_iload C (pc := 386) dL_pair_386 10 rfl ?_
                refine s_icmp_gt C (pc := 388) (tgt := 395) dL_pair_388 (by decide) (fun c388 => ?_) (fun c388 => ?_)
                · skip
                  have e388 := nat_lt (a := (4 * qtN w)) (b := ((4 * B) + (if nr 0 = 0 then 4 * sp 1 else 0))) (by omega) (by omega) c388
                  refine s_iconst C (pc := 395) (v := 0) dL_pair_395 (by decide) ?_
                  exact s_zretX C (pc := 396) hr hlk ((u382_47.1, u382_47.2.1, u382_47.2.2.1, u382_47.2.2.2.1, u382_47.2.2.2.2)) trivial [0, 1, 2, 3, 4, 5] (by decide) (rfl) rfl (rfl) dL_pair_396
                · skip
                  have e388 := nat_nlt (a := (4 * qtN w)) (b := ((4 * B) + (if nr 0 = 0 then 4 * sp 1 else 0))) (by omega) (by omega) c388
                  refine s_iconst C (pc := 391) (v := 1) dL_pair_391 (by decide) ?_
                  refine s_goto C (pc := 392) (tgt := 396) dL_pair_392 (by decide) ?_
                  exact s_zretX C (pc := 396) hr hlk ((u382_47.1, u382_47.2.1, u382_47.2.2.1, u382_47.2.2.2.1, u382_47.2.2.2.2)) trivial [0, 1, 2, 3, 4, 5] (by decide) (rfl) rfl (rfl) dL_pair_396
        · skip
          have e71 := nat_nle (a := R) (b := r) (by omega) (by omega) c71
          have e67 : r < R := by omega
          have hN0 := hnr r e67
          have hud := (ud_n hN0 hA).2.2
          by_cases h0 : nr r = 0
          · skip
            refine s_aload_n C (pc := 74) dL_pair_74 rfl 0 rfl ?_
            refine s_iload_n C (pc := 75) dL_pair_75 rfl 1 rfl ?_
            refine s_iload_n C (pc := 76) dL_pair_76 rfl 2 rfl ?_
            refine s_iload C (pc := 77) dL_pair_77 10 rfl ?_
            refine s_calllX C (pc := 79) (wr := []) (wc' := (fun u79_48 : GD => [(b, .inr (2, [.ref h, .ref tr, .ref hi, .ref sl, .ref sf, .ref hg, .int hc])), (h, .inr (1, [.ref hp, .ref hq, .int (nI n), .int (nI w), .int f, .int ll])), (hp, .inl (X.2.1, 4, .inl (P))), (hq, .inl (X.2.1, 4, .inl (Q))), (hg, .inr (0, [.ref hgn, .int (nI u79_48.1), .long u79_48.2.2.1, .long u79_48.2.2.2.1, .long u79_48.2.2.2.2])), (hgn, .inl (X.2.1, 144, .inl (u79_48.2.1)))])) (wn := (fun u79_48 : GD => [(b, .inr (2, [.ref h, .ref tr, .ref hi, .ref sl, .ref sf, .ref hg, .int hc])), (h, .inr (1, [.ref hp, .ref hq, .int (nI n), .int (nI w), .int f, .int ll])), (hp, .inl (X.2.1, 4, .inl (P))), (hq, .inl (X.2.1, 4, .inl (Q))), (hg, .inr (0, [.ref hgn, .int (nI u79_48.1), .long u79_48.2.2.1, .long u79_48.2.2.2.1, .long u79_48.2.2.2.2])), (hgn, .inl (X.2.1, 144, .inl (u79_48.2.1)))])) (r_V C (As := [.int (nI i), .int (nI j), .int (nI r)]) (rest := []) (kP_num l X b tr hi sl sf hc h hp hq n P Q w f ll hg hgn u2.1 u2.2.1 u2.2.2.1 u2.2.2.2.1 u2.2.2.2.2 i j R nr sp r (by first | assumption | omega | decide) (by first | assumption | omega | decide) (by first | assumption | omega | decide) (by first | assumption | omega | decide) (by first | assumption | omega | decide) (by first | assumption | omega | decide) (by first | assumption | omega | decide)) (cwV 3 C.ts gL_pair_X2_beatNumerator rfl rfl rfl (by decide +kernel) ⟨Nat.le_of_ble_eq_true rfl, Nat.le_of_ble_eq_true rfl⟩) (q0 := 0) rfl rfl [0, 1, 2, 3, 4, 5] (by decide) rfl rfl (Nat.le_of_ble_eq_true rfl) rfl dL_pair_79 ⟨Nat.zero_le _, Nat.zero_le _⟩) [0, 1, 2, 3, 4, 5] [] [0, 1, 2, 3, 4, 5] rfl rfl (by decide) (by decide) (by decide) (fun _ => rfl) (fun u79_48 _ => ?_)
            refine s_lstore C (pc := 82) (ls' := [(13, .long (lN (upN (nr r) (aP P Q i j)))), (0, .ref b), (1, .int (nI i)), (2, .int (nI j)), (3, .int (nI w)), (4, .int (nI a)), (5, .int (nI R)), (6, .long (lN (aP P Q i j))), (8, .long la), (10, .int (nI st)), (11, .int (nI (4 * qtN w))), (12, .int (nI r))]) dL_pair_82 (by decide) rfl ?_
            refine s_aload_n C (pc := 84) dL_pair_84 rfl 1 rfl ?_
            refine s_iload_n C (pc := 85) dL_pair_85 rfl 2 rfl ?_
            refine s_iload_n C (pc := 86) dL_pair_86 rfl 3 rfl ?_
            refine s_iload C (pc := 87) dL_pair_87 11 rfl ?_
            refine s_calllX C (pc := 89) (wr := []) (wc' := (fun u89_49 : GD => [(b, .inr (2, [.ref h, .ref tr, .ref hi, .ref sl, .ref sf, .ref hg, .int hc])), (h, .inr (1, [.ref hp, .ref hq, .int (nI n), .int (nI w), .int f, .int ll])), (hp, .inl (X.2.1, 4, .inl (P))), (hq, .inl (X.2.1, 4, .inl (Q))), (hg, .inr (0, [.ref hgn, .int (nI u89_49.1), .long u89_49.2.2.1, .long u89_49.2.2.2.1, .long u89_49.2.2.2.2])), (hgn, .inl (X.2.1, 144, .inl (u89_49.2.1)))])) (wn := (fun u89_49 : GD => [(b, .inr (2, [.ref h, .ref tr, .ref hi, .ref sl, .ref sf, .ref hg, .int hc])), (h, .inr (1, [.ref hp, .ref hq, .int (nI n), .int (nI w), .int f, .int ll])), (hp, .inl (X.2.1, 4, .inl (P))), (hq, .inl (X.2.1, 4, .inl (Q))), (hg, .inr (0, [.ref hgn, .int (nI u89_49.1), .long u89_49.2.2.1, .long u89_49.2.2.2.1, .long u89_49.2.2.2.2])), (hgn, .inl (X.2.1, 144, .inl (u89_49.2.1)))])) (r_V C (As := [.int (nI i), .int (nI j), .int (nI r)]) (rest := []) (kP_den l X b tr hi sl sf hc h hp hq n P Q w f ll hg hgn u79_48.1 u79_48.2.1 u79_48.2.2.1 u79_48.2.2.2.1 u79_48.2.2.2.2 i j R nr sp r (by first | assumption | omega | decide) (by first | assumption | omega | decide) (by first | assumption | omega | decide) (by first | assumption | omega | decide) (by first | assumption | omega | decide) (by first | assumption | omega | decide) (by first | assumption | omega | decide)) (cwV 3 C.ts gL_pair_X2_beatDenominator rfl rfl rfl (by decide +kernel) ⟨Nat.le_of_ble_eq_true rfl, Nat.le_of_ble_eq_true rfl⟩) (q0 := 0) rfl rfl [0, 1, 2, 3, 4, 5] (by decide) rfl rfl (Nat.le_of_ble_eq_true rfl) rfl dL_pair_89 ⟨Nat.zero_le _, Nat.zero_le _⟩) [0, 1, 2, 3, 4, 5] [] [0, 1, 2, 3, 4, 5] rfl rfl (by decide) (by decide) (by decide) (fun _ => rfl) (fun u89_49 _ => ?_)
            refine s_lstore C (pc := 92) (ls' := [(15, .long (lN (dnN (nr r) (aP P Q i j)))), (13, .long (lN (upN (nr r) (aP P Q i j)))), (0, .ref b), (1, .int (nI i)), (2, .int (nI j)), (3, .int (nI w)), (4, .int (nI a)), (5, .int (nI R)), (6, .long (lN (aP P Q i j))), (8, .long la), (10, .int (nI st)), (11, .int (nI (4 * qtN w))), (12, .int (nI r))]) dL_pair_92 (by decide) rfl ?_
            refine s_aload_n C (pc := 94) dL_pair_94 rfl 2 rfl ?_
            refine s_iload_n C (pc := 95) dL_pair_95 rfl 3 rfl ?_
            refine s_iload_n C (pc := 96) dL_pair_96 rfl 4 rfl ?_
            refine s_iload C (pc := 97) dL_pair_97 12 rfl ?_
            refine s_calliX C (pc := 99) (wr := []) (wc' := (fun u99_50 : GD => [(b, .inr (2, [.ref h, .ref tr, .ref hi, .ref sl, .ref sf, .ref hg, .int hc])), (h, .inr (1, [.ref hp, .ref hq, .int (nI n), .int (nI w), .int f, .int ll])), (hp, .inl (X.2.1, 4, .inl (P))), (hq, .inl (X.2.1, 4, .inl (Q))), (hg, .inr (0, [.ref hgn, .int (nI u99_50.1), .long u99_50.2.2.1, .long u99_50.2.2.2.1, .long u99_50.2.2.2.2])), (hgn, .inl (X.2.1, 144, .inl (u99_50.2.1)))])) (wn := (fun u99_50 : GD => [(b, .inr (2, [.ref h, .ref tr, .ref hi, .ref sl, .ref sf, .ref hg, .int hc])), (h, .inr (1, [.ref hp, .ref hq, .int (nI n), .int (nI w), .int f, .int ll])), (hp, .inl (X.2.1, 4, .inl (P))), (hq, .inl (X.2.1, 4, .inl (Q))), (hg, .inr (0, [.ref hgn, .int (nI u99_50.1), .long u99_50.2.2.1, .long u99_50.2.2.2.1, .long u99_50.2.2.2.2])), (hgn, .inl (X.2.1, 144, .inl (u99_50.2.1)))])) (r_V C (As := [.int (nI i), .int (nI j), .int (nI r)]) (rest := []) (kP_per0 l X b tr hi sl sf hc h hp hq n P Q w f ll hg hgn u89_49.1 u89_49.2.1 u89_49.2.2.1 u89_49.2.2.2.1 u89_49.2.2.2.2 i j R nr sp r (by first | assumption | omega | decide) (by first | assumption | omega | decide) (by first | assumption | omega | decide) (by first | assumption | omega | decide) (by first | assumption | omega | decide) (by first | assumption | omega | decide) (by first | assumption | omega | decide) (by first | assumption | omega | decide)) (cwV 3 C.ts gL_pair_X2_beatPeriod rfl rfl rfl (by decide +kernel) ⟨Nat.le_of_ble_eq_true rfl, Nat.le_of_ble_eq_true rfl⟩) (q0 := 0) rfl rfl [0, 1, 2, 3, 4, 5] (by decide) rfl rfl (Nat.le_of_ble_eq_true rfl) rfl dL_pair_99 ⟨Nat.zero_le _, Nat.zero_le _⟩) [0, 1, 2, 3, 4, 5] [] [0, 1, 2, 3, 4, 5] rfl rfl (by decide) (by decide) (by decide) (fun _ => rfl) (fun u99_50 _ => ?_)
            refine s_istore C (pc := 102) (ls' := [(17, .int (-4)), (15, .long (lN (dnN (nr r) (aP P Q i j)))), (13, .long (lN (upN (nr r) (aP P Q i j)))), (0, .ref b), (1, .int (nI i)), (2, .int (nI j)), (3, .int (nI w)), (4, .int (nI a)), (5, .int (nI R)), (6, .long (lN (aP P Q i j))), (8, .long la), (10, .int (nI st)), (11, .int (nI (4 * qtN w))), (12, .int (nI r))]) dL_pair_102 (by decide) rfl ?_
            refine s_aload_n C (pc := 104) dL_pair_104 rfl 3 rfl ?_
            refine s_iload_n C (pc := 105) dL_pair_105 rfl 4 rfl ?_
            refine s_iload_n C (pc := 106) dL_pair_106 rfl 5 rfl ?_
            refine s_iload C (pc := 107) dL_pair_107 13 rfl ?_
            refine s_calliX C (pc := 109) (wr := []) (wc' := (fun u109_51 : GD => [(b, .inr (2, [.ref h, .ref tr, .ref hi, .ref sl, .ref sf, .ref hg, .int hc])), (h, .inr (1, [.ref hp, .ref hq, .int (nI n), .int (nI w), .int f, .int ll])), (hp, .inl (X.2.1, 4, .inl (P))), (hq, .inl (X.2.1, 4, .inl (Q))), (hg, .inr (0, [.ref hgn, .int (nI u109_51.1), .long u109_51.2.2.1, .long u109_51.2.2.2.1, .long u109_51.2.2.2.2])), (hgn, .inl (X.2.1, 144, .inl (u109_51.2.1)))])) (wn := (fun u109_51 : GD => [(b, .inr (2, [.ref h, .ref tr, .ref hi, .ref sl, .ref sf, .ref hg, .int hc])), (h, .inr (1, [.ref hp, .ref hq, .int (nI n), .int (nI w), .int f, .int ll])), (hp, .inl (X.2.1, 4, .inl (P))), (hq, .inl (X.2.1, 4, .inl (Q))), (hg, .inr (0, [.ref hgn, .int (nI u109_51.1), .long u109_51.2.2.1, .long u109_51.2.2.2.1, .long u109_51.2.2.2.2])), (hgn, .inl (X.2.1, 144, .inl (u109_51.2.1)))])) (r_V C (As := [.int (nI i), .int (nI j), .int (nI r)]) (rest := []) (kP_frq l X b tr hi sl sf hc h hp hq n P Q w f ll hg hgn u99_50.1 u99_50.2.1 u99_50.2.2.1 u99_50.2.2.2.1 u99_50.2.2.2.2 i j R nr sp r (by first | assumption | omega | decide) (by first | assumption | omega | decide) (by first | assumption | omega | decide) (by first | assumption | omega | decide) (by first | assumption | omega | decide) (by first | assumption | omega | decide) (by first | assumption | omega | decide)) (cwV 3 C.ts gL_pair_X2_beatFrequency rfl rfl rfl (by decide +kernel) ⟨Nat.le_of_ble_eq_true rfl, Nat.le_of_ble_eq_true rfl⟩) (q0 := 0) rfl rfl [0, 1, 2, 3, 4, 5] (by decide) rfl rfl (Nat.le_of_ble_eq_true rfl) rfl dL_pair_109 ⟨Nat.zero_le _, Nat.zero_le _⟩) [0, 1, 2, 3, 4, 5] [] [0, 1, 2, 3, 4, 5] rfl rfl (by decide) (by decide) (by decide) (fun _ => rfl) (fun u109_51 _ => ?_)
            refine s_istore C (pc := 112) (ls' := [(18, .int (nI (4 * (sp (r + 1) - sp r)))), (17, .int (-4)), (15, .long (lN (dnN (nr r) (aP P Q i j)))), (13, .long (lN (upN (nr r) (aP P Q i j)))), (0, .ref b), (1, .int (nI i)), (2, .int (nI j)), (3, .int (nI w)), (4, .int (nI a)), (5, .int (nI R)), (6, .long (lN (aP P Q i j))), (8, .long la), (10, .int (nI st)), (11, .int (nI (4 * qtN w))), (12, .int (nI r))]) dL_pair_112 (by decide) rfl ?_
            refine s_iload C (pc := 114) dL_pair_114 8 rfl ?_
            refine s_iload C (pc := 116) dL_pair_116 0 rfl ?_
            refine s_iadd C (pc := 118) dL_pair_118 ?_
            refine s_top C (y := nI (a + (4 * (sp (r + 1) - sp r)))) (nI_add _ _) ?_
            refine s_istore C (pc := 119) (ls' := [(4, .int (nI (a + (4 * (sp (r + 1) - sp r))))), (18, .int (nI (4 * (sp (r + 1) - sp r)))), (17, .int (-4)), (15, .long (lN (dnN (nr r) (aP P Q i j)))), (13, .long (lN (upN (nr r) (aP P Q i j)))), (0, .ref b), (1, .int (nI i)), (2, .int (nI j)), (3, .int (nI w)), (5, .int (nI R)), (6, .long (lN (aP P Q i j))), (8, .long la), (10, .int (nI st)), (11, .int (nI (4 * qtN w))), (12, .int (nI r))]) dL_pair_119 (by decide) rfl ?_
            refine s_lload C (pc := 121) dL_pair_121 4 rfl ?_
            refine s_lconst C (pc := 123) (v := 0) dL_pair_123 (by decide) ?_
            refine s_lcmp_lt C (pc := 124) (tgt := 199) dL_pair_124 dL_pair_125 (by decide) (fun c124 => ?_) (fun c124 => ?_)
            · skip
              refine s_iconst C (pc := 199) (v := 0) dL_pair_199 (by decide) ?_
              exact s_zretX C (pc := 200) hr hlk ((u109_51.1, u109_51.2.1, u109_51.2.2.1, u109_51.2.2.2.1, u109_51.2.2.2.2)) trivial [0, 1, 2, 3, 4, 5] (by decide) (rfl) rfl (rfl) dL_pair_200
            · skip
              refine s_lload C (pc := 128) dL_pair_128 3 rfl ?_
              refine s_lconst C (pc := 130) (v := 1) dL_pair_130 (by decide) ?_
              refine s_lcmp_lt C (pc := 131) (tgt := 199) dL_pair_131 dL_pair_132 (by decide) (fun c131 => ?_) (fun c131 => ?_)
              · skip
                refine s_iconst C (pc := 199) (v := 0) dL_pair_199 (by decide) ?_
                exact s_zretX C (pc := 200) hr hlk ((u109_51.1, u109_51.2.1, u109_51.2.2.1, u109_51.2.2.2.1, u109_51.2.2.2.2)) trivial [0, 1, 2, 3, 4, 5] (by decide) (rfl) rfl (rfl) dL_pair_200
              · skip
                refine s_lload C (pc := 135) dL_pair_135 4 rfl ?_
                refine s_lconst C (pc := 137) (v := 0) dL_pair_137 (by decide) ?_
                refine s_lcmp_ne C (pc := 138) (tgt := 146) dL_pair_138 dL_pair_139 (by decide) (fun c138 => ?_) (fun c138 => ?_)
                · skip
                  refine s_iconst C (pc := 146) (v := 0) dL_pair_146 (by decide) ?_
                  refine s_iload C (pc := 147) dL_pair_147 2 rfl ?_
                  refine s_bipush C (pc := 149) (v := (-4)) dL_pair_149 (by decide) ?_
                  refine s_icmp_ne C (pc := 151) (tgt := 158) dL_pair_151 (by decide) (fun h => absurd (by decide) h) (fun c151 => ?_)
                  refine s_iconst C (pc := 154) (v := 1) dL_pair_154 (by decide) ?_
                  refine s_goto C (pc := 155) (tgt := 159) dL_pair_155 (by decide) ?_
                  refine s_icmp_ne C (pc := 159) (tgt := 199) dL_pair_159 (by decide) (fun c159 => ?_) (fun h => absurd h (by decide))
                  refine s_iconst C (pc := 199) (v := 0) dL_pair_199 (by decide) ?_
                  exact s_zretX C (pc := 200) hr hlk ((u109_51.1, u109_51.2.1, u109_51.2.2.1, u109_51.2.2.2.1, u109_51.2.2.2.2)) trivial [0, 1, 2, 3, 4, 5] (by decide) (rfl) rfl (rfl) dL_pair_200
                · skip
                  refine s_iconst C (pc := 142) (v := 1) dL_pair_142 (by decide) ?_
                  refine s_goto C (pc := 143) (tgt := 147) dL_pair_143 (by decide) ?_
                  refine s_iload C (pc := 147) dL_pair_147 2 rfl ?_
                  refine s_bipush C (pc := 149) (v := (-4)) dL_pair_149 (by decide) ?_
                  refine s_icmp_ne C (pc := 151) (tgt := 158) dL_pair_151 (by decide) (fun h => absurd (by decide) h) (fun c151 => ?_)
                  refine s_iconst C (pc := 154) (v := 1) dL_pair_154 (by decide) ?_
                  refine s_goto C (pc := 155) (tgt := 159) dL_pair_155 (by decide) ?_
                  refine s_icmp_ne C (pc := 159) (tgt := 199) dL_pair_159 (by decide) (fun h => absurd (by decide) h) (fun c159 => ?_)
                  refine s_lload C (pc := 162) dL_pair_162 4 rfl ?_
                  refine s_lconst C (pc := 164) (v := 0) dL_pair_164 (by decide) ?_
                  refine s_lcmp_ne C (pc := 165) (tgt := 192) dL_pair_165 dL_pair_166 (by decide) (fun c165 => ?_) (fun c165 => ?_)
                  · skip
                    refine s_iload C (pc := 192) dL_pair_192 1 rfl ?_
                    refine s_iconst C (pc := 194) (v := 4) dL_pair_194 (by decide) ?_
                    refine s_irem C (pc := 195) dL_pair_195 (by decide) ?_
                    refine s_top C (y := 0) ((pr_mod4 _ (pr_spb hsp e67 hq))) ?_
                    refine s_if_eq C (pc := 196) (tgt := 201) dL_pair_196 (by decide) (fun c196 => ?_) (fun h => absurd (by decide) h)
                    refine s_lload C (pc := 201) dL_pair_201 10 rfl ?_
                    refine s_lload C (pc := 203) dL_pair_203 10 rfl ?_
                    refine s_lmul C (pc := 205) dL_pair_205 ?_
                    refine s_topl C (y := lN (aP P Q i j * aP P Q i j)) (lN_mul _ _) ?_
                    refine s_lload C (pc := 206) dL_pair_206 3 rfl ?_
                    refine s_lrem C (pc := 208) dL_pair_208 (lN_ne (by omega) (by omega)) ?_
                    refine s_topl C (y := 0) ((pr_rem0 hA hN0)) ?_
                    refine s_lconst C (pc := 209) (v := 0) dL_pair_209 (by decide) ?_
                    refine s_lcmp_ne C (pc := 210) (tgt := 228) dL_pair_210 dL_pair_211 (by decide) (fun h => absurd (by decide) h) (fun c210 => ?_)
                    refine s_lload C (pc := 214) dL_pair_214 4 rfl ?_
                    refine s_lload C (pc := 216) dL_pair_216 10 rfl ?_
                    refine s_lload C (pc := 218) dL_pair_218 10 rfl ?_
                    refine s_lmul C (pc := 220) dL_pair_220 ?_
                    refine s_topl C (y := lN (aP P Q i j * aP P Q i j)) (lN_mul _ _) ?_
                    refine s_lload C (pc := 221) dL_pair_221 3 rfl ?_
                    refine s_ldiv C (pc := 223) dL_pair_223 (lN_ne (by omega) (by omega)) ?_
                    refine s_lmul C (pc := 224) dL_pair_224 ?_
                    refine s_topl C (y := lN (nr r * aP P Q i j)) (pr_its hA hN0) ?_
                    refine s_goto C (pc := 225) (tgt := 231) dL_pair_225 (by decide) ?_
                    refine s_lstore C (pc := 231) (ls' := [(19, .long (lN (nr r * aP P Q i j))), (4, .int (nI (a + (4 * (sp (r + 1) - sp r))))), (18, .int (nI (4 * (sp (r + 1) - sp r)))), (17, .int (-4)), (15, .long (lN (dnN (nr r) (aP P Q i j)))), (13, .long (lN (upN (nr r) (aP P Q i j)))), (0, .ref b), (1, .int (nI i)), (2, .int (nI j)), (3, .int (nI w)), (5, .int (nI R)), (6, .long (lN (aP P Q i j))), (8, .long la), (10, .int (nI st)), (11, .int (nI (4 * qtN w))), (12, .int (nI r))]) dL_pair_231 (by decide) rfl ?_
                    refine s_lload C (pc := 233) dL_pair_233 0 rfl ?_
                    refine s_lload C (pc := 235) dL_pair_235 12 rfl ?_
                    refine s_lcmp_le C (pc := 237) (tgt := 272) dL_pair_237 dL_pair_238 (by decide) (fun c237 => ?_) (fun c237 => ?_)
                    · skip
                      refine s_iconst C (pc := 272) (v := 0) dL_pair_272 (by decide) ?_
                      exact s_zretX C (pc := 273) hr hlk ((u109_51.1, u109_51.2.1, u109_51.2.2.1, u109_51.2.2.2.1, u109_51.2.2.2.2)) trivial [0, 1, 2, 3, 4, 5] (by decide) (rfl) rfl (rfl) dL_pair_273
                    · skip
                      refine s_iload C (pc := 241) dL_pair_241 15 rfl ?_
                      refine s_iconst C (pc := 243) (v := 1) dL_pair_243 (by decide) ?_
                      refine s_iadd C (pc := 244) dL_pair_244 ?_
                      refine s_top C (y := nI (r + 1)) (nI_add _ _) ?_
                      refine s_iload C (pc := 245) dL_pair_245 10 rfl ?_
                      refine s_icmp_ge C (pc := 247) (tgt := 274) dL_pair_247 (by decide) (fun c247 => ?_) (fun c247 => ?_)
                      · skip
                        have e247 := nat_le (a := R) (b := (r + 1)) (by omega) (by omega) c247
                        refine s_lload C (pc := 274) dL_pair_274 0 rfl ?_
                        refine s_lstore C (pc := 276) (ls' := [(8, .long (lN (nr r * aP P Q i j))), (19, .long (lN (nr r * aP P Q i j))), (4, .int (nI (a + (4 * (sp (r + 1) - sp r))))), (18, .int (nI (4 * (sp (r + 1) - sp r)))), (17, .int (-4)), (15, .long (lN (dnN (nr r) (aP P Q i j)))), (13, .long (lN (upN (nr r) (aP P Q i j)))), (0, .ref b), (1, .int (nI i)), (2, .int (nI j)), (3, .int (nI w)), (5, .int (nI R)), (6, .long (lN (aP P Q i j))), (10, .int (nI st)), (11, .int (nI (4 * qtN w))), (12, .int (nI r))]) dL_pair_276 (by decide) rfl ?_
                        refine s_iload C (pc := 278) dL_pair_278 15 rfl ?_
                        refine s_iload C (pc := 280) dL_pair_280 13 rfl ?_
                        refine s_iadd C (pc := 282) dL_pair_282 ?_
                        refine s_top C (y := nI (r + st)) (nI_add _ _) ?_
                        refine s_istore C (pc := 283) (ls' := [(12, .int (nI (r + st))), (8, .long (lN (nr r * aP P Q i j))), (19, .long (lN (nr r * aP P Q i j))), (4, .int (nI (a + (4 * (sp (r + 1) - sp r))))), (18, .int (nI (4 * (sp (r + 1) - sp r)))), (17, .int (-4)), (15, .long (lN (dnN (nr r) (aP P Q i j)))), (13, .long (lN (upN (nr r) (aP P Q i j)))), (0, .ref b), (1, .int (nI i)), (2, .int (nI j)), (3, .int (nI w)), (5, .int (nI R)), (6, .long (lN (aP P Q i j))), (10, .int (nI st)), (11, .int (nI (4 * qtN w)))]) dL_pair_283 (by decide) rfl ?_
                        refine s_goto C (pc := 285) (tgt := 67) dL_pair_285 (by decide) ?_
                        refine s_loc C (ls' := [(0, .ref b), (1, .int (nI i)), (2, .int (nI j)), (3, .int (nI w)), (4, .int (nI (a + (4 * (sp (r + 1) - sp r))))), (5, .int (nI R)), (6, .long (lN (aP P Q i j))), (8, .long (lN (nr r * aP P Q i j))), (10, .int (nI st)), (11, .int (nI (4 * qtN w))), (12, .int (nI (r + st)))]) [8, 9, 10, 11, 3, 12, 13, 1, 14, 15, 0] rfl ?_
                        exact ih67 (r + st) (a + 4 * (sp (r + 1) - sp r)) (lN (nr r * aP P Q i j)) (u109_51.1, u109_51.2.1, u109_51.2.2.1, u109_51.2.2.2.1, u109_51.2.2.2.2) (by omega) (by omega) (pr_sum ha hsp e67) (Or.inr ⟨r, by omega, e67, rfl⟩) (by omega)
                      · skip
                        have e247 := nat_nle (a := R) (b := (r + 1)) (by omega) (by omega) c247
                        refine s_iload C (pc := 250) dL_pair_250 3 rfl ?_
                        refine s_bipush C (pc := 252) (v := (-4)) dL_pair_252 (by decide) ?_
                        refine s_icmp_eq C (pc := 254) (tgt := 274) dL_pair_254 (by decide) (fun c254 => ?_) (fun h => absurd (by decide) h)
                        refine s_lload C (pc := 274) dL_pair_274 0 rfl ?_
                        refine s_lstore C (pc := 276) (ls' := [(8, .long (lN (nr r * aP P Q i j))), (19, .long (lN (nr r * aP P Q i j))), (4, .int (nI (a + (4 * (sp (r + 1) - sp r))))), (18, .int (nI (4 * (sp (r + 1) - sp r)))), (17, .int (-4)), (15, .long (lN (dnN (nr r) (aP P Q i j)))), (13, .long (lN (upN (nr r) (aP P Q i j)))), (0, .ref b), (1, .int (nI i)), (2, .int (nI j)), (3, .int (nI w)), (5, .int (nI R)), (6, .long (lN (aP P Q i j))), (10, .int (nI st)), (11, .int (nI (4 * qtN w))), (12, .int (nI r))]) dL_pair_276 (by decide) rfl ?_
                        refine s_iload C (pc := 278) dL_pair_278 15 rfl ?_
                        refine s_iload C (pc := 280) dL_pair_280 13 rfl ?_
                        refine s_iadd C (pc := 282) dL_pair_282 ?_
                        refine s_top C (y := nI (r + st)) (nI_add _ _) ?_
                        refine s_istore C (pc := 283) (ls' := [(12, .int (nI (r + st))), (8, .long (lN (nr r * aP P Q i j))), (19, .long (lN (nr r * aP P Q i j))), (4, .int (nI (a + (4 * (sp (r + 1) - sp r))))), (18, .int (nI (4 * (sp (r + 1) - sp r)))), (17, .int (-4)), (15, .long (lN (dnN (nr r) (aP P Q i j)))), (13, .long (lN (upN (nr r) (aP P Q i j)))), (0, .ref b), (1, .int (nI i)), (2, .int (nI j)), (3, .int (nI w)), (5, .int (nI R)), (6, .long (lN (aP P Q i j))), (10, .int (nI st)), (11, .int (nI (4 * qtN w)))]) dL_pair_283 (by decide) rfl ?_
                        refine s_goto C (pc := 285) (tgt := 67) dL_pair_285 (by decide) ?_
                        refine s_loc C (ls' := [(0, .ref b), (1, .int (nI i)), (2, .int (nI j)), (3, .int (nI w)), (4, .int (nI (a + (4 * (sp (r + 1) - sp r))))), (5, .int (nI R)), (6, .long (lN (aP P Q i j))), (8, .long (lN (nr r * aP P Q i j))), (10, .int (nI st)), (11, .int (nI (4 * qtN w))), (12, .int (nI (r + st)))]) [8, 9, 10, 11, 3, 12, 13, 1, 14, 15, 0] rfl ?_
                        exact ih67 (r + st) (a + 4 * (sp (r + 1) - sp r)) (lN (nr r * aP P Q i j)) (u109_51.1, u109_51.2.1, u109_51.2.2.1, u109_51.2.2.2.1, u109_51.2.2.2.2) (by omega) (by omega) (pr_sum ha hsp e67) (Or.inr ⟨r, by omega, e67, rfl⟩) (by omega)
                  · skip
                    have hr0 : r = 0 := pr_r0 hinc e67 h0
                    refine s_iload C (pc := 169) dL_pair_169 14 rfl ?_
                    refine s_if_gt C (pc := 171) (tgt := 199) dL_pair_171 (by decide) (fun h => absurd h (fun h2 => absurd (nat_lt (a := 0) (b := r) (by omega) (by omega) h2) (by omega))) (fun c171 => ?_)
                    refine s_lload C (pc := 174) dL_pair_174 3 rfl ?_
                    refine s_lconst C (pc := 176) (v := 1) dL_pair_176 (by decide) ?_
                    refine s_lcmp_ne C (pc := 177) (tgt := 199) dL_pair_177 dL_pair_178 (by decide) (fun c177 => ?_) (fun c177 => ?_)
                    · skip
                      refine s_iconst C (pc := 199) (v := 0) dL_pair_199 (by decide) ?_
                      exact s_zretX C (pc := 200) hr hlk ((u109_51.1, u109_51.2.1, u109_51.2.2.1, u109_51.2.2.2.1, u109_51.2.2.2.2)) trivial [0, 1, 2, 3, 4, 5] (by decide) (rfl) rfl (rfl) dL_pair_200
                    · skip
                      refine s_aload_n C (pc := 181) dL_pair_181 rfl 5 rfl ?_
                      refine s_iload_n C (pc := 182) dL_pair_182 rfl 6 rfl ?_
                      refine s_iload_n C (pc := 183) dL_pair_183 rfl 7 rfl ?_
                      refine s_calliX C (pc := 184) (wr := []) (wc' := (fun u184_52 : GD => [(b, .inr (2, [.ref h, .ref tr, .ref hi, .ref sl, .ref sf, .ref hg, .int hc])), (h, .inr (1, [.ref hp, .ref hq, .int (nI n), .int (nI w), .int f, .int ll])), (hp, .inl (X.2.1, 4, .inl (P))), (hq, .inl (X.2.1, 4, .inl (Q))), (hg, .inr (0, [.ref hgn, .int (nI u184_52.1), .long u184_52.2.2.1, .long u184_52.2.2.2.1, .long u184_52.2.2.2.2])), (hgn, .inl (X.2.1, 144, .inl (u184_52.2.1)))])) (wn := (fun u184_52 : GD => [(b, .inr (2, [.ref h, .ref tr, .ref hi, .ref sl, .ref sf, .ref hg, .int hc])), (h, .inr (1, [.ref hp, .ref hq, .int (nI n), .int (nI w), .int f, .int ll])), (hp, .inl (X.2.1, 4, .inl (P))), (hq, .inl (X.2.1, 4, .inl (Q))), (hg, .inr (0, [.ref hgn, .int (nI u184_52.1), .long u184_52.2.2.1, .long u184_52.2.2.2.1, .long u184_52.2.2.2.2])), (hgn, .inl (X.2.1, 144, .inl (u184_52.2.1)))])) (r_V C (As := [.int (nI i), .int (nI j)]) (rest := []) (kP_lck l X b tr hi sl sf hc h hp hq n P Q w f ll hg hgn u109_51.1 u109_51.2.1 u109_51.2.2.1 u109_51.2.2.2.1 u109_51.2.2.2.2 i j R nr sp (by first | assumption | omega | decide) (by first | assumption | omega | decide) (by first | assumption | omega | decide) (by first | assumption | omega | decide) (by first | assumption | omega | decide) (by first | assumption | omega | decide)) (cwV 2 C.ts gL_pair_X2_locked rfl rfl rfl (by decide +kernel) ⟨Nat.le_of_ble_eq_true rfl, Nat.le_of_ble_eq_true rfl⟩) (q0 := 0) rfl rfl [0, 1, 2, 3, 4, 5] (by decide) rfl rfl (Nat.le_of_ble_eq_true rfl) rfl dL_pair_184 ⟨Nat.zero_le _, Nat.zero_le _⟩) [0, 1, 2, 3, 4, 5] [] [0, 1, 2, 3, 4, 5] rfl rfl (by decide) (by decide) (by decide) (fun _ => rfl) (fun u184_52 _ => ?_)
                      refine s_iload C (pc := 187) dL_pair_187 1 rfl ?_
                      refine s_icmp_ne C (pc := 189) (tgt := 199) dL_pair_189 (by decide) (fun h => absurd (pr_lk0 hr0 h0 hsp0) h) (fun c189 => ?_)
                      refine s_iload C (pc := 192) dL_pair_192 1 rfl ?_
                      refine s_iconst C (pc := 194) (v := 4) dL_pair_194 (by decide) ?_
                      refine s_irem C (pc := 195) dL_pair_195 (by decide) ?_
                      refine s_top C (y := 0) ((pr_mod4 _ (pr_spb hsp e67 hq))) ?_
                      refine s_if_eq C (pc := 196) (tgt := 201) dL_pair_196 (by decide) (fun c196 => ?_) (fun h => absurd (by decide) h)
                      refine s_lload C (pc := 201) dL_pair_201 10 rfl ?_
                      refine s_lload C (pc := 203) dL_pair_203 10 rfl ?_
                      refine s_lmul C (pc := 205) dL_pair_205 ?_
                      refine s_topl C (y := lN (aP P Q i j * aP P Q i j)) (lN_mul _ _) ?_
                      refine s_lload C (pc := 206) dL_pair_206 3 rfl ?_
                      refine s_lrem C (pc := 208) dL_pair_208 (lN_ne (by omega) (by omega)) ?_
                      refine s_topl C (y := 0) ((pr_rem0 hA hN0)) ?_
                      refine s_lconst C (pc := 209) (v := 0) dL_pair_209 (by decide) ?_
                      refine s_lcmp_ne C (pc := 210) (tgt := 228) dL_pair_210 dL_pair_211 (by decide) (fun h => absurd (by decide) h) (fun c210 => ?_)
                      refine s_lload C (pc := 214) dL_pair_214 4 rfl ?_
                      refine s_lload C (pc := 216) dL_pair_216 10 rfl ?_
                      refine s_lload C (pc := 218) dL_pair_218 10 rfl ?_
                      refine s_lmul C (pc := 220) dL_pair_220 ?_
                      refine s_topl C (y := lN (aP P Q i j * aP P Q i j)) (lN_mul _ _) ?_
                      refine s_lload C (pc := 221) dL_pair_221 3 rfl ?_
                      refine s_ldiv C (pc := 223) dL_pair_223 (lN_ne (by omega) (by omega)) ?_
                      refine s_lmul C (pc := 224) dL_pair_224 ?_
                      refine s_topl C (y := lN (nr r * aP P Q i j)) (pr_its hA hN0) ?_
                      refine s_goto C (pc := 225) (tgt := 231) dL_pair_225 (by decide) ?_
                      refine s_lstore C (pc := 231) (ls' := [(19, .long (lN (nr r * aP P Q i j))), (4, .int (nI (a + (4 * (sp (r + 1) - sp r))))), (18, .int (nI (4 * (sp (r + 1) - sp r)))), (17, .int (-4)), (15, .long (lN (dnN (nr r) (aP P Q i j)))), (13, .long (lN (upN (nr r) (aP P Q i j)))), (0, .ref b), (1, .int (nI i)), (2, .int (nI j)), (3, .int (nI w)), (5, .int (nI R)), (6, .long (lN (aP P Q i j))), (8, .long la), (10, .int (nI st)), (11, .int (nI (4 * qtN w))), (12, .int (nI r))]) dL_pair_231 (by decide) rfl ?_
                      refine s_lload C (pc := 233) dL_pair_233 0 rfl ?_
                      refine s_lload C (pc := 235) dL_pair_235 12 rfl ?_
                      refine s_lcmp_le C (pc := 237) (tgt := 272) dL_pair_237 dL_pair_238 (by decide) (fun c237 => ?_) (fun c237 => ?_)
                      · skip
                        refine s_iconst C (pc := 272) (v := 0) dL_pair_272 (by decide) ?_
                        exact s_zretX C (pc := 273) hr hlk ((u184_52.1, u184_52.2.1, u184_52.2.2.1, u184_52.2.2.2.1, u184_52.2.2.2.2)) trivial [0, 1, 2, 3, 4, 5] (by decide) (rfl) rfl (rfl) dL_pair_273
                      · skip
                        refine s_iload C (pc := 241) dL_pair_241 15 rfl ?_
                        refine s_iconst C (pc := 243) (v := 1) dL_pair_243 (by decide) ?_
                        refine s_iadd C (pc := 244) dL_pair_244 ?_
                        refine s_top C (y := nI (r + 1)) (nI_add _ _) ?_
                        refine s_iload C (pc := 245) dL_pair_245 10 rfl ?_
                        refine s_icmp_ge C (pc := 247) (tgt := 274) dL_pair_247 (by decide) (fun c247 => ?_) (fun c247 => ?_)
                        · skip
                          have e247 := nat_le (a := R) (b := (r + 1)) (by omega) (by omega) c247
                          refine s_lload C (pc := 274) dL_pair_274 0 rfl ?_
                          refine s_lstore C (pc := 276) (ls' := [(8, .long (lN (nr r * aP P Q i j))), (19, .long (lN (nr r * aP P Q i j))), (4, .int (nI (a + (4 * (sp (r + 1) - sp r))))), (18, .int (nI (4 * (sp (r + 1) - sp r)))), (17, .int (-4)), (15, .long (lN (dnN (nr r) (aP P Q i j)))), (13, .long (lN (upN (nr r) (aP P Q i j)))), (0, .ref b), (1, .int (nI i)), (2, .int (nI j)), (3, .int (nI w)), (5, .int (nI R)), (6, .long (lN (aP P Q i j))), (10, .int (nI st)), (11, .int (nI (4 * qtN w))), (12, .int (nI r))]) dL_pair_276 (by decide) rfl ?_
                          refine s_iload C (pc := 278) dL_pair_278 15 rfl ?_
                          refine s_iload C (pc := 280) dL_pair_280 13 rfl ?_
                          refine s_iadd C (pc := 282) dL_pair_282 ?_
                          refine s_top C (y := nI (r + st)) (nI_add _ _) ?_
                          refine s_istore C (pc := 283) (ls' := [(12, .int (nI (r + st))), (8, .long (lN (nr r * aP P Q i j))), (19, .long (lN (nr r * aP P Q i j))), (4, .int (nI (a + (4 * (sp (r + 1) - sp r))))), (18, .int (nI (4 * (sp (r + 1) - sp r)))), (17, .int (-4)), (15, .long (lN (dnN (nr r) (aP P Q i j)))), (13, .long (lN (upN (nr r) (aP P Q i j)))), (0, .ref b), (1, .int (nI i)), (2, .int (nI j)), (3, .int (nI w)), (5, .int (nI R)), (6, .long (lN (aP P Q i j))), (10, .int (nI st)), (11, .int (nI (4 * qtN w)))]) dL_pair_283 (by decide) rfl ?_
                          refine s_goto C (pc := 285) (tgt := 67) dL_pair_285 (by decide) ?_
                          refine s_loc C (ls' := [(0, .ref b), (1, .int (nI i)), (2, .int (nI j)), (3, .int (nI w)), (4, .int (nI (a + (4 * (sp (r + 1) - sp r))))), (5, .int (nI R)), (6, .long (lN (aP P Q i j))), (8, .long (lN (nr r * aP P Q i j))), (10, .int (nI st)), (11, .int (nI (4 * qtN w))), (12, .int (nI (r + st)))]) [8, 9, 10, 11, 3, 12, 13, 1, 14, 15, 0] rfl ?_
                          exact ih67 (r + st) (a + 4 * (sp (r + 1) - sp r)) (lN (nr r * aP P Q i j)) (u184_52.1, u184_52.2.1, u184_52.2.2.1, u184_52.2.2.2.1, u184_52.2.2.2.2) (by omega) (by omega) (pr_sum ha hsp e67) (Or.inr ⟨r, by omega, e67, rfl⟩) (by omega)
                        · skip
                          have e247 := nat_nle (a := R) (b := (r + 1)) (by omega) (by omega) c247
                          refine s_iload C (pc := 250) dL_pair_250 3 rfl ?_
                          refine s_bipush C (pc := 252) (v := (-4)) dL_pair_252 (by decide) ?_
                          refine s_icmp_eq C (pc := 254) (tgt := 274) dL_pair_254 (by decide) (fun c254 => ?_) (fun h => absurd (by decide) h)
                          refine s_lload C (pc := 274) dL_pair_274 0 rfl ?_
                          refine s_lstore C (pc := 276) (ls' := [(8, .long (lN (nr r * aP P Q i j))), (19, .long (lN (nr r * aP P Q i j))), (4, .int (nI (a + (4 * (sp (r + 1) - sp r))))), (18, .int (nI (4 * (sp (r + 1) - sp r)))), (17, .int (-4)), (15, .long (lN (dnN (nr r) (aP P Q i j)))), (13, .long (lN (upN (nr r) (aP P Q i j)))), (0, .ref b), (1, .int (nI i)), (2, .int (nI j)), (3, .int (nI w)), (5, .int (nI R)), (6, .long (lN (aP P Q i j))), (10, .int (nI st)), (11, .int (nI (4 * qtN w))), (12, .int (nI r))]) dL_pair_276 (by decide) rfl ?_
                          refine s_iload C (pc := 278) dL_pair_278 15 rfl ?_
                          refine s_iload C (pc := 280) dL_pair_280 13 rfl ?_
                          refine s_iadd C (pc := 282) dL_pair_282 ?_
                          refine s_top C (y := nI (r + st)) (nI_add _ _) ?_
                          refine s_istore C (pc := 283) (ls' := [(12, .int (nI (r + st))), (8, .long (lN (nr r * aP P Q i j))), (19, .long (lN (nr r * aP P Q i j))), (4, .int (nI (a + (4 * (sp (r + 1) - sp r))))), (18, .int (nI (4 * (sp (r + 1) - sp r)))), (17, .int (-4)), (15, .long (lN (dnN (nr r) (aP P Q i j)))), (13, .long (lN (upN (nr r) (aP P Q i j)))), (0, .ref b), (1, .int (nI i)), (2, .int (nI j)), (3, .int (nI w)), (5, .int (nI R)), (6, .long (lN (aP P Q i j))), (10, .int (nI st)), (11, .int (nI (4 * qtN w)))]) dL_pair_283 (by decide) rfl ?_
                          refine s_goto C (pc := 285) (tgt := 67) dL_pair_285 (by decide) ?_
                          refine s_loc C (ls' := [(0, .ref b), (1, .int (nI i)), (2, .int (nI j)), (3, .int (nI w)), (4, .int (nI (a + (4 * (sp (r + 1) - sp r))))), (5, .int (nI R)), (6, .long (lN (aP P Q i j))), (8, .long (lN (nr r * aP P Q i j))), (10, .int (nI st)), (11, .int (nI (4 * qtN w))), (12, .int (nI (r + st)))]) [8, 9, 10, 11, 3, 12, 13, 1, 14, 15, 0] rfl ?_
                          exact ih67 (r + st) (a + 4 * (sp (r + 1) - sp r)) (lN (nr r * aP P Q i j)) (u184_52.1, u184_52.2.1, u184_52.2.2.1, u184_52.2.2.2.1, u184_52.2.2.2.2) (by omega) (by omega) (pr_sum ha hsp e67) (Or.inr ⟨r, by omega, e67, rfl⟩) (by omega)
          · skip
            refine s_aload_n C (pc := 74) dL_pair_74 rfl 0 rfl ?_
            refine s_iload_n C (pc := 75) dL_pair_75 rfl 1 rfl ?_
            refine s_iload_n C (pc := 76) dL_pair_76 rfl 2 rfl ?_
            refine s_iload C (pc := 77) dL_pair_77 10 rfl ?_
            refine s_calllX C (pc := 79) (wr := []) (wc' := (fun u79_53 : GD => [(b, .inr (2, [.ref h, .ref tr, .ref hi, .ref sl, .ref sf, .ref hg, .int hc])), (h, .inr (1, [.ref hp, .ref hq, .int (nI n), .int (nI w), .int f, .int ll])), (hp, .inl (X.2.1, 4, .inl (P))), (hq, .inl (X.2.1, 4, .inl (Q))), (hg, .inr (0, [.ref hgn, .int (nI u79_53.1), .long u79_53.2.2.1, .long u79_53.2.2.2.1, .long u79_53.2.2.2.2])), (hgn, .inl (X.2.1, 144, .inl (u79_53.2.1)))])) (wn := (fun u79_53 : GD => [(b, .inr (2, [.ref h, .ref tr, .ref hi, .ref sl, .ref sf, .ref hg, .int hc])), (h, .inr (1, [.ref hp, .ref hq, .int (nI n), .int (nI w), .int f, .int ll])), (hp, .inl (X.2.1, 4, .inl (P))), (hq, .inl (X.2.1, 4, .inl (Q))), (hg, .inr (0, [.ref hgn, .int (nI u79_53.1), .long u79_53.2.2.1, .long u79_53.2.2.2.1, .long u79_53.2.2.2.2])), (hgn, .inl (X.2.1, 144, .inl (u79_53.2.1)))])) (r_V C (As := [.int (nI i), .int (nI j), .int (nI r)]) (rest := []) (kP_num l X b tr hi sl sf hc h hp hq n P Q w f ll hg hgn u2.1 u2.2.1 u2.2.2.1 u2.2.2.2.1 u2.2.2.2.2 i j R nr sp r (by first | assumption | omega | decide) (by first | assumption | omega | decide) (by first | assumption | omega | decide) (by first | assumption | omega | decide) (by first | assumption | omega | decide) (by first | assumption | omega | decide) (by first | assumption | omega | decide)) (cwV 3 C.ts gL_pair_X2_beatNumerator rfl rfl rfl (by decide +kernel) ⟨Nat.le_of_ble_eq_true rfl, Nat.le_of_ble_eq_true rfl⟩) (q0 := 0) rfl rfl [0, 1, 2, 3, 4, 5] (by decide) rfl rfl (Nat.le_of_ble_eq_true rfl) rfl dL_pair_79 ⟨Nat.zero_le _, Nat.zero_le _⟩) [0, 1, 2, 3, 4, 5] [] [0, 1, 2, 3, 4, 5] rfl rfl (by decide) (by decide) (by decide) (fun _ => rfl) (fun u79_53 _ => ?_)
            refine s_lstore C (pc := 82) (ls' := [(13, .long (lN (upN (nr r) (aP P Q i j)))), (0, .ref b), (1, .int (nI i)), (2, .int (nI j)), (3, .int (nI w)), (4, .int (nI a)), (5, .int (nI R)), (6, .long (lN (aP P Q i j))), (8, .long la), (10, .int (nI st)), (11, .int (nI (4 * qtN w))), (12, .int (nI r))]) dL_pair_82 (by decide) rfl ?_
            refine s_aload_n C (pc := 84) dL_pair_84 rfl 1 rfl ?_
            refine s_iload_n C (pc := 85) dL_pair_85 rfl 2 rfl ?_
            refine s_iload_n C (pc := 86) dL_pair_86 rfl 3 rfl ?_
            refine s_iload C (pc := 87) dL_pair_87 11 rfl ?_
            refine s_calllX C (pc := 89) (wr := []) (wc' := (fun u89_54 : GD => [(b, .inr (2, [.ref h, .ref tr, .ref hi, .ref sl, .ref sf, .ref hg, .int hc])), (h, .inr (1, [.ref hp, .ref hq, .int (nI n), .int (nI w), .int f, .int ll])), (hp, .inl (X.2.1, 4, .inl (P))), (hq, .inl (X.2.1, 4, .inl (Q))), (hg, .inr (0, [.ref hgn, .int (nI u89_54.1), .long u89_54.2.2.1, .long u89_54.2.2.2.1, .long u89_54.2.2.2.2])), (hgn, .inl (X.2.1, 144, .inl (u89_54.2.1)))])) (wn := (fun u89_54 : GD => [(b, .inr (2, [.ref h, .ref tr, .ref hi, .ref sl, .ref sf, .ref hg, .int hc])), (h, .inr (1, [.ref hp, .ref hq, .int (nI n), .int (nI w), .int f, .int ll])), (hp, .inl (X.2.1, 4, .inl (P))), (hq, .inl (X.2.1, 4, .inl (Q))), (hg, .inr (0, [.ref hgn, .int (nI u89_54.1), .long u89_54.2.2.1, .long u89_54.2.2.2.1, .long u89_54.2.2.2.2])), (hgn, .inl (X.2.1, 144, .inl (u89_54.2.1)))])) (r_V C (As := [.int (nI i), .int (nI j), .int (nI r)]) (rest := []) (kP_den l X b tr hi sl sf hc h hp hq n P Q w f ll hg hgn u79_53.1 u79_53.2.1 u79_53.2.2.1 u79_53.2.2.2.1 u79_53.2.2.2.2 i j R nr sp r (by first | assumption | omega | decide) (by first | assumption | omega | decide) (by first | assumption | omega | decide) (by first | assumption | omega | decide) (by first | assumption | omega | decide) (by first | assumption | omega | decide) (by first | assumption | omega | decide)) (cwV 3 C.ts gL_pair_X2_beatDenominator rfl rfl rfl (by decide +kernel) ⟨Nat.le_of_ble_eq_true rfl, Nat.le_of_ble_eq_true rfl⟩) (q0 := 0) rfl rfl [0, 1, 2, 3, 4, 5] (by decide) rfl rfl (Nat.le_of_ble_eq_true rfl) rfl dL_pair_89 ⟨Nat.zero_le _, Nat.zero_le _⟩) [0, 1, 2, 3, 4, 5] [] [0, 1, 2, 3, 4, 5] rfl rfl (by decide) (by decide) (by decide) (fun _ => rfl) (fun u89_54 _ => ?_)
            refine s_lstore C (pc := 92) (ls' := [(15, .long (lN (dnN (nr r) (aP P Q i j)))), (13, .long (lN (upN (nr r) (aP P Q i j)))), (0, .ref b), (1, .int (nI i)), (2, .int (nI j)), (3, .int (nI w)), (4, .int (nI a)), (5, .int (nI R)), (6, .long (lN (aP P Q i j))), (8, .long la), (10, .int (nI st)), (11, .int (nI (4 * qtN w))), (12, .int (nI r))]) dL_pair_92 (by decide) rfl ?_
            refine s_aload_n C (pc := 94) dL_pair_94 rfl 2 rfl ?_
            refine s_iload_n C (pc := 95) dL_pair_95 rfl 3 rfl ?_
            refine s_iload_n C (pc := 96) dL_pair_96 rfl 4 rfl ?_
            refine s_iload C (pc := 97) dL_pair_97 12 rfl ?_
            refine s_calliX C (pc := 99) (wr := []) (wc' := (fun u99_55 : GD => [(b, .inr (2, [.ref h, .ref tr, .ref hi, .ref sl, .ref sf, .ref hg, .int hc])), (h, .inr (1, [.ref hp, .ref hq, .int (nI n), .int (nI w), .int f, .int ll])), (hp, .inl (X.2.1, 4, .inl (P))), (hq, .inl (X.2.1, 4, .inl (Q))), (hg, .inr (0, [.ref hgn, .int (nI u99_55.1), .long u99_55.2.2.1, .long u99_55.2.2.2.1, .long u99_55.2.2.2.2])), (hgn, .inl (X.2.1, 144, .inl (u99_55.2.1)))])) (wn := (fun u99_55 : GD => [(b, .inr (2, [.ref h, .ref tr, .ref hi, .ref sl, .ref sf, .ref hg, .int hc])), (h, .inr (1, [.ref hp, .ref hq, .int (nI n), .int (nI w), .int f, .int ll])), (hp, .inl (X.2.1, 4, .inl (P))), (hq, .inl (X.2.1, 4, .inl (Q))), (hg, .inr (0, [.ref hgn, .int (nI u99_55.1), .long u99_55.2.2.1, .long u99_55.2.2.2.1, .long u99_55.2.2.2.2])), (hgn, .inl (X.2.1, 144, .inl (u99_55.2.1)))])) (r_V C (As := [.int (nI i), .int (nI j), .int (nI r)]) (rest := []) (kP_perN l X b tr hi sl sf hc h hp hq n P Q w f ll hg hgn u89_54.1 u89_54.2.1 u89_54.2.2.1 u89_54.2.2.2.1 u89_54.2.2.2.2 i j R nr sp r (by first | assumption | omega | decide) (by first | assumption | omega | decide) (by first | assumption | omega | decide) (by first | assumption | omega | decide) (by first | assumption | omega | decide) (by first | assumption | omega | decide) (by first | assumption | omega | decide) (by first | assumption | omega | decide)) (cwV 3 C.ts gL_pair_X2_beatPeriod rfl rfl rfl (by decide +kernel) ⟨Nat.le_of_ble_eq_true rfl, Nat.le_of_ble_eq_true rfl⟩) (q0 := 0) rfl rfl [0, 1, 2, 3, 4, 5] (by decide) rfl rfl (Nat.le_of_ble_eq_true rfl) rfl dL_pair_99 ⟨Nat.zero_le _, Nat.zero_le _⟩) [0, 1, 2, 3, 4, 5] [] [0, 1, 2, 3, 4, 5] rfl rfl (by decide) (by decide) (by decide) (fun _ => rfl) (fun u99_55 _ => ?_)
            refine s_istore C (pc := 102) (ls' := [(17, .int (nI (isq (aP P Q i j / nr r)))), (15, .long (lN (dnN (nr r) (aP P Q i j)))), (13, .long (lN (upN (nr r) (aP P Q i j)))), (0, .ref b), (1, .int (nI i)), (2, .int (nI j)), (3, .int (nI w)), (4, .int (nI a)), (5, .int (nI R)), (6, .long (lN (aP P Q i j))), (8, .long la), (10, .int (nI st)), (11, .int (nI (4 * qtN w))), (12, .int (nI r))]) dL_pair_102 (by decide) rfl ?_
            refine s_aload_n C (pc := 104) dL_pair_104 rfl 3 rfl ?_
            refine s_iload_n C (pc := 105) dL_pair_105 rfl 4 rfl ?_
            refine s_iload_n C (pc := 106) dL_pair_106 rfl 5 rfl ?_
            refine s_iload C (pc := 107) dL_pair_107 13 rfl ?_
            refine s_calliX C (pc := 109) (wr := []) (wc' := (fun u109_56 : GD => [(b, .inr (2, [.ref h, .ref tr, .ref hi, .ref sl, .ref sf, .ref hg, .int hc])), (h, .inr (1, [.ref hp, .ref hq, .int (nI n), .int (nI w), .int f, .int ll])), (hp, .inl (X.2.1, 4, .inl (P))), (hq, .inl (X.2.1, 4, .inl (Q))), (hg, .inr (0, [.ref hgn, .int (nI u109_56.1), .long u109_56.2.2.1, .long u109_56.2.2.2.1, .long u109_56.2.2.2.2])), (hgn, .inl (X.2.1, 144, .inl (u109_56.2.1)))])) (wn := (fun u109_56 : GD => [(b, .inr (2, [.ref h, .ref tr, .ref hi, .ref sl, .ref sf, .ref hg, .int hc])), (h, .inr (1, [.ref hp, .ref hq, .int (nI n), .int (nI w), .int f, .int ll])), (hp, .inl (X.2.1, 4, .inl (P))), (hq, .inl (X.2.1, 4, .inl (Q))), (hg, .inr (0, [.ref hgn, .int (nI u109_56.1), .long u109_56.2.2.1, .long u109_56.2.2.2.1, .long u109_56.2.2.2.2])), (hgn, .inl (X.2.1, 144, .inl (u109_56.2.1)))])) (r_V C (As := [.int (nI i), .int (nI j), .int (nI r)]) (rest := []) (kP_frq l X b tr hi sl sf hc h hp hq n P Q w f ll hg hgn u99_55.1 u99_55.2.1 u99_55.2.2.1 u99_55.2.2.2.1 u99_55.2.2.2.2 i j R nr sp r (by first | assumption | omega | decide) (by first | assumption | omega | decide) (by first | assumption | omega | decide) (by first | assumption | omega | decide) (by first | assumption | omega | decide) (by first | assumption | omega | decide) (by first | assumption | omega | decide)) (cwV 3 C.ts gL_pair_X2_beatFrequency rfl rfl rfl (by decide +kernel) ⟨Nat.le_of_ble_eq_true rfl, Nat.le_of_ble_eq_true rfl⟩) (q0 := 0) rfl rfl [0, 1, 2, 3, 4, 5] (by decide) rfl rfl (Nat.le_of_ble_eq_true rfl) rfl dL_pair_109 ⟨Nat.zero_le _, Nat.zero_le _⟩) [0, 1, 2, 3, 4, 5] [] [0, 1, 2, 3, 4, 5] rfl rfl (by decide) (by decide) (by decide) (fun _ => rfl) (fun u109_56 _ => ?_)
            refine s_istore C (pc := 112) (ls' := [(18, .int (nI (4 * (sp (r + 1) - sp r)))), (17, .int (nI (isq (aP P Q i j / nr r)))), (15, .long (lN (dnN (nr r) (aP P Q i j)))), (13, .long (lN (upN (nr r) (aP P Q i j)))), (0, .ref b), (1, .int (nI i)), (2, .int (nI j)), (3, .int (nI w)), (4, .int (nI a)), (5, .int (nI R)), (6, .long (lN (aP P Q i j))), (8, .long la), (10, .int (nI st)), (11, .int (nI (4 * qtN w))), (12, .int (nI r))]) dL_pair_112 (by decide) rfl ?_
            refine s_iload C (pc := 114) dL_pair_114 8 rfl ?_
            refine s_iload C (pc := 116) dL_pair_116 0 rfl ?_
            refine s_iadd C (pc := 118) dL_pair_118 ?_
            refine s_top C (y := nI (a + (4 * (sp (r + 1) - sp r)))) (nI_add _ _) ?_
            refine s_istore C (pc := 119) (ls' := [(4, .int (nI (a + (4 * (sp (r + 1) - sp r))))), (18, .int (nI (4 * (sp (r + 1) - sp r)))), (17, .int (nI (isq (aP P Q i j / nr r)))), (15, .long (lN (dnN (nr r) (aP P Q i j)))), (13, .long (lN (upN (nr r) (aP P Q i j)))), (0, .ref b), (1, .int (nI i)), (2, .int (nI j)), (3, .int (nI w)), (5, .int (nI R)), (6, .long (lN (aP P Q i j))), (8, .long la), (10, .int (nI st)), (11, .int (nI (4 * qtN w))), (12, .int (nI r))]) dL_pair_119 (by decide) rfl ?_
            refine s_lload C (pc := 121) dL_pair_121 4 rfl ?_
            refine s_lconst C (pc := 123) (v := 0) dL_pair_123 (by decide) ?_
            refine s_lcmp_lt C (pc := 124) (tgt := 199) dL_pair_124 dL_pair_125 (by decide) (fun c124 => ?_) (fun c124 => ?_)
            · skip
              refine s_iconst C (pc := 199) (v := 0) dL_pair_199 (by decide) ?_
              exact s_zretX C (pc := 200) hr hlk ((u109_56.1, u109_56.2.1, u109_56.2.2.1, u109_56.2.2.2.1, u109_56.2.2.2.2)) trivial [0, 1, 2, 3, 4, 5] (by decide) (rfl) rfl (rfl) dL_pair_200
            · skip
              refine s_lload C (pc := 128) dL_pair_128 3 rfl ?_
              refine s_lconst C (pc := 130) (v := 1) dL_pair_130 (by decide) ?_
              refine s_lcmp_lt C (pc := 131) (tgt := 199) dL_pair_131 dL_pair_132 (by decide) (fun c131 => ?_) (fun c131 => ?_)
              · skip
                refine s_iconst C (pc := 199) (v := 0) dL_pair_199 (by decide) ?_
                exact s_zretX C (pc := 200) hr hlk ((u109_56.1, u109_56.2.1, u109_56.2.2.1, u109_56.2.2.2.1, u109_56.2.2.2.2)) trivial [0, 1, 2, 3, 4, 5] (by decide) (rfl) rfl (rfl) dL_pair_200
              · skip
                refine s_lload C (pc := 135) dL_pair_135 4 rfl ?_
                refine s_lconst C (pc := 137) (v := 0) dL_pair_137 (by decide) ?_
                refine s_lcmp_ne C (pc := 138) (tgt := 146) dL_pair_138 dL_pair_139 (by decide) (fun c138 => ?_) (fun c138 => ?_)
                · skip
                  refine s_iconst C (pc := 146) (v := 0) dL_pair_146 (by decide) ?_
                  refine s_iload C (pc := 147) dL_pair_147 2 rfl ?_
                  refine s_bipush C (pc := 149) (v := (-4)) dL_pair_149 (by decide) ?_
                  refine s_icmp_ne C (pc := 151) (tgt := 158) dL_pair_151 (by decide) (fun c151 => ?_) (fun h => absurd h (pr_nn4 (isq_bd hA.2)))
                  refine s_iconst C (pc := 158) (v := 0) dL_pair_158 (by decide) ?_
                  refine s_icmp_ne C (pc := 159) (tgt := 199) dL_pair_159 (by decide) (fun h => absurd (by decide) h) (fun c159 => ?_)
                  refine s_lload C (pc := 162) dL_pair_162 4 rfl ?_
                  refine s_lconst C (pc := 164) (v := 0) dL_pair_164 (by decide) ?_
                  refine s_lcmp_ne C (pc := 165) (tgt := 192) dL_pair_165 dL_pair_166 (by decide) (fun c165 => ?_) (fun c165 => ?_)
                  · skip
                    refine s_iload C (pc := 192) dL_pair_192 1 rfl ?_
                    refine s_iconst C (pc := 194) (v := 4) dL_pair_194 (by decide) ?_
                    refine s_irem C (pc := 195) dL_pair_195 (by decide) ?_
                    refine s_top C (y := 0) ((pr_mod4 _ (pr_spb hsp e67 hq))) ?_
                    refine s_if_eq C (pc := 196) (tgt := 201) dL_pair_196 (by decide) (fun c196 => ?_) (fun h => absurd (by decide) h)
                    refine s_lload C (pc := 201) dL_pair_201 10 rfl ?_
                    refine s_lload C (pc := 203) dL_pair_203 10 rfl ?_
                    refine s_lmul C (pc := 205) dL_pair_205 ?_
                    refine s_topl C (y := lN (aP P Q i j * aP P Q i j)) (lN_mul _ _) ?_
                    refine s_lload C (pc := 206) dL_pair_206 3 rfl ?_
                    refine s_lrem C (pc := 208) dL_pair_208 (lN_ne (by omega) (by omega)) ?_
                    refine s_topl C (y := 0) ((pr_rem0 hA hN0)) ?_
                    refine s_lconst C (pc := 209) (v := 0) dL_pair_209 (by decide) ?_
                    refine s_lcmp_ne C (pc := 210) (tgt := 228) dL_pair_210 dL_pair_211 (by decide) (fun h => absurd (by decide) h) (fun c210 => ?_)
                    refine s_lload C (pc := 214) dL_pair_214 4 rfl ?_
                    refine s_lload C (pc := 216) dL_pair_216 10 rfl ?_
                    refine s_lload C (pc := 218) dL_pair_218 10 rfl ?_
                    refine s_lmul C (pc := 220) dL_pair_220 ?_
                    refine s_topl C (y := lN (aP P Q i j * aP P Q i j)) (lN_mul _ _) ?_
                    refine s_lload C (pc := 221) dL_pair_221 3 rfl ?_
                    refine s_ldiv C (pc := 223) dL_pair_223 (lN_ne (by omega) (by omega)) ?_
                    refine s_lmul C (pc := 224) dL_pair_224 ?_
                    refine s_topl C (y := lN (nr r * aP P Q i j)) (pr_its hA hN0) ?_
                    refine s_goto C (pc := 225) (tgt := 231) dL_pair_225 (by decide) ?_
                    refine s_lstore C (pc := 231) (ls' := [(19, .long (lN (nr r * aP P Q i j))), (4, .int (nI (a + (4 * (sp (r + 1) - sp r))))), (18, .int (nI (4 * (sp (r + 1) - sp r)))), (17, .int (nI (isq (aP P Q i j / nr r)))), (15, .long (lN (dnN (nr r) (aP P Q i j)))), (13, .long (lN (upN (nr r) (aP P Q i j)))), (0, .ref b), (1, .int (nI i)), (2, .int (nI j)), (3, .int (nI w)), (5, .int (nI R)), (6, .long (lN (aP P Q i j))), (8, .long la), (10, .int (nI st)), (11, .int (nI (4 * qtN w))), (12, .int (nI r))]) dL_pair_231 (by decide) rfl ?_
                    refine s_lload C (pc := 233) dL_pair_233 0 rfl ?_
                    refine s_lload C (pc := 235) dL_pair_235 12 rfl ?_
                    refine s_lcmp_le C (pc := 237) (tgt := 272) dL_pair_237 dL_pair_238 (by decide) (fun c237 => ?_) (fun c237 => ?_)
                    · skip
                      refine s_iconst C (pc := 272) (v := 0) dL_pair_272 (by decide) ?_
                      exact s_zretX C (pc := 273) hr hlk ((u109_56.1, u109_56.2.1, u109_56.2.2.1, u109_56.2.2.2.1, u109_56.2.2.2.2)) trivial [0, 1, 2, 3, 4, 5] (by decide) (rfl) rfl (rfl) dL_pair_273
                    · skip
                      refine s_iload C (pc := 241) dL_pair_241 15 rfl ?_
                      refine s_iconst C (pc := 243) (v := 1) dL_pair_243 (by decide) ?_
                      refine s_iadd C (pc := 244) dL_pair_244 ?_
                      refine s_top C (y := nI (r + 1)) (nI_add _ _) ?_
                      refine s_iload C (pc := 245) dL_pair_245 10 rfl ?_
                      refine s_icmp_ge C (pc := 247) (tgt := 274) dL_pair_247 (by decide) (fun c247 => ?_) (fun c247 => ?_)
                      · skip
                        have e247 := nat_le (a := R) (b := (r + 1)) (by omega) (by omega) c247
                        refine s_lload C (pc := 274) dL_pair_274 0 rfl ?_
                        refine s_lstore C (pc := 276) (ls' := [(8, .long (lN (nr r * aP P Q i j))), (19, .long (lN (nr r * aP P Q i j))), (4, .int (nI (a + (4 * (sp (r + 1) - sp r))))), (18, .int (nI (4 * (sp (r + 1) - sp r)))), (17, .int (nI (isq (aP P Q i j / nr r)))), (15, .long (lN (dnN (nr r) (aP P Q i j)))), (13, .long (lN (upN (nr r) (aP P Q i j)))), (0, .ref b), (1, .int (nI i)), (2, .int (nI j)), (3, .int (nI w)), (5, .int (nI R)), (6, .long (lN (aP P Q i j))), (10, .int (nI st)), (11, .int (nI (4 * qtN w))), (12, .int (nI r))]) dL_pair_276 (by decide) rfl ?_
                        refine s_iload C (pc := 278) dL_pair_278 15 rfl ?_
                        refine s_iload C (pc := 280) dL_pair_280 13 rfl ?_
                        refine s_iadd C (pc := 282) dL_pair_282 ?_
                        refine s_top C (y := nI (r + st)) (nI_add _ _) ?_
                        refine s_istore C (pc := 283) (ls' := [(12, .int (nI (r + st))), (8, .long (lN (nr r * aP P Q i j))), (19, .long (lN (nr r * aP P Q i j))), (4, .int (nI (a + (4 * (sp (r + 1) - sp r))))), (18, .int (nI (4 * (sp (r + 1) - sp r)))), (17, .int (nI (isq (aP P Q i j / nr r)))), (15, .long (lN (dnN (nr r) (aP P Q i j)))), (13, .long (lN (upN (nr r) (aP P Q i j)))), (0, .ref b), (1, .int (nI i)), (2, .int (nI j)), (3, .int (nI w)), (5, .int (nI R)), (6, .long (lN (aP P Q i j))), (10, .int (nI st)), (11, .int (nI (4 * qtN w)))]) dL_pair_283 (by decide) rfl ?_
                        refine s_goto C (pc := 285) (tgt := 67) dL_pair_285 (by decide) ?_
                        refine s_loc C (ls' := [(0, .ref b), (1, .int (nI i)), (2, .int (nI j)), (3, .int (nI w)), (4, .int (nI (a + (4 * (sp (r + 1) - sp r))))), (5, .int (nI R)), (6, .long (lN (aP P Q i j))), (8, .long (lN (nr r * aP P Q i j))), (10, .int (nI st)), (11, .int (nI (4 * qtN w))), (12, .int (nI (r + st)))]) [8, 9, 10, 11, 3, 12, 13, 1, 14, 15, 0] rfl ?_
                        exact ih67 (r + st) (a + 4 * (sp (r + 1) - sp r)) (lN (nr r * aP P Q i j)) (u109_56.1, u109_56.2.1, u109_56.2.2.1, u109_56.2.2.2.1, u109_56.2.2.2.2) (by omega) (by omega) (pr_sum ha hsp e67) (Or.inr ⟨r, by omega, e67, rfl⟩) (by omega)
                      · skip
                        have e247 := nat_nle (a := R) (b := (r + 1)) (by omega) (by omega) c247
                        refine s_iload C (pc := 250) dL_pair_250 3 rfl ?_
                        refine s_bipush C (pc := 252) (v := (-4)) dL_pair_252 (by decide) ?_
                        refine s_icmp_eq C (pc := 254) (tgt := 274) dL_pair_254 (by decide) (fun h => absurd h (pr_nn4 (isq_bd hA.2))) (fun c254 => ?_)
                        refine s_iload C (pc := 257) dL_pair_257 3 rfl ?_
                        refine s_aload_n C (pc := 259) dL_pair_259 rfl 6 rfl ?_
                        refine s_iload_n C (pc := 260) dL_pair_260 rfl 7 rfl ?_
                        refine s_iload_n C (pc := 261) dL_pair_261 rfl 8 rfl ?_
                        refine s_iload C (pc := 262) dL_pair_262 15 rfl ?_
                        refine s_iconst C (pc := 264) (v := 1) dL_pair_264 (by decide) ?_
                        refine s_iadd C (pc := 265) dL_pair_265 ?_
                        refine s_top C (y := nI (r + 1)) (nI_add _ _) ?_
                        refine s_calliX C (pc := 266) (wr := []) (wc' := (fun u266_57 : GD => [(b, .inr (2, [.ref h, .ref tr, .ref hi, .ref sl, .ref sf, .ref hg, .int hc])), (h, .inr (1, [.ref hp, .ref hq, .int (nI n), .int (nI w), .int f, .int ll])), (hp, .inl (X.2.1, 4, .inl (P))), (hq, .inl (X.2.1, 4, .inl (Q))), (hg, .inr (0, [.ref hgn, .int (nI u266_57.1), .long u266_57.2.2.1, .long u266_57.2.2.2.1, .long u266_57.2.2.2.2])), (hgn, .inl (X.2.1, 144, .inl (u266_57.2.1)))])) (wn := (fun u266_57 : GD => [(b, .inr (2, [.ref h, .ref tr, .ref hi, .ref sl, .ref sf, .ref hg, .int hc])), (h, .inr (1, [.ref hp, .ref hq, .int (nI n), .int (nI w), .int f, .int ll])), (hp, .inl (X.2.1, 4, .inl (P))), (hq, .inl (X.2.1, 4, .inl (Q))), (hg, .inr (0, [.ref hgn, .int (nI u266_57.1), .long u266_57.2.2.1, .long u266_57.2.2.2.1, .long u266_57.2.2.2.2])), (hgn, .inl (X.2.1, 144, .inl (u266_57.2.1)))])) (r_V C (As := [.int (nI i), .int (nI j), .int (nI (r + 1))]) (rest := [.int (nI (isq (aP P Q i j / nr r)))]) (kP_perN l X b tr hi sl sf hc h hp hq n P Q w f ll hg hgn u109_56.1 u109_56.2.1 u109_56.2.2.1 u109_56.2.2.2.1 u109_56.2.2.2.2 i j R nr sp (r + 1) (by first | assumption | omega | decide) (by first | assumption | omega | decide) (by first | assumption | omega | decide) (by first | assumption | omega | decide) (by first | assumption | omega | decide) (by first | assumption | omega | decide) (by first | assumption | omega | decide) (by have := hinc r (r + 1) (by omega) (by omega); omega)) (cwV 3 C.ts gL_pair_X2_beatPeriod rfl rfl rfl (by decide +kernel) ⟨Nat.le_of_ble_eq_true rfl, Nat.le_of_ble_eq_true rfl⟩) (q0 := 0) rfl rfl [0, 1, 2, 3, 4, 5] (by decide) rfl rfl (Nat.le_of_ble_eq_true rfl) rfl dL_pair_266 ⟨Nat.zero_le _, Nat.zero_le _⟩) [0, 1, 2, 3, 4, 5] [] [0, 1, 2, 3, 4, 5] rfl rfl (by decide) (by decide) (by decide) (fun _ => rfl) (fun u266_57 _ => ?_)
                        refine s_icmp_ge C (pc := 269) (tgt := 274) dL_pair_269 (by decide) (fun c269 => ?_) (fun h => absurd (pr_mono hA (hinc r (r + 1) (by omega) (by omega)) h0 hN0) h)
                        refine s_lload C (pc := 274) dL_pair_274 0 rfl ?_
                        refine s_lstore C (pc := 276) (ls' := [(8, .long (lN (nr r * aP P Q i j))), (19, .long (lN (nr r * aP P Q i j))), (4, .int (nI (a + (4 * (sp (r + 1) - sp r))))), (18, .int (nI (4 * (sp (r + 1) - sp r)))), (17, .int (nI (isq (aP P Q i j / nr r)))), (15, .long (lN (dnN (nr r) (aP P Q i j)))), (13, .long (lN (upN (nr r) (aP P Q i j)))), (0, .ref b), (1, .int (nI i)), (2, .int (nI j)), (3, .int (nI w)), (5, .int (nI R)), (6, .long (lN (aP P Q i j))), (10, .int (nI st)), (11, .int (nI (4 * qtN w))), (12, .int (nI r))]) dL_pair_276 (by decide) rfl ?_
                        refine s_iload C (pc := 278) dL_pair_278 15 rfl ?_
                        refine s_iload C (pc := 280) dL_pair_280 13 rfl ?_
                        refine s_iadd C (pc := 282) dL_pair_282 ?_
                        refine s_top C (y := nI (r + st)) (nI_add _ _) ?_
                        refine s_istore C (pc := 283) (ls' := [(12, .int (nI (r + st))), (8, .long (lN (nr r * aP P Q i j))), (19, .long (lN (nr r * aP P Q i j))), (4, .int (nI (a + (4 * (sp (r + 1) - sp r))))), (18, .int (nI (4 * (sp (r + 1) - sp r)))), (17, .int (nI (isq (aP P Q i j / nr r)))), (15, .long (lN (dnN (nr r) (aP P Q i j)))), (13, .long (lN (upN (nr r) (aP P Q i j)))), (0, .ref b), (1, .int (nI i)), (2, .int (nI j)), (3, .int (nI w)), (5, .int (nI R)), (6, .long (lN (aP P Q i j))), (10, .int (nI st)), (11, .int (nI (4 * qtN w)))]) dL_pair_283 (by decide) rfl ?_
                        refine s_goto C (pc := 285) (tgt := 67) dL_pair_285 (by decide) ?_
                        refine s_loc C (ls' := [(0, .ref b), (1, .int (nI i)), (2, .int (nI j)), (3, .int (nI w)), (4, .int (nI (a + (4 * (sp (r + 1) - sp r))))), (5, .int (nI R)), (6, .long (lN (aP P Q i j))), (8, .long (lN (nr r * aP P Q i j))), (10, .int (nI st)), (11, .int (nI (4 * qtN w))), (12, .int (nI (r + st)))]) [8, 9, 10, 11, 3, 12, 13, 1, 14, 15, 0] rfl ?_
                        exact ih67 (r + st) (a + 4 * (sp (r + 1) - sp r)) (lN (nr r * aP P Q i j)) (u266_57.1, u266_57.2.1, u266_57.2.2.1, u266_57.2.2.2.1, u266_57.2.2.2.2) (by omega) (by omega) (pr_sum ha hsp e67) (Or.inr ⟨r, by omega, e67, rfl⟩) (by omega)
                  · skip
                    have hr0 : r = 0 := pr_r0 hinc e67 h0
                    refine s_iload C (pc := 169) dL_pair_169 14 rfl ?_
                    refine s_if_gt C (pc := 171) (tgt := 199) dL_pair_171 (by decide) (fun h => absurd h (fun h2 => absurd (nat_lt (a := 0) (b := r) (by omega) (by omega) h2) (by omega))) (fun c171 => ?_)
                    refine s_lload C (pc := 174) dL_pair_174 3 rfl ?_
                    refine s_lconst C (pc := 176) (v := 1) dL_pair_176 (by decide) ?_
                    refine s_lcmp_ne C (pc := 177) (tgt := 199) dL_pair_177 dL_pair_178 (by decide) (fun c177 => ?_) (fun c177 => ?_)
                    · skip
                      refine s_iconst C (pc := 199) (v := 0) dL_pair_199 (by decide) ?_
                      exact s_zretX C (pc := 200) hr hlk ((u109_56.1, u109_56.2.1, u109_56.2.2.1, u109_56.2.2.2.1, u109_56.2.2.2.2)) trivial [0, 1, 2, 3, 4, 5] (by decide) (rfl) rfl (rfl) dL_pair_200
                    · skip
                      refine s_aload_n C (pc := 181) dL_pair_181 rfl 5 rfl ?_
                      refine s_iload_n C (pc := 182) dL_pair_182 rfl 6 rfl ?_
                      refine s_iload_n C (pc := 183) dL_pair_183 rfl 7 rfl ?_
                      refine s_calliX C (pc := 184) (wr := []) (wc' := (fun u184_58 : GD => [(b, .inr (2, [.ref h, .ref tr, .ref hi, .ref sl, .ref sf, .ref hg, .int hc])), (h, .inr (1, [.ref hp, .ref hq, .int (nI n), .int (nI w), .int f, .int ll])), (hp, .inl (X.2.1, 4, .inl (P))), (hq, .inl (X.2.1, 4, .inl (Q))), (hg, .inr (0, [.ref hgn, .int (nI u184_58.1), .long u184_58.2.2.1, .long u184_58.2.2.2.1, .long u184_58.2.2.2.2])), (hgn, .inl (X.2.1, 144, .inl (u184_58.2.1)))])) (wn := (fun u184_58 : GD => [(b, .inr (2, [.ref h, .ref tr, .ref hi, .ref sl, .ref sf, .ref hg, .int hc])), (h, .inr (1, [.ref hp, .ref hq, .int (nI n), .int (nI w), .int f, .int ll])), (hp, .inl (X.2.1, 4, .inl (P))), (hq, .inl (X.2.1, 4, .inl (Q))), (hg, .inr (0, [.ref hgn, .int (nI u184_58.1), .long u184_58.2.2.1, .long u184_58.2.2.2.1, .long u184_58.2.2.2.2])), (hgn, .inl (X.2.1, 144, .inl (u184_58.2.1)))])) (r_V C (As := [.int (nI i), .int (nI j)]) (rest := []) (kP_lck l X b tr hi sl sf hc h hp hq n P Q w f ll hg hgn u109_56.1 u109_56.2.1 u109_56.2.2.1 u109_56.2.2.2.1 u109_56.2.2.2.2 i j R nr sp (by first | assumption | omega | decide) (by first | assumption | omega | decide) (by first | assumption | omega | decide) (by first | assumption | omega | decide) (by first | assumption | omega | decide) (by first | assumption | omega | decide)) (cwV 2 C.ts gL_pair_X2_locked rfl rfl rfl (by decide +kernel) ⟨Nat.le_of_ble_eq_true rfl, Nat.le_of_ble_eq_true rfl⟩) (q0 := 0) rfl rfl [0, 1, 2, 3, 4, 5] (by decide) rfl rfl (Nat.le_of_ble_eq_true rfl) rfl dL_pair_184 ⟨Nat.zero_le _, Nat.zero_le _⟩) [0, 1, 2, 3, 4, 5] [] [0, 1, 2, 3, 4, 5] rfl rfl (by decide) (by decide) (by decide) (fun _ => rfl) (fun u184_58 _ => ?_)
                      refine s_iload C (pc := 187) dL_pair_187 1 rfl ?_
                      refine s_icmp_ne C (pc := 189) (tgt := 199) dL_pair_189 (by decide) (fun h => absurd (pr_lk0 hr0 h0 hsp0) h) (fun c189 => ?_)
                      refine s_iload C (pc := 192) dL_pair_192 1 rfl ?_
                      refine s_iconst C (pc := 194) (v := 4) dL_pair_194 (by decide) ?_
                      refine s_irem C (pc := 195) dL_pair_195 (by decide) ?_
                      refine s_top C (y := 0) ((pr_mod4 _ (pr_spb hsp e67 hq))) ?_
                      refine s_if_eq C (pc := 196) (tgt := 201) dL_pair_196 (by decide) (fun c196 => ?_) (fun h => absurd (by decide) h)
                      refine s_lload C (pc := 201) dL_pair_201 10 rfl ?_
                      refine s_lload C (pc := 203) dL_pair_203 10 rfl ?_
                      refine s_lmul C (pc := 205) dL_pair_205 ?_
                      refine s_topl C (y := lN (aP P Q i j * aP P Q i j)) (lN_mul _ _) ?_
                      refine s_lload C (pc := 206) dL_pair_206 3 rfl ?_
                      refine s_lrem C (pc := 208) dL_pair_208 (lN_ne (by omega) (by omega)) ?_
                      refine s_topl C (y := 0) ((pr_rem0 hA hN0)) ?_
                      refine s_lconst C (pc := 209) (v := 0) dL_pair_209 (by decide) ?_
                      refine s_lcmp_ne C (pc := 210) (tgt := 228) dL_pair_210 dL_pair_211 (by decide) (fun h => absurd (by decide) h) (fun c210 => ?_)
                      refine s_lload C (pc := 214) dL_pair_214 4 rfl ?_
                      refine s_lload C (pc := 216) dL_pair_216 10 rfl ?_
                      refine s_lload C (pc := 218) dL_pair_218 10 rfl ?_
                      refine s_lmul C (pc := 220) dL_pair_220 ?_
                      refine s_topl C (y := lN (aP P Q i j * aP P Q i j)) (lN_mul _ _) ?_
                      refine s_lload C (pc := 221) dL_pair_221 3 rfl ?_
                      refine s_ldiv C (pc := 223) dL_pair_223 (lN_ne (by omega) (by omega)) ?_
                      refine s_lmul C (pc := 224) dL_pair_224 ?_
                      refine s_topl C (y := lN (nr r * aP P Q i j)) (pr_its hA hN0) ?_
                      refine s_goto C (pc := 225) (tgt := 231) dL_pair_225 (by decide) ?_
                      refine s_lstore C (pc := 231) (ls' := [(19, .long (lN (nr r * aP P Q i j))), (4, .int (nI (a + (4 * (sp (r + 1) - sp r))))), (18, .int (nI (4 * (sp (r + 1) - sp r)))), (17, .int (nI (isq (aP P Q i j / nr r)))), (15, .long (lN (dnN (nr r) (aP P Q i j)))), (13, .long (lN (upN (nr r) (aP P Q i j)))), (0, .ref b), (1, .int (nI i)), (2, .int (nI j)), (3, .int (nI w)), (5, .int (nI R)), (6, .long (lN (aP P Q i j))), (8, .long la), (10, .int (nI st)), (11, .int (nI (4 * qtN w))), (12, .int (nI r))]) dL_pair_231 (by decide) rfl ?_
                      refine s_lload C (pc := 233) dL_pair_233 0 rfl ?_
                      refine s_lload C (pc := 235) dL_pair_235 12 rfl ?_
                      refine s_lcmp_le C (pc := 237) (tgt := 272) dL_pair_237 dL_pair_238 (by decide) (fun c237 => ?_) (fun c237 => ?_)
                      · skip
                        refine s_iconst C (pc := 272) (v := 0) dL_pair_272 (by decide) ?_
                        exact s_zretX C (pc := 273) hr hlk ((u184_58.1, u184_58.2.1, u184_58.2.2.1, u184_58.2.2.2.1, u184_58.2.2.2.2)) trivial [0, 1, 2, 3, 4, 5] (by decide) (rfl) rfl (rfl) dL_pair_273
                      · skip
                        refine s_iload C (pc := 241) dL_pair_241 15 rfl ?_
                        refine s_iconst C (pc := 243) (v := 1) dL_pair_243 (by decide) ?_
                        refine s_iadd C (pc := 244) dL_pair_244 ?_
                        refine s_top C (y := nI (r + 1)) (nI_add _ _) ?_
                        refine s_iload C (pc := 245) dL_pair_245 10 rfl ?_
                        refine s_icmp_ge C (pc := 247) (tgt := 274) dL_pair_247 (by decide) (fun c247 => ?_) (fun c247 => ?_)
                        · skip
                          have e247 := nat_le (a := R) (b := (r + 1)) (by omega) (by omega) c247
                          refine s_lload C (pc := 274) dL_pair_274 0 rfl ?_
                          refine s_lstore C (pc := 276) (ls' := [(8, .long (lN (nr r * aP P Q i j))), (19, .long (lN (nr r * aP P Q i j))), (4, .int (nI (a + (4 * (sp (r + 1) - sp r))))), (18, .int (nI (4 * (sp (r + 1) - sp r)))), (17, .int (nI (isq (aP P Q i j / nr r)))), (15, .long (lN (dnN (nr r) (aP P Q i j)))), (13, .long (lN (upN (nr r) (aP P Q i j)))), (0, .ref b), (1, .int (nI i)), (2, .int (nI j)), (3, .int (nI w)), (5, .int (nI R)), (6, .long (lN (aP P Q i j))), (10, .int (nI st)), (11, .int (nI (4 * qtN w))), (12, .int (nI r))]) dL_pair_276 (by decide) rfl ?_
                          refine s_iload C (pc := 278) dL_pair_278 15 rfl ?_
                          refine s_iload C (pc := 280) dL_pair_280 13 rfl ?_
                          refine s_iadd C (pc := 282) dL_pair_282 ?_
                          refine s_top C (y := nI (r + st)) (nI_add _ _) ?_
                          refine s_istore C (pc := 283) (ls' := [(12, .int (nI (r + st))), (8, .long (lN (nr r * aP P Q i j))), (19, .long (lN (nr r * aP P Q i j))), (4, .int (nI (a + (4 * (sp (r + 1) - sp r))))), (18, .int (nI (4 * (sp (r + 1) - sp r)))), (17, .int (nI (isq (aP P Q i j / nr r)))), (15, .long (lN (dnN (nr r) (aP P Q i j)))), (13, .long (lN (upN (nr r) (aP P Q i j)))), (0, .ref b), (1, .int (nI i)), (2, .int (nI j)), (3, .int (nI w)), (5, .int (nI R)), (6, .long (lN (aP P Q i j))), (10, .int (nI st)), (11, .int (nI (4 * qtN w)))]) dL_pair_283 (by decide) rfl ?_
                          refine s_goto C (pc := 285) (tgt := 67) dL_pair_285 (by decide) ?_
                          refine s_loc C (ls' := [(0, .ref b), (1, .int (nI i)), (2, .int (nI j)), (3, .int (nI w)), (4, .int (nI (a + (4 * (sp (r + 1) - sp r))))), (5, .int (nI R)), (6, .long (lN (aP P Q i j))), (8, .long (lN (nr r * aP P Q i j))), (10, .int (nI st)), (11, .int (nI (4 * qtN w))), (12, .int (nI (r + st)))]) [8, 9, 10, 11, 3, 12, 13, 1, 14, 15, 0] rfl ?_
                          exact ih67 (r + st) (a + 4 * (sp (r + 1) - sp r)) (lN (nr r * aP P Q i j)) (u184_58.1, u184_58.2.1, u184_58.2.2.1, u184_58.2.2.2.1, u184_58.2.2.2.2) (by omega) (by omega) (pr_sum ha hsp e67) (Or.inr ⟨r, by omega, e67, rfl⟩) (by omega)
                        · skip
                          have e247 := nat_nle (a := R) (b := (r + 1)) (by omega) (by omega) c247
                          refine s_iload C (pc := 250) dL_pair_250 3 rfl ?_
                          refine s_bipush C (pc := 252) (v := (-4)) dL_pair_252 (by decide) ?_
                          refine s_icmp_eq C (pc := 254) (tgt := 274) dL_pair_254 (by decide) (fun h => absurd h (pr_nn4 (isq_bd hA.2))) (fun c254 => ?_)
                          refine s_iload C (pc := 257) dL_pair_257 3 rfl ?_
                          refine s_aload_n C (pc := 259) dL_pair_259 rfl 6 rfl ?_
                          refine s_iload_n C (pc := 260) dL_pair_260 rfl 7 rfl ?_
                          refine s_iload_n C (pc := 261) dL_pair_261 rfl 8 rfl ?_
                          refine s_iload C (pc := 262) dL_pair_262 15 rfl ?_
                          refine s_iconst C (pc := 264) (v := 1) dL_pair_264 (by decide) ?_
                          refine s_iadd C (pc := 265) dL_pair_265 ?_
                          refine s_top C (y := nI (r + 1)) (nI_add _ _) ?_
                          refine s_calliX C (pc := 266) (wr := []) (wc' := (fun u266_59 : GD => [(b, .inr (2, [.ref h, .ref tr, .ref hi, .ref sl, .ref sf, .ref hg, .int hc])), (h, .inr (1, [.ref hp, .ref hq, .int (nI n), .int (nI w), .int f, .int ll])), (hp, .inl (X.2.1, 4, .inl (P))), (hq, .inl (X.2.1, 4, .inl (Q))), (hg, .inr (0, [.ref hgn, .int (nI u266_59.1), .long u266_59.2.2.1, .long u266_59.2.2.2.1, .long u266_59.2.2.2.2])), (hgn, .inl (X.2.1, 144, .inl (u266_59.2.1)))])) (wn := (fun u266_59 : GD => [(b, .inr (2, [.ref h, .ref tr, .ref hi, .ref sl, .ref sf, .ref hg, .int hc])), (h, .inr (1, [.ref hp, .ref hq, .int (nI n), .int (nI w), .int f, .int ll])), (hp, .inl (X.2.1, 4, .inl (P))), (hq, .inl (X.2.1, 4, .inl (Q))), (hg, .inr (0, [.ref hgn, .int (nI u266_59.1), .long u266_59.2.2.1, .long u266_59.2.2.2.1, .long u266_59.2.2.2.2])), (hgn, .inl (X.2.1, 144, .inl (u266_59.2.1)))])) (r_V C (As := [.int (nI i), .int (nI j), .int (nI (r + 1))]) (rest := [.int (nI (isq (aP P Q i j / nr r)))]) (kP_perN l X b tr hi sl sf hc h hp hq n P Q w f ll hg hgn u184_58.1 u184_58.2.1 u184_58.2.2.1 u184_58.2.2.2.1 u184_58.2.2.2.2 i j R nr sp (r + 1) (by first | assumption | omega | decide) (by first | assumption | omega | decide) (by first | assumption | omega | decide) (by first | assumption | omega | decide) (by first | assumption | omega | decide) (by first | assumption | omega | decide) (by first | assumption | omega | decide) (by have := hinc r (r + 1) (by omega) (by omega); omega)) (cwV 3 C.ts gL_pair_X2_beatPeriod rfl rfl rfl (by decide +kernel) ⟨Nat.le_of_ble_eq_true rfl, Nat.le_of_ble_eq_true rfl⟩) (q0 := 0) rfl rfl [0, 1, 2, 3, 4, 5] (by decide) rfl rfl (Nat.le_of_ble_eq_true rfl) rfl dL_pair_266 ⟨Nat.zero_le _, Nat.zero_le _⟩) [0, 1, 2, 3, 4, 5] [] [0, 1, 2, 3, 4, 5] rfl rfl (by decide) (by decide) (by decide) (fun _ => rfl) (fun u266_59 _ => ?_)
                          refine s_icmp_ge C (pc := 269) (tgt := 274) dL_pair_269 (by decide) (fun c269 => ?_) (fun h => absurd (pr_mono hA (hinc r (r + 1) (by omega) (by omega)) h0 hN0) h)
                          refine s_lload C (pc := 274) dL_pair_274 0 rfl ?_
                          refine s_lstore C (pc := 276) (ls' := [(8, .long (lN (nr r * aP P Q i j))), (19, .long (lN (nr r * aP P Q i j))), (4, .int (nI (a + (4 * (sp (r + 1) - sp r))))), (18, .int (nI (4 * (sp (r + 1) - sp r)))), (17, .int (nI (isq (aP P Q i j / nr r)))), (15, .long (lN (dnN (nr r) (aP P Q i j)))), (13, .long (lN (upN (nr r) (aP P Q i j)))), (0, .ref b), (1, .int (nI i)), (2, .int (nI j)), (3, .int (nI w)), (5, .int (nI R)), (6, .long (lN (aP P Q i j))), (10, .int (nI st)), (11, .int (nI (4 * qtN w))), (12, .int (nI r))]) dL_pair_276 (by decide) rfl ?_
                          refine s_iload C (pc := 278) dL_pair_278 15 rfl ?_
                          refine s_iload C (pc := 280) dL_pair_280 13 rfl ?_
                          refine s_iadd C (pc := 282) dL_pair_282 ?_
                          refine s_top C (y := nI (r + st)) (nI_add _ _) ?_
                          refine s_istore C (pc := 283) (ls' := [(12, .int (nI (r + st))), (8, .long (lN (nr r * aP P Q i j))), (19, .long (lN (nr r * aP P Q i j))), (4, .int (nI (a + (4 * (sp (r + 1) - sp r))))), (18, .int (nI (4 * (sp (r + 1) - sp r)))), (17, .int (nI (isq (aP P Q i j / nr r)))), (15, .long (lN (dnN (nr r) (aP P Q i j)))), (13, .long (lN (upN (nr r) (aP P Q i j)))), (0, .ref b), (1, .int (nI i)), (2, .int (nI j)), (3, .int (nI w)), (5, .int (nI R)), (6, .long (lN (aP P Q i j))), (10, .int (nI st)), (11, .int (nI (4 * qtN w)))]) dL_pair_283 (by decide) rfl ?_
                          refine s_goto C (pc := 285) (tgt := 67) dL_pair_285 (by decide) ?_
                          refine s_loc C (ls' := [(0, .ref b), (1, .int (nI i)), (2, .int (nI j)), (3, .int (nI w)), (4, .int (nI (a + (4 * (sp (r + 1) - sp r))))), (5, .int (nI R)), (6, .long (lN (aP P Q i j))), (8, .long (lN (nr r * aP P Q i j))), (10, .int (nI st)), (11, .int (nI (4 * qtN w))), (12, .int (nI (r + st)))]) [8, 9, 10, 11, 3, 12, 13, 1, 14, 15, 0] rfl ?_
                          exact ih67 (r + st) (a + 4 * (sp (r + 1) - sp r)) (lN (nr r * aP P Q i j)) (u266_59.1, u266_59.2.1, u266_59.2.2.1, u266_59.2.2.2.1, u266_59.2.2.2.2) (by omega) (by omega) (pr_sum ha hsp e67) (Or.inr ⟨r, by omega, e67, rfl⟩) (by omega)
                · skip
                  refine s_iconst C (pc := 142) (v := 1) dL_pair_142 (by decide) ?_
                  refine s_goto C (pc := 143) (tgt := 147) dL_pair_143 (by decide) ?_
                  refine s_iload C (pc := 147) dL_pair_147 2 rfl ?_
                  refine s_bipush C (pc := 149) (v := (-4)) dL_pair_149 (by decide) ?_
                  refine s_icmp_ne C (pc := 151) (tgt := 158) dL_pair_151 (by decide) (fun c151 => ?_) (fun h => absurd h (pr_nn4 (isq_bd hA.2)))
                  refine s_iconst C (pc := 158) (v := 0) dL_pair_158 (by decide) ?_
                  refine s_icmp_ne C (pc := 159) (tgt := 199) dL_pair_159 (by decide) (fun c159 => ?_) (fun h => absurd h (by decide))
                  refine s_iconst C (pc := 199) (v := 0) dL_pair_199 (by decide) ?_
                  exact s_zretX C (pc := 200) hr hlk ((u109_56.1, u109_56.2.1, u109_56.2.2.1, u109_56.2.2.2.1, u109_56.2.2.2.2)) trivial [0, 1, 2, 3, 4, 5] (by decide) (rfl) rfl (rfl) dL_pair_200
    refine s_loc C (ls' := [(0, .ref b), (1, .int (nI i)), (2, .int (nI j)), (3, .int (nI w)), (4, .int 0), (5, .int (nI R)), (6, .long (lN (aP P Q i j))), (8, .long (-1)), (10, .int (nI st)), (11, .int (nI (4 * qtN w))), (12, .int 0)]) [1, 2, 3, 4, 5, 6, 7, 8, 9, 10, 0] rfl ?_
    exact L67 (R + 21) 0 0 (-1) (u.1, u.2.1, u.2.2.1, u.2.2.2.1, u.2.2.2.2) (Nat.zero_le _) (fun _ => Nat.zero_le _) (fun _ => by rw [hsp0]) (Or.inl rfl) (by omega)
  refine s_iload_n C (pc := 31) dL_pair_31 rfl 7 rfl ?_
  refine s_iconst C (pc := 32) (v := 1) dL_pair_32 (by decide) ?_
  refine s_icmp_ne C (pc := 33) (tgt := 40) dL_pair_33 (by decide) (fun c33 => ?_) (fun c33 => ?_)
  · skip
    have e33 := nat_ne (a := w) (b := 1) (by omega) (by omega) c33
    refine s_iload C (pc := 40) dL_pair_40 2 rfl ?_
    refine s_bipush C (pc := 42) (v := 16) dL_pair_42 (by decide) ?_
    refine s_idiv C (pc := 44) dL_pair_44 (by decide) ?_
    refine s_top C (y := nI (R / 16)) ((pk_div (a := R) (d := 16) (by omega) (by omega) (by omega))) ?_
    refine s_iconst C (pc := 45) (v := 1) dL_pair_45 (by decide) ?_
    refine s_iadd C (pc := 46) dL_pair_46 ?_
    refine s_top C (y := nI ((R / 16) + 1)) (nI_add _ _) ?_
    refine s_istore C (pc := 47) (ls' := [(10, .int (nI ((R / 16) + 1))), (8, .long (-1)), (6, .long (lN (aP P Q i j))), (5, .int (nI R)), (4, .int 0), (0, .ref b), (1, .int (nI i)), (2, .int (nI j)), (3, .int (nI w))]) dL_pair_47 (by decide) rfl ?_
    refine s_iload_n C (pc := 49) dL_pair_49 rfl 8 rfl ?_
    refine s_iconst C (pc := 50) (v := 1) dL_pair_50 (by decide) ?_
    refine s_icmp_ne C (pc := 51) (tgt := 59) dL_pair_51 (by decide) (fun c51 => ?_) (fun c51 => ?_)
    · skip
      have e51 := nat_ne (a := w) (b := 1) (by omega) (by omega) c51
      refine s_sipush C (pc := 59) (v := 576) dL_pair_59 (by decide) ?_
      refine s_top C (y := nI (4 * qtN w)) ((pr_due2 hw e51)) ?_
      refine s_istore C (pc := 62) (ls' := [(11, .int (nI (4 * qtN w))), (10, .int (nI ((R / 16) + 1))), (8, .long (-1)), (6, .long (lN (aP P Q i j))), (5, .int (nI R)), (4, .int 0), (0, .ref b), (1, .int (nI i)), (2, .int (nI j)), (3, .int (nI w))]) dL_pair_62 (by decide) rfl ?_
      refine s_loc C (ls' := [(0, .ref b), (1, .int (nI i)), (2, .int (nI j)), (3, .int (nI w)), (4, .int 0), (5, .int (nI R)), (6, .long (lN (aP P Q i j))), (8, .long (-1)), (10, .int (nI ((R / 16) + 1))), (11, .int (nI (4 * qtN w)))]) [6, 7, 8, 9, 5, 4, 3, 2, 1, 0] rfl ?_
      exact J64 (R / 16 + 1) (u6_1.1, u6_1.2.1, u6_1.2.2.1, u6_1.2.2.2.1, u6_1.2.2.2.2) (by omega) (by omega)
    · skip
      have e51 := nat_eq (a := w) (b := 1) (by omega) (by omega) c51
      refine s_bipush C (pc := 54) (v := 64) dL_pair_54 (by decide) ?_
      refine s_top C (y := nI (4 * qtN w)) ((pr_due1 e51)) ?_
      refine s_goto C (pc := 56) (tgt := 62) dL_pair_56 (by decide) ?_
      refine s_istore C (pc := 62) (ls' := [(11, .int (nI (4 * qtN w))), (10, .int (nI ((R / 16) + 1))), (8, .long (-1)), (6, .long (lN (aP P Q i j))), (5, .int (nI R)), (4, .int 0), (0, .ref b), (1, .int (nI i)), (2, .int (nI j)), (3, .int (nI w))]) dL_pair_62 (by decide) rfl ?_
      refine s_loc C (ls' := [(0, .ref b), (1, .int (nI i)), (2, .int (nI j)), (3, .int (nI w)), (4, .int 0), (5, .int (nI R)), (6, .long (lN (aP P Q i j))), (8, .long (-1)), (10, .int (nI ((R / 16) + 1))), (11, .int (nI (4 * qtN w)))]) [6, 7, 8, 9, 5, 4, 3, 2, 1, 0] rfl ?_
      exact J64 (R / 16 + 1) (u6_1.1, u6_1.2.1, u6_1.2.2.1, u6_1.2.2.2.1, u6_1.2.2.2.2) (by omega) (by omega)
  · skip
    have e33 := nat_eq (a := w) (b := 1) (by omega) (by omega) c33
    refine s_iconst C (pc := 36) (v := 1) dL_pair_36 (by decide) ?_
    refine s_top C (y := nI 1) (rfl) ?_
    refine s_goto C (pc := 37) (tgt := 47) dL_pair_37 (by decide) ?_
    refine s_istore C (pc := 47) (ls' := [(10, .int (nI 1)), (8, .long (-1)), (6, .long (lN (aP P Q i j))), (5, .int (nI R)), (4, .int 0), (0, .ref b), (1, .int (nI i)), (2, .int (nI j)), (3, .int (nI w))]) dL_pair_47 (by decide) rfl ?_
    refine s_iload_n C (pc := 49) dL_pair_49 rfl 8 rfl ?_
    refine s_iconst C (pc := 50) (v := 1) dL_pair_50 (by decide) ?_
    refine s_icmp_ne C (pc := 51) (tgt := 59) dL_pair_51 (by decide) (fun c51 => ?_) (fun c51 => ?_)
    · skip
      have e51 := nat_ne (a := w) (b := 1) (by omega) (by omega) c51
      refine s_sipush C (pc := 59) (v := 576) dL_pair_59 (by decide) ?_
      refine s_top C (y := nI (4 * qtN w)) ((pr_due2 hw e51)) ?_
      refine s_istore C (pc := 62) (ls' := [(11, .int (nI (4 * qtN w))), (10, .int (nI 1)), (8, .long (-1)), (6, .long (lN (aP P Q i j))), (5, .int (nI R)), (4, .int 0), (0, .ref b), (1, .int (nI i)), (2, .int (nI j)), (3, .int (nI w))]) dL_pair_62 (by decide) rfl ?_
      refine s_loc C (ls' := [(0, .ref b), (1, .int (nI i)), (2, .int (nI j)), (3, .int (nI w)), (4, .int 0), (5, .int (nI R)), (6, .long (lN (aP P Q i j))), (8, .long (-1)), (10, .int (nI 1)), (11, .int (nI (4 * qtN w)))]) [6, 7, 8, 9, 5, 4, 3, 2, 1, 0] rfl ?_
      exact J64 1 (u6_1.1, u6_1.2.1, u6_1.2.2.1, u6_1.2.2.2.1, u6_1.2.2.2.2) (by omega) (by omega)
    · skip
      have e51 := nat_eq (a := w) (b := 1) (by omega) (by omega) c51
      refine s_bipush C (pc := 54) (v := 64) dL_pair_54 (by decide) ?_
      refine s_top C (y := nI (4 * qtN w)) ((pr_due1 e51)) ?_
      refine s_goto C (pc := 56) (tgt := 62) dL_pair_56 (by decide) ?_
      refine s_istore C (pc := 62) (ls' := [(11, .int (nI (4 * qtN w))), (10, .int (nI 1)), (8, .long (-1)), (6, .long (lN (aP P Q i j))), (5, .int (nI R)), (4, .int 0), (0, .ref b), (1, .int (nI i)), (2, .int (nI j)), (3, .int (nI w))]) dL_pair_62 (by decide) rfl ?_
      refine s_loc C (ls' := [(0, .ref b), (1, .int (nI i)), (2, .int (nI j)), (3, .int (nI w)), (4, .int 0), (5, .int (nI R)), (6, .long (lN (aP P Q i j))), (8, .long (-1)), (10, .int (nI 1)), (11, .int (nI (4 * qtN w)))]) [6, 7, 8, 9, 5, 4, 3, 2, 1, 0] rfl ?_
      exact J64 1 (u6_1.1, u6_1.2.1, u6_1.2.2.1, u6_1.2.2.2.1, u6_1.2.2.2.2) (by omega) (by omega)

theorem kW_ang (l : Launch) (X : XT) (b tr hi sl sf hg : Nat) (hc : Int32) (h hp hq n : Nat) (P Q : Nat → Int32) (o f ll : Int32) (r : Nat) (hr : r < n) (hn : n ≤ 4) (hV : VP P Q n) : KI l yX2_byAngle wsX2_byAngle ({ frames := 3, cells := 0, slots := 0, locals := 67 }) X [.ref b, .int (nI r)] [(b, .inr (2, [.ref h, .ref tr, .ref hi, .ref sl, .ref sf, .ref hg, .int hc])), (h, .inr (1, [.ref hp, .ref hq, .int (nI n), .int o, .int f, .int ll])), (hp, .inl (X.2.1, 4, .inl (P))), (hq, .inl (X.2.1, 4, .inl (Q)))] [(b, .inr (2, [.ref h, .ref tr, .ref hi, .ref sl, .ref sf, .ref hg, .int hc])), (h, .inr (1, [.ref hp, .ref hq, .int (nI n), .int o, .int f, .int ll])), (hp, .inl (X.2.1, 4, .inl (P))), (hq, .inl (X.2.1, 4, .inl (Q)))] (nI (AG P Q n r)) := by
  have h1 := kX2_byAngle_ok l X b tr hi sl sf hg hc h hp hq n P Q o f ll (nI r) (nI_pos' (by omega)) hn
  rw [((ag_ok hV hn).1 r hr).2] at h1
  exact h1

theorem kW_angE (l : Launch) (X : XT) (b tr hi sl sf hg : Nat) (hc : Int32) (h hp hq n : Nat) (P Q : Nat → Int32) (o f ll : Int32) (hn : n ≤ 4) (hV : VP P Q n) : KI l yX2_byAngle wsX2_byAngle ({ frames := 3, cells := 0, slots := 0, locals := 67 }) X [.ref b, .int (nI n)] [(b, .inr (2, [.ref h, .ref tr, .ref hi, .ref sl, .ref sf, .ref hg, .int hc])), (h, .inr (1, [.ref hp, .ref hq, .int (nI n), .int o, .int f, .int ll])), (hp, .inl (X.2.1, 4, .inl (P))), (hq, .inl (X.2.1, 4, .inl (Q)))] [(b, .inr (2, [.ref h, .ref tr, .ref hi, .ref sl, .ref sf, .ref hg, .int hc])), (h, .inr (1, [.ref hp, .ref hq, .int (nI n), .int o, .int f, .int ll])), (hp, .inl (X.2.1, 4, .inl (P))), (hq, .inl (X.2.1, 4, .inl (Q)))] (-4) := by
  have h1 := kX2_byAngle_ok l X b tr hi sl sf hg hc h hp hq n P Q o f ll (nI n) (nI_pos' (by omega)) hn
  rw [(ag_ok hV hn).2.1] at h1
  exact h1

theorem kW_ct (l : Launch) (X : XT) (b tr hi sl sf hg : Nat) (hc : Int32) (h hp hq n : Nat) (P Q : Nat → Int32) (o f ll : Int32) (hn : n ≤ 4) (hV : VP P Q n) : KL l yX2_commonTile wsX2_commonTile ({ frames := 3, cells := 0, slots := 0, locals := 63 }) X [.ref b] [(b, .inr (2, [.ref h, .ref tr, .ref hi, .ref sl, .ref sf, .ref hg, .int hc])), (h, .inr (1, [.ref hp, .ref hq, .int (nI n), .int o, .int f, .int ll])), (hp, .inl (X.2.1, 4, .inl (P))), (hq, .inl (X.2.1, 4, .inl (Q)))] [(b, .inr (2, [.ref h, .ref tr, .ref hi, .ref sl, .ref sf, .ref hg, .int hc])), (h, .inr (1, [.ref hp, .ref hq, .int (nI n), .int o, .int f, .int ll])), (hp, .inl (X.2.1, 4, .inl (P))), (hq, .inl (X.2.1, 4, .inl (Q)))] (lN (cN P Q n)) := by
  have h1 := kX2_commonTile l X b tr hi sl sf hg hc h hp hq n P Q o f ll hn
  rw [(ct_n hV hn n (Nat.le_refl _)).1] at h1
  exact h1

theorem kW_tile (l : Launch) (X : XT) (b tr hi sl sf hg : Nat) (hc : Int32) (h hp hq n : Nat) (P Q : Nat → Int32) (o f ll : Int32) (k : Nat) (hk : k < n) (hn : n ≤ 4) (hV : VP P Q n) : KI l yX2_tile wsX2_tile ({ frames := 3, cells := 0, slots := 0, locals := 63 }) X [.ref b, .int (nI k)] [(b, .inr (2, [.ref h, .ref tr, .ref hi, .ref sl, .ref sf, .ref hg, .int hc])), (h, .inr (1, [.ref hp, .ref hq, .int (nI n), .int o, .int f, .int ll])), (hp, .inl (X.2.1, 4, .inl (P))), (hq, .inl (X.2.1, 4, .inl (Q)))] [(b, .inr (2, [.ref h, .ref tr, .ref hi, .ref sl, .ref sf, .ref hg, .int hc])), (h, .inr (1, [.ref hp, .ref hq, .int (nI n), .int o, .int f, .int ll])), (hp, .inl (X.2.1, 4, .inl (P))), (hq, .inl (X.2.1, 4, .inl (Q)))] (nI (tN P Q k)) := by
  have h1 := kX2_tile_ok l X b tr hi sl sf hg hc h hp hq n P Q o f ll k hk hn
  rw [(tl_n hV hk).1, lN_i] at h1
  exact h1

theorem kW_tri (l : Launch) (X : XT) (b tr hi sl sf : Nat) (hc : Int32) (h hp hq n : Nat) (P Q : Nat → Int32) (w : Nat) (f ll : Int32) (hg hgn z : Nat) (F : Nat → Int32) (ar0 lf gl : Int64) (i j k : Nat) (hij : i < j) (hjk : j < k) (hk : k < n) (hn : n ≤ 4) (hw : w = 1 ∨ w = 2) (hV : VP P Q n) (hL : LV f ll) : KIx l yX2_tripleBands wsX2_tripleBands ({ frames := 4, cells := 0, slots := 0, locals := 99 }) X [.ref b, .int (nI i), .int (nI j), .int (nI k)] [(b, .inr (2, [.ref h, .ref tr, .ref hi, .ref sl, .ref sf, .ref hg, .int hc])), (h, .inr (1, [.ref hp, .ref hq, .int (nI n), .int (nI w), .int f, .int ll])), (hp, .inl (X.2.1, 4, .inl (P))), (hq, .inl (X.2.1, 4, .inl (Q))), (hg, .inr (0, [.ref hgn, .int (nI z), .long ar0, .long lf, .long gl])), (hgn, .inl (X.2.1, 144, .inl (F)))] (fun u : GD => [(b, .inr (2, [.ref h, .ref tr, .ref hi, .ref sl, .ref sf, .ref hg, .int hc])), (h, .inr (1, [.ref hp, .ref hq, .int (nI n), .int (nI w), .int f, .int ll])), (hp, .inl (X.2.1, 4, .inl (P))), (hq, .inl (X.2.1, 4, .inl (Q))), (hg, .inr (0, [.ref hgn, .int (nI u.1), .long u.2.2.1, .long u.2.2.2.1, .long u.2.2.2.2])), (hgn, .inl (X.2.1, 144, .inl (u.2.1)))]) (fun _ => True) (nI (bT P Q f ll i j k)) := by
  have h1 := kX2_tripleBands_ok l X b tr hi sl sf hc h hp hq n P Q w f ll hg hgn z F ar0 lf gl i j k hij hjk hk hn hw
  rw [tb_ok hV hL (show i < n by omega) (show j < n by omega) hk] at h1
  exact h1

theorem kW_all (l : Launch) (X : XT) (b tr hi sl sf : Nat) (hc : Int32) (h hp hq n : Nat) (P Q : Nat → Int32) (w : Nat) (f ll : Int32) (hg hgn z : Nat) (F : Nat → Int32) (ar0 lf gl : Int64) (hn : n ≤ 4) (hw : w = 1 ∨ w = 2) (hV : VP P Q n) (hL : LV f ll) : KIx l yX2_allBands wsX2_allBands ({ frames := 7, cells := 0, slots := 0, locals := 165 }) X [.ref b] [(b, .inr (2, [.ref h, .ref tr, .ref hi, .ref sl, .ref sf, .ref hg, .int hc])), (h, .inr (1, [.ref hp, .ref hq, .int (nI n), .int (nI w), .int f, .int ll])), (hp, .inl (X.2.1, 4, .inl (P))), (hq, .inl (X.2.1, 4, .inl (Q))), (hg, .inr (0, [.ref hgn, .int (nI z), .long ar0, .long lf, .long gl])), (hgn, .inl (X.2.1, 144, .inl (F)))] (fun u : GD => [(b, .inr (2, [.ref h, .ref tr, .ref hi, .ref sl, .ref sf, .ref hg, .int hc])), (h, .inr (1, [.ref hp, .ref hq, .int (nI n), .int (nI w), .int f, .int ll])), (hp, .inl (X.2.1, 4, .inl (P))), (hq, .inl (X.2.1, 4, .inl (Q))), (hg, .inr (0, [.ref hgn, .int (nI u.1), .long u.2.2.1, .long u.2.2.2.1, .long u.2.2.2.2])), (hgn, .inl (X.2.1, 144, .inl (u.2.1)))]) (fun _ => True) (nI (suI P Q w f ll n n)) := by
  have h1 := kX2_allBands l X b tr hi sl sf hc h hp hq n P Q w f ll hg hgn z F ar0 lf gl hn hw
  rw [(all_ok hV hL hw hn).1, ← su_all P Q w f ll hn] at h1
  exact h1

theorem kW_wp0 (l : Launch) (X : XT) (b tr hi sl sf : Nat) (hc : Int32) (h hp hq n : Nat) (P Q : Nat → Int32) (w : Nat) (f ll : Int32) (hg hgn z : Nat) (F : Nat → Int32) (ar0 lf gl : Int64) (hn : n ≤ 4) (hw : w = 1 ∨ w = 2) (hV : VP P Q n) (hL : LV f ll) (hz : suI P Q w f ll n n = 0) : KIx l yX2_worstPlates wsX2_worstPlates ({ frames := 7, cells := 0, slots := 0, locals := 161 }) X [.ref b] [(b, .inr (2, [.ref h, .ref tr, .ref hi, .ref sl, .ref sf, .ref hg, .int hc])), (h, .inr (1, [.ref hp, .ref hq, .int (nI n), .int (nI w), .int f, .int ll])), (hp, .inl (X.2.1, 4, .inl (P))), (hq, .inl (X.2.1, 4, .inl (Q))), (hg, .inr (0, [.ref hgn, .int (nI z), .long ar0, .long lf, .long gl])), (hgn, .inl (X.2.1, 144, .inl (F)))] (fun u : GD => [(b, .inr (2, [.ref h, .ref tr, .ref hi, .ref sl, .ref sf, .ref hg, .int hc])), (h, .inr (1, [.ref hp, .ref hq, .int (nI n), .int (nI w), .int f, .int ll])), (hp, .inl (X.2.1, 4, .inl (P))), (hq, .inl (X.2.1, 4, .inl (Q))), (hg, .inr (0, [.ref hgn, .int (nI u.1), .long u.2.2.1, .long u.2.2.2.1, .long u.2.2.2.2])), (hgn, .inl (X.2.1, 144, .inl (u.2.1)))]) (fun _ => True) (-4) := by
  have h1 := kX2_worstPlates l X b tr hi sl sf hc h hp hq n P Q w f ll hg hgn z F ar0 lf gl hn hw
  rw [(worst_n hV hL hw hn).1 hz] at h1
  exact h1

theorem kW_wq0 (l : Launch) (X : XT) (b tr hi sl sf : Nat) (hc : Int32) (h hp hq n : Nat) (P Q : Nat → Int32) (w : Nat) (f ll : Int32) (hg hgn z : Nat) (F : Nat → Int32) (ar0 lf gl : Int64) (hn : n ≤ 4) (hw : w = 1 ∨ w = 2) (hV : VP P Q n) (hL : LV f ll) (hz : suI P Q w f ll n n = 0) : KIx l yX2_worstPeriod wsX2_worstPeriod ({ frames := 8, cells := 0, slots := 0, locals := 185 }) X [.ref b] [(b, .inr (2, [.ref h, .ref tr, .ref hi, .ref sl, .ref sf, .ref hg, .int hc])), (h, .inr (1, [.ref hp, .ref hq, .int (nI n), .int (nI w), .int f, .int ll])), (hp, .inl (X.2.1, 4, .inl (P))), (hq, .inl (X.2.1, 4, .inl (Q))), (hg, .inr (0, [.ref hgn, .int (nI z), .long ar0, .long lf, .long gl])), (hgn, .inl (X.2.1, 144, .inl (F)))] (fun u : GD => [(b, .inr (2, [.ref h, .ref tr, .ref hi, .ref sl, .ref sf, .ref hg, .int hc])), (h, .inr (1, [.ref hp, .ref hq, .int (nI n), .int (nI w), .int f, .int ll])), (hp, .inl (X.2.1, 4, .inl (P))), (hq, .inl (X.2.1, 4, .inl (Q))), (hg, .inr (0, [.ref hgn, .int (nI u.1), .long u.2.2.1, .long u.2.2.2.1, .long u.2.2.2.2])), (hgn, .inl (X.2.1, 144, .inl (u.2.1)))]) (fun _ => True) (-4) := by
  have h1 := kX2_worstPeriod l X b tr hi sl sf hc h hp hq n P Q w f ll hg hgn z F ar0 lf gl hn hw
  rw [if_pos ((worst_n hV hL hw hn).1 hz)] at h1
  exact h1

theorem kW_wpN (l : Launch) (X : XT) (b tr hi sl sf : Nat) (hc : Int32) (h hp hq n : Nat) (P Q : Nat → Int32) (w : Nat) (f ll : Int32) (hg hgn z : Nat) (F : Nat → Int32) (ar0 lf gl : Int64) (wx wy : Nat) (hn : n ≤ 4) (hw : w = 1 ∨ w = 2) (hx1 : (wsF P Q w f ll n 10).1 = nI wy) (hx2 : (wsF P Q w f ll n 10).2 = nI wx) (hy1 : 3 ≤ wy) (hy2 : wy < 16) : KIx l yX2_worstPlates wsX2_worstPlates ({ frames := 7, cells := 0, slots := 0, locals := 161 }) X [.ref b] [(b, .inr (2, [.ref h, .ref tr, .ref hi, .ref sl, .ref sf, .ref hg, .int hc])), (h, .inr (1, [.ref hp, .ref hq, .int (nI n), .int (nI w), .int f, .int ll])), (hp, .inl (X.2.1, 4, .inl (P))), (hq, .inl (X.2.1, 4, .inl (Q))), (hg, .inr (0, [.ref hgn, .int (nI z), .long ar0, .long lf, .long gl])), (hgn, .inl (X.2.1, 144, .inl (F)))] (fun u : GD => [(b, .inr (2, [.ref h, .ref tr, .ref hi, .ref sl, .ref sf, .ref hg, .int hc])), (h, .inr (1, [.ref hp, .ref hq, .int (nI n), .int (nI w), .int f, .int ll])), (hp, .inl (X.2.1, 4, .inl (P))), (hq, .inl (X.2.1, 4, .inl (Q))), (hg, .inr (0, [.ref hgn, .int (nI u.1), .long u.2.2.1, .long u.2.2.2.1, .long u.2.2.2.2])), (hgn, .inl (X.2.1, 144, .inl (u.2.1)))]) (fun _ => True) (nI wy) := by
  have h1 := kX2_worstPlates l X b tr hi sl sf hc h hp hq n P Q w f ll hg hgn z F ar0 lf gl hn hw
  rw [hx1] at h1
  exact h1

theorem kW_wqN (l : Launch) (X : XT) (b tr hi sl sf : Nat) (hc : Int32) (h hp hq n : Nat) (P Q : Nat → Int32) (w : Nat) (f ll : Int32) (hg hgn z : Nat) (F : Nat → Int32) (ar0 lf gl : Int64) (wx wy : Nat) (hn : n ≤ 4) (hw : w = 1 ∨ w = 2) (hx1 : (wsF P Q w f ll n 10).1 = nI wy) (hx2 : (wsF P Q w f ll n 10).2 = nI wx) (hy1 : 3 ≤ wy) (hy2 : wy < 16) : KIx l yX2_worstPeriod wsX2_worstPeriod ({ frames := 8, cells := 0, slots := 0, locals := 185 }) X [.ref b] [(b, .inr (2, [.ref h, .ref tr, .ref hi, .ref sl, .ref sf, .ref hg, .int hc])), (h, .inr (1, [.ref hp, .ref hq, .int (nI n), .int (nI w), .int f, .int ll])), (hp, .inl (X.2.1, 4, .inl (P))), (hq, .inl (X.2.1, 4, .inl (Q))), (hg, .inr (0, [.ref hgn, .int (nI z), .long ar0, .long lf, .long gl])), (hgn, .inl (X.2.1, 144, .inl (F)))] (fun u : GD => [(b, .inr (2, [.ref h, .ref tr, .ref hi, .ref sl, .ref sf, .ref hg, .int hc])), (h, .inr (1, [.ref hp, .ref hq, .int (nI n), .int (nI w), .int f, .int ll])), (hp, .inl (X.2.1, 4, .inl (P))), (hq, .inl (X.2.1, 4, .inl (Q))), (hg, .inr (0, [.ref hgn, .int (nI u.1), .long u.2.2.1, .long u.2.2.2.1, .long u.2.2.2.2])), (hgn, .inl (X.2.1, 144, .inl (u.2.1)))]) (fun _ => True) (nI wx) := by
  have h1 := kX2_worstPeriod l X b tr hi sl sf hc h hp hq n P Q w f ll hg hgn z F ar0 lf gl hn hw
  rw [hx1, if_neg (pr_nn4 (n := wy) (by omega)), hx2] at h1
  exact h1

set_option maxHeartbeats 4000000 in
set_option maxRecDepth 100000 in
theorem kL_whole (l : Launch) (X : XT) (b tr hi sl sf : Nat) (hc : Int32) (h hp hq n : Nat) (P Q : Nat → Int32) (w : Nat) (f ll : Int32) (hg hgn z : Nat) (F : Nat → Int32) (ar0 lf gl : Int64) (hn : n ≤ 4) (hw : w = 1 ∨ w = 2) (hV : VP P Q n) (hL : LV f ll) : KIx l yL_whole wsL_whole ({ frames := 9, cells := 0, slots := 0, locals := 206 }) X [.ref b, .int (nI w)] [(b, .inr (2, [.ref h, .ref tr, .ref hi, .ref sl, .ref sf, .ref hg, .int hc])), (h, .inr (1, [.ref hp, .ref hq, .int (nI n), .int (nI w), .int f, .int ll])), (hp, .inl (X.2.1, 4, .inl (P))), (hq, .inl (X.2.1, 4, .inl (Q))), (hg, .inr (0, [.ref hgn, .int (nI z), .long ar0, .long lf, .long gl])), (hgn, .inl (X.2.1, 144, .inl (F)))] (fun u : GD => [(b, .inr (2, [.ref h, .ref tr, .ref hi, .ref sl, .ref sf, .ref hg, .int hc])), (h, .inr (1, [.ref hp, .ref hq, .int (nI n), .int (nI w), .int f, .int ll])), (hp, .inl (X.2.1, 4, .inl (P))), (hq, .inl (X.2.1, 4, .inl (Q))), (hg, .inr (0, [.ref hgn, .int (nI u.1), .long u.2.2.1, .long u.2.2.2.1, .long u.2.2.2.2])), (hgn, .inl (X.2.1, 144, .inl (u.2.1)))]) (fun _ => True) (1) := by
  have hAG := ag_ok hV hn
  have hsu := su_le (P := P) (Q := Q) hw f ll hn
  refine k_ofIx (cc := cL_whole) (own := RL) (maxL := 11) (ret := (some .boolean)) (ls0 := [(0, .ref b), (1, .int (nI w))]) (by decide) rfl rfl (Nat.le_of_ble_eq_true rfl) rfl ?_
  intro p e s m args below meth c A g C hr hlk
  refine s_aload_n C (pc := 0) dL_whole_0 rfl 0 rfl ?_
  refine s_calli C (pc := 1) (wr := [(hg, .inr (0, [.ref hgn, .int (nI z), .long ar0, .long lf, .long gl])), (hgn, .inl (X.2.1, 144, .inl (F)))]) (wc' := [(b, .inr (2, [.ref h, .ref tr, .ref hi, .ref sl, .ref sf, .ref hg, .int hc])), (h, .inr (1, [.ref hp, .ref hq, .int (nI n), .int (nI w), .int f, .int ll])), (hp, .inl (X.2.1, 4, .inl (P))), (hq, .inl (X.2.1, 4, .inl (Q)))]) (wn := [(b, .inr (2, [.ref h, .ref tr, .ref hi, .ref sl, .ref sf, .ref hg, .int hc])), (h, .inr (1, [.ref hp, .ref hq, .int (nI n), .int (nI w), .int f, .int ll])), (hp, .inl (X.2.1, 4, .inl (P))), (hq, .inl (X.2.1, 4, .inl (Q))), (hg, .inr (0, [.ref hgn, .int (nI z), .long ar0, .long lf, .long gl])), (hgn, .inl (X.2.1, 144, .inl (F)))]) (r_V C (As := []) (rest := []) (kX2_plateCount l X b tr hi sl sf hg hc h hp hq n P Q (nI w) f ll ) (cwV 0 C.ts gL_whole_X2_plateCount rfl rfl rfl (by decide +kernel) ⟨Nat.le_of_ble_eq_true rfl, Nat.le_of_ble_eq_true rfl⟩) (q0 := 0) rfl rfl [0, 1, 2, 3] (by decide) rfl rfl (Nat.le_of_ble_eq_true rfl) rfl dL_whole_1 ⟨Nat.zero_le _, Nat.zero_le _⟩) [0, 1, 2, 3] [4, 5] [2, 3, 4, 5, 0, 1] rfl rfl (by decide) (by decide) (by decide) rfl ?_
  refine s_istore_n C (pc := 4) (ls' := [(2, .int (nI n)), (0, .ref b), (1, .int (nI w))]) dL_whole_4 rfl (by decide) rfl ?_
  refine s_iconst C (pc := 5) (v := 0) dL_whole_5 (by decide) ?_
  refine s_istore_n C (pc := 6) (ls' := [(3, .int 0), (2, .int (nI n)), (0, .ref b), (1, .int (nI w))]) dL_whole_6 rfl (by decide) rfl ?_
  refine s_iconst C (pc := 7) (v := (-1)) dL_whole_7 (by decide) ?_
  refine s_istore C (pc := 8) (ls' := [(4, .int (-1)), (3, .int 0), (2, .int (nI n)), (0, .ref b), (1, .int (nI w))]) dL_whole_8 (by decide) rfl ?_
  refine s_bipush C (pc := 10) (v := (-4)) dL_whole_10 (by decide) ?_
  refine s_istore C (pc := 12) (ls' := [(5, .int (-4)), (4, .int (-1)), (3, .int 0), (2, .int (nI n)), (0, .ref b), (1, .int (nI w))]) dL_whole_12 (by decide) rfl ?_
  refine s_iconst C (pc := 14) (v := 0) dL_whole_14 (by decide) ?_
  refine s_istore C (pc := 15) (ls' := [(6, .int 0), (5, .int (-4)), (4, .int (-1)), (3, .int 0), (2, .int (nI n)), (0, .ref b), (1, .int (nI w))]) dL_whole_15 (by decide) rfl ?_
  refine s_iconst C (pc := 17) (v := 0) dL_whole_17 (by decide) ?_
  refine s_istore C (pc := 18) (ls' := [(7, .int 0), (6, .int 0), (5, .int (-4)), (4, .int (-1)), (3, .int 0), (2, .int (nI n)), (0, .ref b), (1, .int (nI w))]) dL_whole_18 (by decide) rfl ?_
  have L20 : ∀ (n_ : Nat) (i : Nat) (u : GD), (i ≤ n) → n + 1 ≤ i + n_ → g [(b, .inr (2, [.ref h, .ref tr, .ref hi, .ref sl, .ref sf, .ref hg, .int hc])), (h, .inr (1, [.ref hp, .ref hq, .int (nI n), .int (nI w), .int f, .int ll])), (hp, .inl (X.2.1, 4, .inl (P))), (hq, .inl (X.2.1, 4, .inl (Q))), (hg, .inr (0, [.ref hgn, .int (nI u.1), .long u.2.2.1, .long u.2.2.2.1, .long u.2.2.2.2])), (hgn, .inl (X.2.1, 144, .inl (u.2.1)))] 20 [(0, .ref b), (1, .int (nI w)), (2, .int (nI n)), (3, .int (nI (suI P Q w f ll n i))), (4, .int ((wqO P Q w f ll n i).2)), (5, .int ((wqO P Q w f ll n i).1)), (6, .int (mtF P Q n i)), (7, .int (nI i))] [] := by
    intro n_
    induction n_ with
    | zero =>
      intro i u hi hf
      exact absurd hf (by omega)
    | succ n_ ih20 =>
      intro i u hi hf20
      refine s_iload C (pc := 20) dL_whole_20 7 rfl ?_
      refine s_iload_n C (pc := 22) dL_whole_22 rfl 2 rfl ?_
      refine s_icmp_ge C (pc := 23) (tgt := 268) dL_whole_23 (by decide) (fun c23 => ?_) (fun c23 => ?_)
      · skip
        have e23 := nat_le (a := n) (b := i) (by omega) (by omega) c23
        have hs0 : n = i := by omega
        subst hs0
        by_cases hz : suI P Q w f ll n n = 0
        · skip
          refine s_aload_n C (pc := 268) dL_whole_268 rfl 0 rfl ?_
          refine s_calliX C (pc := 269) (wr := []) (wc' := (fun u269_1 : GD => [(b, .inr (2, [.ref h, .ref tr, .ref hi, .ref sl, .ref sf, .ref hg, .int hc])), (h, .inr (1, [.ref hp, .ref hq, .int (nI n), .int (nI w), .int f, .int ll])), (hp, .inl (X.2.1, 4, .inl (P))), (hq, .inl (X.2.1, 4, .inl (Q))), (hg, .inr (0, [.ref hgn, .int (nI u269_1.1), .long u269_1.2.2.1, .long u269_1.2.2.2.1, .long u269_1.2.2.2.2])), (hgn, .inl (X.2.1, 144, .inl (u269_1.2.1)))])) (wn := (fun u269_1 : GD => [(b, .inr (2, [.ref h, .ref tr, .ref hi, .ref sl, .ref sf, .ref hg, .int hc])), (h, .inr (1, [.ref hp, .ref hq, .int (nI n), .int (nI w), .int f, .int ll])), (hp, .inl (X.2.1, 4, .inl (P))), (hq, .inl (X.2.1, 4, .inl (Q))), (hg, .inr (0, [.ref hgn, .int (nI u269_1.1), .long u269_1.2.2.1, .long u269_1.2.2.2.1, .long u269_1.2.2.2.2])), (hgn, .inl (X.2.1, 144, .inl (u269_1.2.1)))])) (r_V C (As := []) (rest := []) (kW_wq0 l X b tr hi sl sf hc h hp hq n P Q w f ll hg hgn u.1 u.2.1 u.2.2.1 u.2.2.2.1 u.2.2.2.2 (by first | assumption | omega | decide) (by first | assumption | omega | decide) (by first | assumption | omega | decide) (by first | assumption | omega | decide) (by first | assumption | omega | decide)) (cwV 0 C.ts gL_whole_X2_worstPeriod rfl rfl rfl (by decide +kernel) ⟨Nat.le_of_ble_eq_true rfl, Nat.le_of_ble_eq_true rfl⟩) (q0 := 0) rfl rfl [0, 1, 2, 3, 4, 5] (by decide) rfl rfl (Nat.le_of_ble_eq_true rfl) rfl dL_whole_269 ⟨Nat.zero_le _, Nat.zero_le _⟩) [0, 1, 2, 3, 4, 5] [] [0, 1, 2, 3, 4, 5] rfl rfl (by decide) (by decide) (by decide) (fun _ => rfl) (fun u269_1 _ => ?_)
          refine s_istore C (pc := 272) (ls' := [(7, .int (-4)), (0, .ref b), (1, .int (nI w)), (2, .int (nI n)), (3, .int (nI (suI P Q w f ll n n))), (4, .int ((wqO P Q w f ll n n).2)), (5, .int ((wqO P Q w f ll n n).1)), (6, .int (mtF P Q n n))]) dL_whole_272 (by decide) rfl ?_
          refine s_aload_n C (pc := 274) dL_whole_274 rfl 1 rfl ?_
          refine s_calliX C (pc := 275) (wr := []) (wc' := (fun u275_2 : GD => [(b, .inr (2, [.ref h, .ref tr, .ref hi, .ref sl, .ref sf, .ref hg, .int hc])), (h, .inr (1, [.ref hp, .ref hq, .int (nI n), .int (nI w), .int f, .int ll])), (hp, .inl (X.2.1, 4, .inl (P))), (hq, .inl (X.2.1, 4, .inl (Q))), (hg, .inr (0, [.ref hgn, .int (nI u275_2.1), .long u275_2.2.2.1, .long u275_2.2.2.2.1, .long u275_2.2.2.2.2])), (hgn, .inl (X.2.1, 144, .inl (u275_2.2.1)))])) (wn := (fun u275_2 : GD => [(b, .inr (2, [.ref h, .ref tr, .ref hi, .ref sl, .ref sf, .ref hg, .int hc])), (h, .inr (1, [.ref hp, .ref hq, .int (nI n), .int (nI w), .int f, .int ll])), (hp, .inl (X.2.1, 4, .inl (P))), (hq, .inl (X.2.1, 4, .inl (Q))), (hg, .inr (0, [.ref hgn, .int (nI u275_2.1), .long u275_2.2.2.1, .long u275_2.2.2.2.1, .long u275_2.2.2.2.2])), (hgn, .inl (X.2.1, 144, .inl (u275_2.2.1)))])) (r_V C (As := []) (rest := []) (kW_wp0 l X b tr hi sl sf hc h hp hq n P Q w f ll hg hgn u269_1.1 u269_1.2.1 u269_1.2.2.1 u269_1.2.2.2.1 u269_1.2.2.2.2 (by first | assumption | omega | decide) (by first | assumption | omega | decide) (by first | assumption | omega | decide) (by first | assumption | omega | decide) (by first | assumption | omega | decide)) (cwV 0 C.ts gL_whole_X2_worstPlates rfl rfl rfl (by decide +kernel) ⟨Nat.le_of_ble_eq_true rfl, Nat.le_of_ble_eq_true rfl⟩) (q0 := 0) rfl rfl [0, 1, 2, 3, 4, 5] (by decide) rfl rfl (Nat.le_of_ble_eq_true rfl) rfl dL_whole_275 ⟨Nat.zero_le _, Nat.zero_le _⟩) [0, 1, 2, 3, 4, 5] [] [0, 1, 2, 3, 4, 5] rfl rfl (by decide) (by decide) (by decide) (fun _ => rfl) (fun u275_2 _ => ?_)
          refine s_istore C (pc := 278) (ls' := [(8, .int (-4)), (7, .int (-4)), (0, .ref b), (1, .int (nI w)), (2, .int (nI n)), (3, .int (nI (suI P Q w f ll n n))), (4, .int ((wqO P Q w f ll n n).2)), (5, .int ((wqO P Q w f ll n n).1)), (6, .int (mtF P Q n n))]) dL_whole_278 (by decide) rfl ?_
          refine s_iload_n C (pc := 280) dL_whole_280 rfl 5 rfl ?_
          refine s_if_ne C (pc := 281) (tgt := 288) dL_whole_281 (by decide) (fun h => absurd (congrArg nI hz) h) (fun c281 => ?_)
          refine s_iconst C (pc := 284) (v := 1) dL_whole_284 (by decide) ?_
          refine s_goto C (pc := 285) (tgt := 289) dL_whole_285 (by decide) ?_
          refine s_istore C (pc := 289) (ls' := [(9, .int 1), (8, .int (-4)), (7, .int (-4)), (0, .ref b), (1, .int (nI w)), (2, .int (nI n)), (3, .int (nI (suI P Q w f ll n n))), (4, .int ((wqO P Q w f ll n n).2)), (5, .int ((wqO P Q w f ll n n).1)), (6, .int (mtF P Q n n))]) dL_whole_289 (by decide) rfl ?_
          refine s_iload C (pc := 291) dL_whole_291 9 rfl ?_
          refine s_iconst C (pc := 293) (v := 1) dL_whole_293 (by decide) ?_
          refine s_iload_n C (pc := 294) dL_whole_294 rfl 5 rfl ?_
          refine s_ishl C (pc := 295) dL_whole_295 ?_
          refine s_iconst C (pc := 296) (v := 1) dL_whole_296 (by decide) ?_
          refine s_isub C (pc := 297) dL_whole_297 ?_
          refine s_icmp_ne C (pc := 298) (tgt := 427) dL_whole_298 (by decide) (fun h => absurd (hAG.2.2.2) h) (fun c298 => ?_)
          refine s_aload_n C (pc := 301) dL_whole_301 rfl 3 rfl ?_
          refine s_iload_n C (pc := 302) dL_whole_302 rfl 5 rfl ?_
          refine s_calli C (pc := 303) (wr := [(hg, .inr (0, [.ref hgn, .int (nI u275_2.1), .long u275_2.2.2.1, .long u275_2.2.2.2.1, .long u275_2.2.2.2.2])), (hgn, .inl (X.2.1, 144, .inl (u275_2.2.1)))]) (wc' := [(b, .inr (2, [.ref h, .ref tr, .ref hi, .ref sl, .ref sf, .ref hg, .int hc])), (h, .inr (1, [.ref hp, .ref hq, .int (nI n), .int (nI w), .int f, .int ll])), (hp, .inl (X.2.1, 4, .inl (P))), (hq, .inl (X.2.1, 4, .inl (Q)))]) (wn := [(b, .inr (2, [.ref h, .ref tr, .ref hi, .ref sl, .ref sf, .ref hg, .int hc])), (h, .inr (1, [.ref hp, .ref hq, .int (nI n), .int (nI w), .int f, .int ll])), (hp, .inl (X.2.1, 4, .inl (P))), (hq, .inl (X.2.1, 4, .inl (Q))), (hg, .inr (0, [.ref hgn, .int (nI u275_2.1), .long u275_2.2.2.1, .long u275_2.2.2.2.1, .long u275_2.2.2.2.2])), (hgn, .inl (X.2.1, 144, .inl (u275_2.2.1)))]) (r_V C (As := [.int (nI n)]) (rest := []) (kW_angE l X b tr hi sl sf hg hc h hp hq n P Q (nI w) f ll (by first | assumption | omega | decide) (by first | assumption | omega | decide)) (cwV 1 C.ts gL_whole_X2_byAngle rfl rfl rfl (by decide +kernel) ⟨Nat.le_of_ble_eq_true rfl, Nat.le_of_ble_eq_true rfl⟩) (q0 := 0) rfl rfl [0, 1, 2, 3] (by decide) rfl rfl (Nat.le_of_ble_eq_true rfl) rfl dL_whole_303 ⟨Nat.zero_le _, Nat.zero_le _⟩) [0, 1, 2, 3] [4, 5] [2, 3, 4, 5, 0, 1] rfl rfl (by decide) (by decide) (by decide) rfl ?_
          refine s_bipush C (pc := 306) (v := (-4)) dL_whole_306 (by decide) ?_
          refine s_icmp_ne C (pc := 308) (tgt := 427) dL_whole_308 (by decide) (fun h => absurd (by decide) h) (fun c308 => ?_)
          refine s_aload_n C (pc := 311) dL_whole_311 rfl 3 rfl ?_
          refine s_calliX C (pc := 312) (wr := []) (wc' := (fun u312_3 : GD => [(b, .inr (2, [.ref h, .ref tr, .ref hi, .ref sl, .ref sf, .ref hg, .int hc])), (h, .inr (1, [.ref hp, .ref hq, .int (nI n), .int (nI w), .int f, .int ll])), (hp, .inl (X.2.1, 4, .inl (P))), (hq, .inl (X.2.1, 4, .inl (Q))), (hg, .inr (0, [.ref hgn, .int (nI u312_3.1), .long u312_3.2.2.1, .long u312_3.2.2.2.1, .long u312_3.2.2.2.2])), (hgn, .inl (X.2.1, 144, .inl (u312_3.2.1)))])) (wn := (fun u312_3 : GD => [(b, .inr (2, [.ref h, .ref tr, .ref hi, .ref sl, .ref sf, .ref hg, .int hc])), (h, .inr (1, [.ref hp, .ref hq, .int (nI n), .int (nI w), .int f, .int ll])), (hp, .inl (X.2.1, 4, .inl (P))), (hq, .inl (X.2.1, 4, .inl (Q))), (hg, .inr (0, [.ref hgn, .int (nI u312_3.1), .long u312_3.2.2.1, .long u312_3.2.2.2.1, .long u312_3.2.2.2.2])), (hgn, .inl (X.2.1, 144, .inl (u312_3.2.1)))])) (r_V C (As := []) (rest := []) (kW_all l X b tr hi sl sf hc h hp hq n P Q w f ll hg hgn u275_2.1 u275_2.2.1 u275_2.2.2.1 u275_2.2.2.2.1 u275_2.2.2.2.2 (by first | assumption | omega | decide) (by first | assumption | omega | decide) (by first | assumption | omega | decide) (by first | assumption | omega | decide)) (cwV 0 C.ts gL_whole_X2_allBands rfl rfl rfl (by decide +kernel) ⟨Nat.le_of_ble_eq_true rfl, Nat.le_of_ble_eq_true rfl⟩) (q0 := 0) rfl rfl [0, 1, 2, 3, 4, 5] (by decide) rfl rfl (Nat.le_of_ble_eq_true rfl) rfl dL_whole_312 ⟨Nat.zero_le _, Nat.zero_le _⟩) [0, 1, 2, 3, 4, 5] [] [0, 1, 2, 3, 4, 5] rfl rfl (by decide) (by decide) (by decide) (fun _ => rfl) (fun u312_3 _ => ?_)
          refine s_iload_n C (pc := 315) dL_whole_315 rfl 6 rfl ?_
          refine s_icmp_ne C (pc := 316) (tgt := 427) dL_whole_316 (by decide) (fun h => absurd (congrArg nI (show (suI P Q w f ll n n) = (suI P Q w f ll n n) by omega)) h) (fun c316 => ?_)
          refine s_aload_n C (pc := 319) dL_whole_319 rfl 3 rfl ?_
          refine s_calliX C (pc := 320) (wr := []) (wc' := (fun u320_4 : GD => [(b, .inr (2, [.ref h, .ref tr, .ref hi, .ref sl, .ref sf, .ref hg, .int hc])), (h, .inr (1, [.ref hp, .ref hq, .int (nI n), .int (nI w), .int f, .int ll])), (hp, .inl (X.2.1, 4, .inl (P))), (hq, .inl (X.2.1, 4, .inl (Q))), (hg, .inr (0, [.ref hgn, .int (nI u320_4.1), .long u320_4.2.2.1, .long u320_4.2.2.2.1, .long u320_4.2.2.2.2])), (hgn, .inl (X.2.1, 144, .inl (u320_4.2.1)))])) (wn := (fun u320_4 : GD => [(b, .inr (2, [.ref h, .ref tr, .ref hi, .ref sl, .ref sf, .ref hg, .int hc])), (h, .inr (1, [.ref hp, .ref hq, .int (nI n), .int (nI w), .int f, .int ll])), (hp, .inl (X.2.1, 4, .inl (P))), (hq, .inl (X.2.1, 4, .inl (Q))), (hg, .inr (0, [.ref hgn, .int (nI u320_4.1), .long u320_4.2.2.1, .long u320_4.2.2.2.1, .long u320_4.2.2.2.2])), (hgn, .inl (X.2.1, 144, .inl (u320_4.2.1)))])) (r_V C (As := []) (rest := []) (kX2_worstPair l X b tr hi sl sf hc h hp hq n P Q w f ll hg hgn u312_3.1 u312_3.2.1 u312_3.2.2.1 u312_3.2.2.2.1 u312_3.2.2.2.2 (by first | assumption | omega | decide) (by first | assumption | omega | decide)) (cwV 0 C.ts gL_whole_X2_worstPair rfl rfl rfl (by decide +kernel) ⟨Nat.le_of_ble_eq_true rfl, Nat.le_of_ble_eq_true rfl⟩) (q0 := 0) rfl rfl [0, 1, 2, 3, 4, 5] (by decide) rfl rfl (Nat.le_of_ble_eq_true rfl) rfl dL_whole_320 ⟨Nat.zero_le _, Nat.zero_le _⟩) [0, 1, 2, 3, 4, 5] [] [0, 1, 2, 3, 4, 5] rfl rfl (by decide) (by decide) (by decide) (fun _ => rfl) (fun u320_4 _ => ?_)
          refine s_iload C (pc := 323) dL_whole_323 8 rfl ?_
          refine s_icmp_ne C (pc := 325) (tgt := 427) dL_whole_325 (by decide) (fun h => absurd (rfl) h) (fun c325 => ?_)
          refine s_iload C (pc := 328) dL_whole_328 2 rfl ?_
          refine s_bipush C (pc := 330) (v := (-4)) dL_whole_330 (by decide) ?_
          refine s_icmp_ne C (pc := 332) (tgt := 339) dL_whole_332 (by decide) (fun h => absurd (by decide) h) (fun c332 => ?_)
          refine s_iconst C (pc := 335) (v := 1) dL_whole_335 (by decide) ?_
          refine s_goto C (pc := 336) (tgt := 340) dL_whole_336 (by decide) ?_
          refine s_iload C (pc := 340) dL_whole_340 0 rfl ?_
          refine s_icmp_ne C (pc := 342) (tgt := 427) dL_whole_342 (by decide) (fun h => absurd (by decide) h) (fun c342 => ?_)
          refine s_iload C (pc := 345) dL_whole_345 1 rfl ?_
          refine s_bipush C (pc := 347) (v := (-4)) dL_whole_347 (by decide) ?_
          refine s_icmp_ne C (pc := 349) (tgt := 356) dL_whole_349 (by decide) (fun h => absurd (by decide) h) (fun c349 => ?_)
          refine s_iconst C (pc := 352) (v := 1) dL_whole_352 (by decide) ?_
          refine s_goto C (pc := 353) (tgt := 357) dL_whole_353 (by decide) ?_
          refine s_iload C (pc := 357) dL_whole_357 0 rfl ?_
          refine s_icmp_ne C (pc := 359) (tgt := 427) dL_whole_359 (by decide) (fun h => absurd (by decide) h) (fun c359 => ?_)
          refine s_iload C (pc := 362) dL_whole_362 0 rfl ?_
          refine s_if_ne C (pc := 364) (tgt := 395) dL_whole_364 (by decide) (fun c364 => ?_) (fun h => absurd h (by decide))
          refine s_aload_n C (pc := 395) dL_whole_395 rfl 3 rfl ?_
          refine s_iload_n C (pc := 396) dL_whole_396 rfl 5 rfl ?_
          refine s_calli C (pc := 397) (wr := [(hg, .inr (0, [.ref hgn, .int (nI u320_4.1), .long u320_4.2.2.1, .long u320_4.2.2.2.1, .long u320_4.2.2.2.2])), (hgn, .inl (X.2.1, 144, .inl (u320_4.2.1)))]) (wc' := [(b, .inr (2, [.ref h, .ref tr, .ref hi, .ref sl, .ref sf, .ref hg, .int hc])), (h, .inr (1, [.ref hp, .ref hq, .int (nI n), .int (nI w), .int f, .int ll])), (hp, .inl (X.2.1, 4, .inl (P))), (hq, .inl (X.2.1, 4, .inl (Q)))]) (wn := [(b, .inr (2, [.ref h, .ref tr, .ref hi, .ref sl, .ref sf, .ref hg, .int hc])), (h, .inr (1, [.ref hp, .ref hq, .int (nI n), .int (nI w), .int f, .int ll])), (hp, .inl (X.2.1, 4, .inl (P))), (hq, .inl (X.2.1, 4, .inl (Q))), (hg, .inr (0, [.ref hgn, .int (nI u320_4.1), .long u320_4.2.2.1, .long u320_4.2.2.2.1, .long u320_4.2.2.2.2])), (hgn, .inl (X.2.1, 144, .inl (u320_4.2.1)))]) (r_V C (As := [.int (nI n)]) (rest := []) (kX2_cellP_bad l X b tr hi sl sf hg hc h hp hq n P Q (nI w) f ll (nI n) (wh_hv n) (by first | assumption | omega | decide)) (cwV 1 C.ts gL_whole_X2_cellP rfl rfl rfl (by decide +kernel) ⟨Nat.le_of_ble_eq_true rfl, Nat.le_of_ble_eq_true rfl⟩) (q0 := 0) rfl rfl [0, 1, 2, 3] (by decide) rfl rfl (Nat.le_of_ble_eq_true rfl) rfl dL_whole_397 ⟨Nat.zero_le _, Nat.zero_le _⟩) [0, 1, 2, 3] [4, 5] [2, 3, 4, 5, 0, 1] rfl rfl (by decide) (by decide) (by decide) rfl ?_
          refine s_iconst C (pc := 400) (v := (-1)) dL_whole_400 (by decide) ?_
          refine s_icmp_ne C (pc := 401) (tgt := 427) dL_whole_401 (by decide) (fun h => absurd (by decide) h) (fun c401 => ?_)
          refine s_aload_n C (pc := 404) dL_whole_404 rfl 3 rfl ?_
          refine s_iload_n C (pc := 405) dL_whole_405 rfl 5 rfl ?_
          refine s_calli C (pc := 406) (wr := [(hg, .inr (0, [.ref hgn, .int (nI u320_4.1), .long u320_4.2.2.1, .long u320_4.2.2.2.1, .long u320_4.2.2.2.2])), (hgn, .inl (X.2.1, 144, .inl (u320_4.2.1)))]) (wc' := [(b, .inr (2, [.ref h, .ref tr, .ref hi, .ref sl, .ref sf, .ref hg, .int hc])), (h, .inr (1, [.ref hp, .ref hq, .int (nI n), .int (nI w), .int f, .int ll])), (hp, .inl (X.2.1, 4, .inl (P))), (hq, .inl (X.2.1, 4, .inl (Q)))]) (wn := [(b, .inr (2, [.ref h, .ref tr, .ref hi, .ref sl, .ref sf, .ref hg, .int hc])), (h, .inr (1, [.ref hp, .ref hq, .int (nI n), .int (nI w), .int f, .int ll])), (hp, .inl (X.2.1, 4, .inl (P))), (hq, .inl (X.2.1, 4, .inl (Q))), (hg, .inr (0, [.ref hgn, .int (nI u320_4.1), .long u320_4.2.2.1, .long u320_4.2.2.2.1, .long u320_4.2.2.2.2])), (hgn, .inl (X.2.1, 144, .inl (u320_4.2.1)))]) (r_V C (As := [.int (nI n)]) (rest := []) (kX2_tile_bad l X b tr hi sl sf hg hc h hp hq n P Q (nI w) f ll (nI n) (wh_hv n) (by first | assumption | omega | decide)) (cwV 1 C.ts gL_whole_X2_tile rfl rfl rfl (by decide +kernel) ⟨Nat.le_of_ble_eq_true rfl, Nat.le_of_ble_eq_true rfl⟩) (q0 := 0) rfl rfl [0, 1, 2, 3] (by decide) rfl rfl (Nat.le_of_ble_eq_true rfl) rfl dL_whole_406 ⟨Nat.zero_le _, Nat.zero_le _⟩) [0, 1, 2, 3] [4, 5] [2, 3, 4, 5, 0, 1] rfl rfl (by decide) (by decide) (by decide) rfl ?_
          refine s_iconst C (pc := 409) (v := (-1)) dL_whole_409 (by decide) ?_
          refine s_icmp_ne C (pc := 410) (tgt := 427) dL_whole_410 (by decide) (fun h => absurd (by decide) h) (fun c410 => ?_)
          refine s_aload_n C (pc := 413) dL_whole_413 rfl 3 rfl ?_
          refine s_iconst C (pc := 414) (v := 0) dL_whole_414 (by decide) ?_
          refine s_iload_n C (pc := 415) dL_whole_415 rfl 5 rfl ?_
          refine s_calli C (pc := 416) (wr := [(hg, .inr (0, [.ref hgn, .int (nI u320_4.1), .long u320_4.2.2.1, .long u320_4.2.2.2.1, .long u320_4.2.2.2.2])), (hgn, .inl (X.2.1, 144, .inl (u320_4.2.1)))]) (wc' := [(b, .inr (2, [.ref h, .ref tr, .ref hi, .ref sl, .ref sf, .ref hg, .int hc])), (h, .inr (1, [.ref hp, .ref hq, .int (nI n), .int (nI w), .int f, .int ll])), (hp, .inl (X.2.1, 4, .inl (P))), (hq, .inl (X.2.1, 4, .inl (Q)))]) (wn := [(b, .inr (2, [.ref h, .ref tr, .ref hi, .ref sl, .ref sf, .ref hg, .int hc])), (h, .inr (1, [.ref hp, .ref hq, .int (nI n), .int (nI w), .int f, .int ll])), (hp, .inl (X.2.1, 4, .inl (P))), (hq, .inl (X.2.1, 4, .inl (Q))), (hg, .inr (0, [.ref hgn, .int (nI u320_4.1), .long u320_4.2.2.1, .long u320_4.2.2.2.1, .long u320_4.2.2.2.2])), (hgn, .inl (X.2.1, 144, .inl (u320_4.2.1)))]) (r_V C (As := [.int 0, .int (nI n)]) (rest := []) (kX2_bands_bad l X b tr hi sl sf hg hc h hp hq n P Q (nI w) f ll 0 (nI n) (fun q => wh_hv n q.2.1) (by first | assumption | omega | decide)) (cwV 2 C.ts gL_whole_X2_bands rfl rfl rfl (by decide +kernel) ⟨Nat.le_of_ble_eq_true rfl, Nat.le_of_ble_eq_true rfl⟩) (q0 := 0) rfl rfl [0, 1, 2, 3] (by decide) rfl rfl (Nat.le_of_ble_eq_true rfl) rfl dL_whole_416 ⟨Nat.zero_le _, Nat.zero_le _⟩) [0, 1, 2, 3] [4, 5] [2, 3, 4, 5, 0, 1] rfl rfl (by decide) (by decide) (by decide) rfl ?_
          refine s_iconst C (pc := 419) (v := (-1)) dL_whole_419 (by decide) ?_
          refine s_icmp_ne C (pc := 420) (tgt := 427) dL_whole_420 (by decide) (fun h => absurd (by decide) h) (fun c420 => ?_)
          refine s_iconst C (pc := 423) (v := 1) dL_whole_423 (by decide) ?_
          refine s_goto C (pc := 424) (tgt := 428) dL_whole_424 (by decide) ?_
          exact s_zretX C (pc := 428) hr hlk ((u320_4.1, u320_4.2.1, u320_4.2.2.1, u320_4.2.2.2.1, u320_4.2.2.2.2)) trivial [0, 1, 2, 3, 4, 5] (by decide) (rfl) rfl (rfl) dL_whole_428
        · skip
          refine s_aload_n C (pc := 268) dL_whole_268 rfl 0 rfl ?_
          obtain ⟨wx, wy, ⟨hx3, hx4, hxl⟩, ⟨hy1, hy2, hyl⟩, hx1, hx2⟩ := (worst_n hV hL hw hn).2 hz
          refine s_calliX C (pc := 269) (wr := []) (wc' := (fun u269_5 : GD => [(b, .inr (2, [.ref h, .ref tr, .ref hi, .ref sl, .ref sf, .ref hg, .int hc])), (h, .inr (1, [.ref hp, .ref hq, .int (nI n), .int (nI w), .int f, .int ll])), (hp, .inl (X.2.1, 4, .inl (P))), (hq, .inl (X.2.1, 4, .inl (Q))), (hg, .inr (0, [.ref hgn, .int (nI u269_5.1), .long u269_5.2.2.1, .long u269_5.2.2.2.1, .long u269_5.2.2.2.2])), (hgn, .inl (X.2.1, 144, .inl (u269_5.2.1)))])) (wn := (fun u269_5 : GD => [(b, .inr (2, [.ref h, .ref tr, .ref hi, .ref sl, .ref sf, .ref hg, .int hc])), (h, .inr (1, [.ref hp, .ref hq, .int (nI n), .int (nI w), .int f, .int ll])), (hp, .inl (X.2.1, 4, .inl (P))), (hq, .inl (X.2.1, 4, .inl (Q))), (hg, .inr (0, [.ref hgn, .int (nI u269_5.1), .long u269_5.2.2.1, .long u269_5.2.2.2.1, .long u269_5.2.2.2.2])), (hgn, .inl (X.2.1, 144, .inl (u269_5.2.1)))])) (r_V C (As := []) (rest := []) (kW_wqN l X b tr hi sl sf hc h hp hq n P Q w f ll hg hgn u.1 u.2.1 u.2.2.1 u.2.2.2.1 u.2.2.2.2 wx wy (by first | assumption | omega | decide) (by first | assumption | omega | decide) (by first | assumption | omega | decide) (by first | assumption | omega | decide) (by first | assumption | omega | decide) (by first | assumption | omega | decide)) (cwV 0 C.ts gL_whole_X2_worstPeriod rfl rfl rfl (by decide +kernel) ⟨Nat.le_of_ble_eq_true rfl, Nat.le_of_ble_eq_true rfl⟩) (q0 := 0) rfl rfl [0, 1, 2, 3, 4, 5] (by decide) rfl rfl (Nat.le_of_ble_eq_true rfl) rfl dL_whole_269 ⟨Nat.zero_le _, Nat.zero_le _⟩) [0, 1, 2, 3, 4, 5] [] [0, 1, 2, 3, 4, 5] rfl rfl (by decide) (by decide) (by decide) (fun _ => rfl) (fun u269_5 _ => ?_)
          refine s_istore C (pc := 272) (ls' := [(7, .int (nI wx)), (0, .ref b), (1, .int (nI w)), (2, .int (nI n)), (3, .int (nI (suI P Q w f ll n n))), (4, .int ((wqO P Q w f ll n n).2)), (5, .int ((wqO P Q w f ll n n).1)), (6, .int (mtF P Q n n))]) dL_whole_272 (by decide) rfl ?_
          refine s_aload_n C (pc := 274) dL_whole_274 rfl 1 rfl ?_
          refine s_calliX C (pc := 275) (wr := []) (wc' := (fun u275_6 : GD => [(b, .inr (2, [.ref h, .ref tr, .ref hi, .ref sl, .ref sf, .ref hg, .int hc])), (h, .inr (1, [.ref hp, .ref hq, .int (nI n), .int (nI w), .int f, .int ll])), (hp, .inl (X.2.1, 4, .inl (P))), (hq, .inl (X.2.1, 4, .inl (Q))), (hg, .inr (0, [.ref hgn, .int (nI u275_6.1), .long u275_6.2.2.1, .long u275_6.2.2.2.1, .long u275_6.2.2.2.2])), (hgn, .inl (X.2.1, 144, .inl (u275_6.2.1)))])) (wn := (fun u275_6 : GD => [(b, .inr (2, [.ref h, .ref tr, .ref hi, .ref sl, .ref sf, .ref hg, .int hc])), (h, .inr (1, [.ref hp, .ref hq, .int (nI n), .int (nI w), .int f, .int ll])), (hp, .inl (X.2.1, 4, .inl (P))), (hq, .inl (X.2.1, 4, .inl (Q))), (hg, .inr (0, [.ref hgn, .int (nI u275_6.1), .long u275_6.2.2.1, .long u275_6.2.2.2.1, .long u275_6.2.2.2.2])), (hgn, .inl (X.2.1, 144, .inl (u275_6.2.1)))])) (r_V C (As := []) (rest := []) (kW_wpN l X b tr hi sl sf hc h hp hq n P Q w f ll hg hgn u269_5.1 u269_5.2.1 u269_5.2.2.1 u269_5.2.2.2.1 u269_5.2.2.2.2 wx wy (by first | assumption | omega | decide) (by first | assumption | omega | decide) (by first | assumption | omega | decide) (by first | assumption | omega | decide) (by first | assumption | omega | decide) (by first | assumption | omega | decide)) (cwV 0 C.ts gL_whole_X2_worstPlates rfl rfl rfl (by decide +kernel) ⟨Nat.le_of_ble_eq_true rfl, Nat.le_of_ble_eq_true rfl⟩) (q0 := 0) rfl rfl [0, 1, 2, 3, 4, 5] (by decide) rfl rfl (Nat.le_of_ble_eq_true rfl) rfl dL_whole_275 ⟨Nat.zero_le _, Nat.zero_le _⟩) [0, 1, 2, 3, 4, 5] [] [0, 1, 2, 3, 4, 5] rfl rfl (by decide) (by decide) (by decide) (fun _ => rfl) (fun u275_6 _ => ?_)
          refine s_istore C (pc := 278) (ls' := [(8, .int (nI wy)), (7, .int (nI wx)), (0, .ref b), (1, .int (nI w)), (2, .int (nI n)), (3, .int (nI (suI P Q w f ll n n))), (4, .int ((wqO P Q w f ll n n).2)), (5, .int ((wqO P Q w f ll n n).1)), (6, .int (mtF P Q n n))]) dL_whole_278 (by decide) rfl ?_
          refine s_iload_n C (pc := 280) dL_whole_280 rfl 5 rfl ?_
          refine s_if_ne C (pc := 281) (tgt := 288) dL_whole_281 (by decide) (fun c281 => ?_) (fun h => absurd h (pr_n0 hz hsu))
          refine s_iconst C (pc := 288) (v := 0) dL_whole_288 (by decide) ?_
          refine s_istore C (pc := 289) (ls' := [(9, .int 0), (8, .int (nI wy)), (7, .int (nI wx)), (0, .ref b), (1, .int (nI w)), (2, .int (nI n)), (3, .int (nI (suI P Q w f ll n n))), (4, .int ((wqO P Q w f ll n n).2)), (5, .int ((wqO P Q w f ll n n).1)), (6, .int (mtF P Q n n))]) dL_whole_289 (by decide) rfl ?_
          refine s_iload C (pc := 291) dL_whole_291 9 rfl ?_
          refine s_iconst C (pc := 293) (v := 1) dL_whole_293 (by decide) ?_
          refine s_iload_n C (pc := 294) dL_whole_294 rfl 5 rfl ?_
          refine s_ishl C (pc := 295) dL_whole_295 ?_
          refine s_iconst C (pc := 296) (v := 1) dL_whole_296 (by decide) ?_
          refine s_isub C (pc := 297) dL_whole_297 ?_
          refine s_icmp_ne C (pc := 298) (tgt := 427) dL_whole_298 (by decide) (fun h => absurd (hAG.2.2.2) h) (fun c298 => ?_)
          refine s_aload_n C (pc := 301) dL_whole_301 rfl 3 rfl ?_
          refine s_iload_n C (pc := 302) dL_whole_302 rfl 5 rfl ?_
          refine s_calli C (pc := 303) (wr := [(hg, .inr (0, [.ref hgn, .int (nI u275_6.1), .long u275_6.2.2.1, .long u275_6.2.2.2.1, .long u275_6.2.2.2.2])), (hgn, .inl (X.2.1, 144, .inl (u275_6.2.1)))]) (wc' := [(b, .inr (2, [.ref h, .ref tr, .ref hi, .ref sl, .ref sf, .ref hg, .int hc])), (h, .inr (1, [.ref hp, .ref hq, .int (nI n), .int (nI w), .int f, .int ll])), (hp, .inl (X.2.1, 4, .inl (P))), (hq, .inl (X.2.1, 4, .inl (Q)))]) (wn := [(b, .inr (2, [.ref h, .ref tr, .ref hi, .ref sl, .ref sf, .ref hg, .int hc])), (h, .inr (1, [.ref hp, .ref hq, .int (nI n), .int (nI w), .int f, .int ll])), (hp, .inl (X.2.1, 4, .inl (P))), (hq, .inl (X.2.1, 4, .inl (Q))), (hg, .inr (0, [.ref hgn, .int (nI u275_6.1), .long u275_6.2.2.1, .long u275_6.2.2.2.1, .long u275_6.2.2.2.2])), (hgn, .inl (X.2.1, 144, .inl (u275_6.2.1)))]) (r_V C (As := [.int (nI n)]) (rest := []) (kW_angE l X b tr hi sl sf hg hc h hp hq n P Q (nI w) f ll (by first | assumption | omega | decide) (by first | assumption | omega | decide)) (cwV 1 C.ts gL_whole_X2_byAngle rfl rfl rfl (by decide +kernel) ⟨Nat.le_of_ble_eq_true rfl, Nat.le_of_ble_eq_true rfl⟩) (q0 := 0) rfl rfl [0, 1, 2, 3] (by decide) rfl rfl (Nat.le_of_ble_eq_true rfl) rfl dL_whole_303 ⟨Nat.zero_le _, Nat.zero_le _⟩) [0, 1, 2, 3] [4, 5] [2, 3, 4, 5, 0, 1] rfl rfl (by decide) (by decide) (by decide) rfl ?_
          refine s_bipush C (pc := 306) (v := (-4)) dL_whole_306 (by decide) ?_
          refine s_icmp_ne C (pc := 308) (tgt := 427) dL_whole_308 (by decide) (fun h => absurd (by decide) h) (fun c308 => ?_)
          refine s_aload_n C (pc := 311) dL_whole_311 rfl 3 rfl ?_
          refine s_calliX C (pc := 312) (wr := []) (wc' := (fun u312_7 : GD => [(b, .inr (2, [.ref h, .ref tr, .ref hi, .ref sl, .ref sf, .ref hg, .int hc])), (h, .inr (1, [.ref hp, .ref hq, .int (nI n), .int (nI w), .int f, .int ll])), (hp, .inl (X.2.1, 4, .inl (P))), (hq, .inl (X.2.1, 4, .inl (Q))), (hg, .inr (0, [.ref hgn, .int (nI u312_7.1), .long u312_7.2.2.1, .long u312_7.2.2.2.1, .long u312_7.2.2.2.2])), (hgn, .inl (X.2.1, 144, .inl (u312_7.2.1)))])) (wn := (fun u312_7 : GD => [(b, .inr (2, [.ref h, .ref tr, .ref hi, .ref sl, .ref sf, .ref hg, .int hc])), (h, .inr (1, [.ref hp, .ref hq, .int (nI n), .int (nI w), .int f, .int ll])), (hp, .inl (X.2.1, 4, .inl (P))), (hq, .inl (X.2.1, 4, .inl (Q))), (hg, .inr (0, [.ref hgn, .int (nI u312_7.1), .long u312_7.2.2.1, .long u312_7.2.2.2.1, .long u312_7.2.2.2.2])), (hgn, .inl (X.2.1, 144, .inl (u312_7.2.1)))])) (r_V C (As := []) (rest := []) (kW_all l X b tr hi sl sf hc h hp hq n P Q w f ll hg hgn u275_6.1 u275_6.2.1 u275_6.2.2.1 u275_6.2.2.2.1 u275_6.2.2.2.2 (by first | assumption | omega | decide) (by first | assumption | omega | decide) (by first | assumption | omega | decide) (by first | assumption | omega | decide)) (cwV 0 C.ts gL_whole_X2_allBands rfl rfl rfl (by decide +kernel) ⟨Nat.le_of_ble_eq_true rfl, Nat.le_of_ble_eq_true rfl⟩) (q0 := 0) rfl rfl [0, 1, 2, 3, 4, 5] (by decide) rfl rfl (Nat.le_of_ble_eq_true rfl) rfl dL_whole_312 ⟨Nat.zero_le _, Nat.zero_le _⟩) [0, 1, 2, 3, 4, 5] [] [0, 1, 2, 3, 4, 5] rfl rfl (by decide) (by decide) (by decide) (fun _ => rfl) (fun u312_7 _ => ?_)
          refine s_iload_n C (pc := 315) dL_whole_315 rfl 6 rfl ?_
          refine s_icmp_ne C (pc := 316) (tgt := 427) dL_whole_316 (by decide) (fun h => absurd (congrArg nI (show (suI P Q w f ll n n) = (suI P Q w f ll n n) by omega)) h) (fun c316 => ?_)
          refine s_aload_n C (pc := 319) dL_whole_319 rfl 3 rfl ?_
          refine s_calliX C (pc := 320) (wr := []) (wc' := (fun u320_8 : GD => [(b, .inr (2, [.ref h, .ref tr, .ref hi, .ref sl, .ref sf, .ref hg, .int hc])), (h, .inr (1, [.ref hp, .ref hq, .int (nI n), .int (nI w), .int f, .int ll])), (hp, .inl (X.2.1, 4, .inl (P))), (hq, .inl (X.2.1, 4, .inl (Q))), (hg, .inr (0, [.ref hgn, .int (nI u320_8.1), .long u320_8.2.2.1, .long u320_8.2.2.2.1, .long u320_8.2.2.2.2])), (hgn, .inl (X.2.1, 144, .inl (u320_8.2.1)))])) (wn := (fun u320_8 : GD => [(b, .inr (2, [.ref h, .ref tr, .ref hi, .ref sl, .ref sf, .ref hg, .int hc])), (h, .inr (1, [.ref hp, .ref hq, .int (nI n), .int (nI w), .int f, .int ll])), (hp, .inl (X.2.1, 4, .inl (P))), (hq, .inl (X.2.1, 4, .inl (Q))), (hg, .inr (0, [.ref hgn, .int (nI u320_8.1), .long u320_8.2.2.1, .long u320_8.2.2.2.1, .long u320_8.2.2.2.2])), (hgn, .inl (X.2.1, 144, .inl (u320_8.2.1)))])) (r_V C (As := []) (rest := []) (kX2_worstPair l X b tr hi sl sf hc h hp hq n P Q w f ll hg hgn u312_7.1 u312_7.2.1 u312_7.2.2.1 u312_7.2.2.2.1 u312_7.2.2.2.2 (by first | assumption | omega | decide) (by first | assumption | omega | decide)) (cwV 0 C.ts gL_whole_X2_worstPair rfl rfl rfl (by decide +kernel) ⟨Nat.le_of_ble_eq_true rfl, Nat.le_of_ble_eq_true rfl⟩) (q0 := 0) rfl rfl [0, 1, 2, 3, 4, 5] (by decide) rfl rfl (Nat.le_of_ble_eq_true rfl) rfl dL_whole_320 ⟨Nat.zero_le _, Nat.zero_le _⟩) [0, 1, 2, 3, 4, 5] [] [0, 1, 2, 3, 4, 5] rfl rfl (by decide) (by decide) (by decide) (fun _ => rfl) (fun u320_8 _ => ?_)
          refine s_iload C (pc := 323) dL_whole_323 8 rfl ?_
          refine s_icmp_ne C (pc := 325) (tgt := 427) dL_whole_325 (by decide) (fun h => absurd (rfl) h) (fun c325 => ?_)
          refine s_iload C (pc := 328) dL_whole_328 2 rfl ?_
          refine s_bipush C (pc := 330) (v := (-4)) dL_whole_330 (by decide) ?_
          refine s_icmp_ne C (pc := 332) (tgt := 339) dL_whole_332 (by decide) (fun c332 => ?_) (fun h => absurd h (pr_nn4 (n := wx) (by omega)))
          refine s_iconst C (pc := 339) (v := 0) dL_whole_339 (by decide) ?_
          refine s_iload C (pc := 340) dL_whole_340 0 rfl ?_
          refine s_icmp_ne C (pc := 342) (tgt := 427) dL_whole_342 (by decide) (fun h => absurd (by decide) h) (fun c342 => ?_)
          refine s_iload C (pc := 345) dL_whole_345 1 rfl ?_
          refine s_bipush C (pc := 347) (v := (-4)) dL_whole_347 (by decide) ?_
          refine s_icmp_ne C (pc := 349) (tgt := 356) dL_whole_349 (by decide) (fun c349 => ?_) (fun h => absurd h (pr_nn4 (n := wy) (by omega)))
          refine s_iconst C (pc := 356) (v := 0) dL_whole_356 (by decide) ?_
          refine s_iload C (pc := 357) dL_whole_357 0 rfl ?_
          refine s_icmp_ne C (pc := 359) (tgt := 427) dL_whole_359 (by decide) (fun h => absurd (by decide) h) (fun c359 => ?_)
          refine s_iload C (pc := 362) dL_whole_362 0 rfl ?_
          refine s_if_ne C (pc := 364) (tgt := 395) dL_whole_364 (by decide) (fun h => absurd (by decide) h) (fun c364 => ?_)
          refine s_iload C (pc := 367) dL_whole_367 2 rfl ?_
          refine s_aload_n C (pc := 369) dL_whole_369 rfl 3 rfl ?_
          refine s_calli C (pc := 370) (wr := [(hg, .inr (0, [.ref hgn, .int (nI u320_8.1), .long u320_8.2.2.1, .long u320_8.2.2.2.1, .long u320_8.2.2.2.2])), (hgn, .inl (X.2.1, 144, .inl (u320_8.2.1)))]) (wc' := [(b, .inr (2, [.ref h, .ref tr, .ref hi, .ref sl, .ref sf, .ref hg, .int hc])), (h, .inr (1, [.ref hp, .ref hq, .int (nI n), .int (nI w), .int f, .int ll])), (hp, .inl (X.2.1, 4, .inl (P))), (hq, .inl (X.2.1, 4, .inl (Q)))]) (wn := [(b, .inr (2, [.ref h, .ref tr, .ref hi, .ref sl, .ref sf, .ref hg, .int hc])), (h, .inr (1, [.ref hp, .ref hq, .int (nI n), .int (nI w), .int f, .int ll])), (hp, .inl (X.2.1, 4, .inl (P))), (hq, .inl (X.2.1, 4, .inl (Q))), (hg, .inr (0, [.ref hgn, .int (nI u320_8.1), .long u320_8.2.2.1, .long u320_8.2.2.2.1, .long u320_8.2.2.2.2])), (hgn, .inl (X.2.1, 144, .inl (u320_8.2.1)))]) (r_V C (As := []) (rest := [.int (nI wx)]) (kX2_longLimit l X b tr hi sl sf hg hc h hp hq n P Q (nI w) f ll ) (cwV 0 C.ts gL_whole_X2_longLimit rfl rfl rfl (by decide +kernel) ⟨Nat.le_of_ble_eq_true rfl, Nat.le_of_ble_eq_true rfl⟩) (q0 := 0) rfl rfl [0, 1, 2, 3] (by decide) rfl rfl (Nat.le_of_ble_eq_true rfl) rfl dL_whole_370 ⟨Nat.zero_le _, Nat.zero_le _⟩) [0, 1, 2, 3] [4, 5] [2, 3, 4, 5, 0, 1] rfl rfl (by decide) (by decide) (by decide) rfl ?_
          refine s_icmp_ge C (pc := 373) (tgt := 427) dL_whole_373 (by decide) (fun h => absurd h (Int32.not_le.mpr hxl)) (fun c373 => ?_)
          refine s_iload C (pc := 376) dL_whole_376 2 rfl ?_
          refine s_if_le C (pc := 378) (tgt := 427) dL_whole_378 (by decide) (fun h => absurd h (fun h2 => absurd (nat_le (a := wx) (b := 0) (by omega) (by omega) h2) (by omega))) (fun c378 => ?_)
          refine s_iload C (pc := 381) dL_whole_381 1 rfl ?_
          refine s_iconst C (pc := 383) (v := 2) dL_whole_383 (by decide) ?_
          refine s_icmp_le C (pc := 384) (tgt := 427) dL_whole_384 (by decide) (fun h => absurd h (fun h2 => absurd (nat_le (a := wy) (b := 2) (by omega) (by omega) h2) (by omega))) (fun c384 => ?_)
          refine s_iload C (pc := 387) dL_whole_387 1 rfl ?_
          refine s_iconst C (pc := 389) (v := 1) dL_whole_389 (by decide) ?_
          refine s_iload_n C (pc := 390) dL_whole_390 rfl 5 rfl ?_
          refine s_ishl C (pc := 391) dL_whole_391 ?_
          refine s_icmp_ge C (pc := 392) (tgt := 427) dL_whole_392 (by decide) (fun h => absurd h (Int32.not_le.mpr hyl)) (fun c392 => ?_)
          refine s_aload_n C (pc := 395) dL_whole_395 rfl 3 rfl ?_
          refine s_iload_n C (pc := 396) dL_whole_396 rfl 5 rfl ?_
          refine s_calli C (pc := 397) (wr := [(hg, .inr (0, [.ref hgn, .int (nI u320_8.1), .long u320_8.2.2.1, .long u320_8.2.2.2.1, .long u320_8.2.2.2.2])), (hgn, .inl (X.2.1, 144, .inl (u320_8.2.1)))]) (wc' := [(b, .inr (2, [.ref h, .ref tr, .ref hi, .ref sl, .ref sf, .ref hg, .int hc])), (h, .inr (1, [.ref hp, .ref hq, .int (nI n), .int (nI w), .int f, .int ll])), (hp, .inl (X.2.1, 4, .inl (P))), (hq, .inl (X.2.1, 4, .inl (Q)))]) (wn := [(b, .inr (2, [.ref h, .ref tr, .ref hi, .ref sl, .ref sf, .ref hg, .int hc])), (h, .inr (1, [.ref hp, .ref hq, .int (nI n), .int (nI w), .int f, .int ll])), (hp, .inl (X.2.1, 4, .inl (P))), (hq, .inl (X.2.1, 4, .inl (Q))), (hg, .inr (0, [.ref hgn, .int (nI u320_8.1), .long u320_8.2.2.1, .long u320_8.2.2.2.1, .long u320_8.2.2.2.2])), (hgn, .inl (X.2.1, 144, .inl (u320_8.2.1)))]) (r_V C (As := [.int (nI n)]) (rest := []) (kX2_cellP_bad l X b tr hi sl sf hg hc h hp hq n P Q (nI w) f ll (nI n) (wh_hv n) (by first | assumption | omega | decide)) (cwV 1 C.ts gL_whole_X2_cellP rfl rfl rfl (by decide +kernel) ⟨Nat.le_of_ble_eq_true rfl, Nat.le_of_ble_eq_true rfl⟩) (q0 := 0) rfl rfl [0, 1, 2, 3] (by decide) rfl rfl (Nat.le_of_ble_eq_true rfl) rfl dL_whole_397 ⟨Nat.zero_le _, Nat.zero_le _⟩) [0, 1, 2, 3] [4, 5] [2, 3, 4, 5, 0, 1] rfl rfl (by decide) (by decide) (by decide) rfl ?_
          refine s_iconst C (pc := 400) (v := (-1)) dL_whole_400 (by decide) ?_
          refine s_icmp_ne C (pc := 401) (tgt := 427) dL_whole_401 (by decide) (fun h => absurd (by decide) h) (fun c401 => ?_)
          refine s_aload_n C (pc := 404) dL_whole_404 rfl 3 rfl ?_
          refine s_iload_n C (pc := 405) dL_whole_405 rfl 5 rfl ?_
          refine s_calli C (pc := 406) (wr := [(hg, .inr (0, [.ref hgn, .int (nI u320_8.1), .long u320_8.2.2.1, .long u320_8.2.2.2.1, .long u320_8.2.2.2.2])), (hgn, .inl (X.2.1, 144, .inl (u320_8.2.1)))]) (wc' := [(b, .inr (2, [.ref h, .ref tr, .ref hi, .ref sl, .ref sf, .ref hg, .int hc])), (h, .inr (1, [.ref hp, .ref hq, .int (nI n), .int (nI w), .int f, .int ll])), (hp, .inl (X.2.1, 4, .inl (P))), (hq, .inl (X.2.1, 4, .inl (Q)))]) (wn := [(b, .inr (2, [.ref h, .ref tr, .ref hi, .ref sl, .ref sf, .ref hg, .int hc])), (h, .inr (1, [.ref hp, .ref hq, .int (nI n), .int (nI w), .int f, .int ll])), (hp, .inl (X.2.1, 4, .inl (P))), (hq, .inl (X.2.1, 4, .inl (Q))), (hg, .inr (0, [.ref hgn, .int (nI u320_8.1), .long u320_8.2.2.1, .long u320_8.2.2.2.1, .long u320_8.2.2.2.2])), (hgn, .inl (X.2.1, 144, .inl (u320_8.2.1)))]) (r_V C (As := [.int (nI n)]) (rest := []) (kX2_tile_bad l X b tr hi sl sf hg hc h hp hq n P Q (nI w) f ll (nI n) (wh_hv n) (by first | assumption | omega | decide)) (cwV 1 C.ts gL_whole_X2_tile rfl rfl rfl (by decide +kernel) ⟨Nat.le_of_ble_eq_true rfl, Nat.le_of_ble_eq_true rfl⟩) (q0 := 0) rfl rfl [0, 1, 2, 3] (by decide) rfl rfl (Nat.le_of_ble_eq_true rfl) rfl dL_whole_406 ⟨Nat.zero_le _, Nat.zero_le _⟩) [0, 1, 2, 3] [4, 5] [2, 3, 4, 5, 0, 1] rfl rfl (by decide) (by decide) (by decide) rfl ?_
          refine s_iconst C (pc := 409) (v := (-1)) dL_whole_409 (by decide) ?_
          refine s_icmp_ne C (pc := 410) (tgt := 427) dL_whole_410 (by decide) (fun h => absurd (by decide) h) (fun c410 => ?_)
          refine s_aload_n C (pc := 413) dL_whole_413 rfl 3 rfl ?_
          refine s_iconst C (pc := 414) (v := 0) dL_whole_414 (by decide) ?_
          refine s_iload_n C (pc := 415) dL_whole_415 rfl 5 rfl ?_
          refine s_calli C (pc := 416) (wr := [(hg, .inr (0, [.ref hgn, .int (nI u320_8.1), .long u320_8.2.2.1, .long u320_8.2.2.2.1, .long u320_8.2.2.2.2])), (hgn, .inl (X.2.1, 144, .inl (u320_8.2.1)))]) (wc' := [(b, .inr (2, [.ref h, .ref tr, .ref hi, .ref sl, .ref sf, .ref hg, .int hc])), (h, .inr (1, [.ref hp, .ref hq, .int (nI n), .int (nI w), .int f, .int ll])), (hp, .inl (X.2.1, 4, .inl (P))), (hq, .inl (X.2.1, 4, .inl (Q)))]) (wn := [(b, .inr (2, [.ref h, .ref tr, .ref hi, .ref sl, .ref sf, .ref hg, .int hc])), (h, .inr (1, [.ref hp, .ref hq, .int (nI n), .int (nI w), .int f, .int ll])), (hp, .inl (X.2.1, 4, .inl (P))), (hq, .inl (X.2.1, 4, .inl (Q))), (hg, .inr (0, [.ref hgn, .int (nI u320_8.1), .long u320_8.2.2.1, .long u320_8.2.2.2.1, .long u320_8.2.2.2.2])), (hgn, .inl (X.2.1, 144, .inl (u320_8.2.1)))]) (r_V C (As := [.int 0, .int (nI n)]) (rest := []) (kX2_bands_bad l X b tr hi sl sf hg hc h hp hq n P Q (nI w) f ll 0 (nI n) (fun q => wh_hv n q.2.1) (by first | assumption | omega | decide)) (cwV 2 C.ts gL_whole_X2_bands rfl rfl rfl (by decide +kernel) ⟨Nat.le_of_ble_eq_true rfl, Nat.le_of_ble_eq_true rfl⟩) (q0 := 0) rfl rfl [0, 1, 2, 3] (by decide) rfl rfl (Nat.le_of_ble_eq_true rfl) rfl dL_whole_416 ⟨Nat.zero_le _, Nat.zero_le _⟩) [0, 1, 2, 3] [4, 5] [2, 3, 4, 5, 0, 1] rfl rfl (by decide) (by decide) (by decide) rfl ?_
          refine s_iconst C (pc := 419) (v := (-1)) dL_whole_419 (by decide) ?_
          refine s_icmp_ne C (pc := 420) (tgt := 427) dL_whole_420 (by decide) (fun h => absurd (by decide) h) (fun c420 => ?_)
          refine s_iconst C (pc := 423) (v := 1) dL_whole_423 (by decide) ?_
          refine s_goto C (pc := 424) (tgt := 428) dL_whole_424 (by decide) ?_
          exact s_zretX C (pc := 428) hr hlk ((u320_8.1, u320_8.2.1, u320_8.2.2.1, u320_8.2.2.2.1, u320_8.2.2.2.2)) trivial [0, 1, 2, 3, 4, 5] (by decide) (rfl) rfl (rfl) dL_whole_428
      · skip
        have e23 := nat_nle (a := n) (b := i) (by omega) (by omega) c23
        refine s_iload C (pc := 26) dL_whole_26 7 rfl ?_
        refine s_iconst C (pc := 28) (v := 1) dL_whole_28 (by decide) ?_
        refine s_iadd C (pc := 29) dL_whole_29 ?_
        refine s_top C (y := nI (i + 1)) (nI_add _ _) ?_
        refine s_istore C (pc := 30) (ls' := [(8, .int (nI (i + 1))), (0, .ref b), (1, .int (nI w)), (2, .int (nI n)), (3, .int (nI (suI P Q w f ll n i))), (4, .int ((wqO P Q w f ll n i).2)), (5, .int ((wqO P Q w f ll n i).1)), (6, .int (mtF P Q n i)), (7, .int (nI i))]) dL_whole_30 (by decide) rfl ?_
        have L32 : ∀ (n_ : Nat) (d : Nat) (u2 : GD), (d ≤ n - (i + 1)) → n + 1 ≤ d + n_ → g [(b, .inr (2, [.ref h, .ref tr, .ref hi, .ref sl, .ref sf, .ref hg, .int hc])), (h, .inr (1, [.ref hp, .ref hq, .int (nI n), .int (nI w), .int f, .int ll])), (hp, .inl (X.2.1, 4, .inl (P))), (hq, .inl (X.2.1, 4, .inl (Q))), (hg, .inr (0, [.ref hgn, .int (nI u2.1), .long u2.2.2.1, .long u2.2.2.2.1, .long u2.2.2.2.2])), (hgn, .inl (X.2.1, 144, .inl (u2.2.1)))] 32 [(0, .ref b), (1, .int (nI w)), (2, .int (nI n)), (3, .int (nI (suI P Q w f ll n i + suJ P Q w f ll n i d))), (4, .int ((wqI P Q w f ll i (wqO P Q w f ll n i) d).2)), (5, .int ((wqI P Q w f ll i (wqO P Q w f ll n i) d).1)), (6, .int (mtF P Q n i)), (7, .int (nI i)), (8, .int (nI (i + 1 + d)))] [] := by
          intro n_
          induction n_ with
          | zero =>
            intro d u2 hd hf
            exact absurd hf (by omega)
          | succ n_ ih32 =>
            intro d u2 hd hf32
            refine s_iload C (pc := 32) dL_whole_32 8 rfl ?_
            refine s_iload_n C (pc := 34) dL_whole_34 rfl 2 rfl ?_
            refine s_icmp_ge C (pc := 35) (tgt := 128) dL_whole_35 (by decide) (fun c35 => ?_) (fun c35 => ?_)
            · skip
              have e35 := nat_le (a := n) (b := (i + 1 + d)) (by omega) (by omega) c35
              have hs0 : n - (i + 1) = d := by omega
              subst hs0
              refine s_aload_n C (pc := 128) dL_whole_128 rfl 0 rfl ?_
              refine s_iload C (pc := 129) dL_whole_129 7 rfl ?_
              refine s_calli C (pc := 131) (wr := [(hg, .inr (0, [.ref hgn, .int (nI u2.1), .long u2.2.2.1, .long u2.2.2.2.1, .long u2.2.2.2.2])), (hgn, .inl (X.2.1, 144, .inl (u2.2.1)))]) (wc' := [(b, .inr (2, [.ref h, .ref tr, .ref hi, .ref sl, .ref sf, .ref hg, .int hc])), (h, .inr (1, [.ref hp, .ref hq, .int (nI n), .int (nI w), .int f, .int ll])), (hp, .inl (X.2.1, 4, .inl (P))), (hq, .inl (X.2.1, 4, .inl (Q)))]) (wn := [(b, .inr (2, [.ref h, .ref tr, .ref hi, .ref sl, .ref sf, .ref hg, .int hc])), (h, .inr (1, [.ref hp, .ref hq, .int (nI n), .int (nI w), .int f, .int ll])), (hp, .inl (X.2.1, 4, .inl (P))), (hq, .inl (X.2.1, 4, .inl (Q))), (hg, .inr (0, [.ref hgn, .int (nI u2.1), .long u2.2.2.1, .long u2.2.2.2.1, .long u2.2.2.2.2])), (hgn, .inl (X.2.1, 144, .inl (u2.2.1)))]) (r_V C (As := [.int (nI i)]) (rest := []) (kW_ang l X b tr hi sl sf hg hc h hp hq n P Q (nI w) f ll i (by first | assumption | omega | decide) (by first | assumption | omega | decide) (by first | assumption | omega | decide)) (cwV 1 C.ts gL_whole_X2_byAngle rfl rfl rfl (by decide +kernel) ⟨Nat.le_of_ble_eq_true rfl, Nat.le_of_ble_eq_true rfl⟩) (q0 := 0) rfl rfl [0, 1, 2, 3] (by decide) rfl rfl (Nat.le_of_ble_eq_true rfl) rfl dL_whole_131 ⟨Nat.zero_le _, Nat.zero_le _⟩) [0, 1, 2, 3] [4, 5] [2, 3, 4, 5, 0, 1] rfl rfl (by decide) (by decide) (by decide) rfl ?_
              refine s_istore C (pc := 134) (ls' := [(8, .int (nI (AG P Q n i))), (0, .ref b), (1, .int (nI w)), (2, .int (nI n)), (3, .int (nI (suI P Q w f ll n i + suJ P Q w f ll n i (n - (i + 1))))), (4, .int ((wqI P Q w f ll i (wqO P Q w f ll n i) (n - (i + 1))).2)), (5, .int ((wqI P Q w f ll i (wqO P Q w f ll n i) (n - (i + 1))).1)), (6, .int (mtF P Q n i)), (7, .int (nI i))]) dL_whole_134 (by decide) rfl ?_
              refine s_iload C (pc := 136) dL_whole_136 7 rfl ?_
              refine s_iconst C (pc := 138) (v := 1) dL_whole_138 (by decide) ?_
              refine s_iload C (pc := 139) dL_whole_139 0 rfl ?_
              refine s_ishl C (pc := 141) dL_whole_141 ?_
              refine s_ior C (pc := 142) dL_whole_142 ?_
              refine s_istore C (pc := 143) (ls' := [(6, .int ((mtF P Q n i) ||| (1 <<< ((nI (AG P Q n i)) &&& 31)))), (8, .int (nI (AG P Q n i))), (0, .ref b), (1, .int (nI w)), (2, .int (nI n)), (3, .int (nI (suI P Q w f ll n i + suJ P Q w f ll n i (n - (i + 1))))), (4, .int ((wqI P Q w f ll i (wqO P Q w f ll n i) (n - (i + 1))).2)), (5, .int ((wqI P Q w f ll i (wqO P Q w f ll n i) (n - (i + 1))).1)), (7, .int (nI i))]) dL_whole_143 (by decide) rfl ?_
              refine s_aload_n C (pc := 145) dL_whole_145 rfl 2 rfl ?_
              refine s_calll C (pc := 146) (wr := [(hg, .inr (0, [.ref hgn, .int (nI u2.1), .long u2.2.2.1, .long u2.2.2.2.1, .long u2.2.2.2.2])), (hgn, .inl (X.2.1, 144, .inl (u2.2.1)))]) (wc' := [(b, .inr (2, [.ref h, .ref tr, .ref hi, .ref sl, .ref sf, .ref hg, .int hc])), (h, .inr (1, [.ref hp, .ref hq, .int (nI n), .int (nI w), .int f, .int ll])), (hp, .inl (X.2.1, 4, .inl (P))), (hq, .inl (X.2.1, 4, .inl (Q)))]) (wn := [(b, .inr (2, [.ref h, .ref tr, .ref hi, .ref sl, .ref sf, .ref hg, .int hc])), (h, .inr (1, [.ref hp, .ref hq, .int (nI n), .int (nI w), .int f, .int ll])), (hp, .inl (X.2.1, 4, .inl (P))), (hq, .inl (X.2.1, 4, .inl (Q))), (hg, .inr (0, [.ref hgn, .int (nI u2.1), .long u2.2.2.1, .long u2.2.2.2.1, .long u2.2.2.2.2])), (hgn, .inl (X.2.1, 144, .inl (u2.2.1)))]) (r_V C (As := []) (rest := []) (kW_ct l X b tr hi sl sf hg hc h hp hq n P Q (nI w) f ll (by first | assumption | omega | decide) (by first | assumption | omega | decide)) (cwV 0 C.ts gL_whole_X2_commonTile rfl rfl rfl (by decide +kernel) ⟨Nat.le_of_ble_eq_true rfl, Nat.le_of_ble_eq_true rfl⟩) (q0 := 0) rfl rfl [0, 1, 2, 3] (by decide) rfl rfl (Nat.le_of_ble_eq_true rfl) rfl dL_whole_146 ⟨Nat.zero_le _, Nat.zero_le _⟩) [0, 1, 2, 3] [4, 5] [2, 3, 4, 5, 0, 1] rfl rfl (by decide) (by decide) (by decide) rfl ?_
              refine s_aload_n C (pc := 149) dL_whole_149 rfl 2 rfl ?_
              refine s_iload C (pc := 150) dL_whole_150 8 rfl ?_
              refine s_calli C (pc := 152) (wr := [(hg, .inr (0, [.ref hgn, .int (nI u2.1), .long u2.2.2.1, .long u2.2.2.2.1, .long u2.2.2.2.2])), (hgn, .inl (X.2.1, 144, .inl (u2.2.1)))]) (wc' := [(b, .inr (2, [.ref h, .ref tr, .ref hi, .ref sl, .ref sf, .ref hg, .int hc])), (h, .inr (1, [.ref hp, .ref hq, .int (nI n), .int (nI w), .int f, .int ll])), (hp, .inl (X.2.1, 4, .inl (P))), (hq, .inl (X.2.1, 4, .inl (Q)))]) (wn := [(b, .inr (2, [.ref h, .ref tr, .ref hi, .ref sl, .ref sf, .ref hg, .int hc])), (h, .inr (1, [.ref hp, .ref hq, .int (nI n), .int (nI w), .int f, .int ll])), (hp, .inl (X.2.1, 4, .inl (P))), (hq, .inl (X.2.1, 4, .inl (Q))), (hg, .inr (0, [.ref hgn, .int (nI u2.1), .long u2.2.2.1, .long u2.2.2.2.1, .long u2.2.2.2.2])), (hgn, .inl (X.2.1, 144, .inl (u2.2.1)))]) (r_V C (As := [.int (nI i)]) (rest := [.long (lN (cN P Q n))]) (kW_tile l X b tr hi sl sf hg hc h hp hq n P Q (nI w) f ll i (by first | assumption | omega | decide) (by first | assumption | omega | decide) (by first | assumption | omega | decide)) (cwV 1 C.ts gL_whole_X2_tile rfl rfl rfl (by decide +kernel) ⟨Nat.le_of_ble_eq_true rfl, Nat.le_of_ble_eq_true rfl⟩) (q0 := 0) rfl rfl [0, 1, 2, 3] (by decide) rfl rfl (Nat.le_of_ble_eq_true rfl) rfl dL_whole_152 ⟨Nat.zero_le _, Nat.zero_le _⟩) [0, 1, 2, 3] [4, 5] [2, 3, 4, 5, 0, 1] rfl rfl (by decide) (by decide) (by decide) rfl ?_
              refine s_i2l C (pc := 155) dL_whole_155 ?_
              refine s_topl C (y := lN (tN P Q i)) ((nI_toL (by have := (tN_bd hV (show i < n by omega)).2; omega))) ?_
              refine s_lrem C (pc := 156) dL_whole_156 (lN_ne (by have := (tN_bd hV (show i < n by omega)).2; omega) (by have := (tN_bd hV (show i < n by omega)).2; omega)) ?_
              refine s_topl C (y := 0) ((wh_ct hV hn (show i < n by omega))) ?_
              refine s_lconst C (pc := 157) (v := 0) dL_whole_157 (by decide) ?_
              refine s_lcmp_ne C (pc := 158) (tgt := 260) dL_whole_158 dL_whole_159 (by decide) (fun h => absurd (by decide) h) (fun c158 => ?_)
              refine s_aload_n C (pc := 162) dL_whole_162 rfl 2 rfl ?_
              refine s_iload C (pc := 163) dL_whole_163 8 rfl ?_
              refine s_calli C (pc := 165) (wr := [(hg, .inr (0, [.ref hgn, .int (nI u2.1), .long u2.2.2.1, .long u2.2.2.2.1, .long u2.2.2.2.2])), (hgn, .inl (X.2.1, 144, .inl (u2.2.1)))]) (wc' := [(b, .inr (2, [.ref h, .ref tr, .ref hi, .ref sl, .ref sf, .ref hg, .int hc])), (h, .inr (1, [.ref hp, .ref hq, .int (nI n), .int (nI w), .int f, .int ll])), (hp, .inl (X.2.1, 4, .inl (P))), (hq, .inl (X.2.1, 4, .inl (Q)))]) (wn := [(b, .inr (2, [.ref h, .ref tr, .ref hi, .ref sl, .ref sf, .ref hg, .int hc])), (h, .inr (1, [.ref hp, .ref hq, .int (nI n), .int (nI w), .int f, .int ll])), (hp, .inl (X.2.1, 4, .inl (P))), (hq, .inl (X.2.1, 4, .inl (Q))), (hg, .inr (0, [.ref hgn, .int (nI u2.1), .long u2.2.2.1, .long u2.2.2.2.1, .long u2.2.2.2.2])), (hgn, .inl (X.2.1, 144, .inl (u2.2.1)))]) (r_V C (As := [.int (nI i)]) (rest := []) (kX2_cellArea_ok l X b tr hi sl sf hg hc h hp hq n P Q (nI w) f ll i (by first | assumption | omega | decide) (by first | assumption | omega | decide)) (cwV 1 C.ts gL_whole_X2_cellArea rfl rfl rfl (by decide +kernel) ⟨Nat.le_of_ble_eq_true rfl, Nat.le_of_ble_eq_true rfl⟩) (q0 := 0) rfl rfl [0, 1, 2, 3] (by decide) rfl rfl (Nat.le_of_ble_eq_true rfl) rfl dL_whole_165 ⟨Nat.zero_le _, Nat.zero_le _⟩) [0, 1, 2, 3] [4, 5] [2, 3, 4, 5, 0, 1] rfl rfl (by decide) (by decide) (by decide) rfl ?_
              refine s_aload_n C (pc := 168) dL_whole_168 rfl 2 rfl ?_
              refine s_iload C (pc := 169) dL_whole_169 8 rfl ?_
              refine s_calli C (pc := 171) (wr := [(hg, .inr (0, [.ref hgn, .int (nI u2.1), .long u2.2.2.1, .long u2.2.2.2.1, .long u2.2.2.2.2])), (hgn, .inl (X.2.1, 144, .inl (u2.2.1)))]) (wc' := [(b, .inr (2, [.ref h, .ref tr, .ref hi, .ref sl, .ref sf, .ref hg, .int hc])), (h, .inr (1, [.ref hp, .ref hq, .int (nI n), .int (nI w), .int f, .int ll])), (hp, .inl (X.2.1, 4, .inl (P))), (hq, .inl (X.2.1, 4, .inl (Q)))]) (wn := [(b, .inr (2, [.ref h, .ref tr, .ref hi, .ref sl, .ref sf, .ref hg, .int hc])), (h, .inr (1, [.ref hp, .ref hq, .int (nI n), .int (nI w), .int f, .int ll])), (hp, .inl (X.2.1, 4, .inl (P))), (hq, .inl (X.2.1, 4, .inl (Q))), (hg, .inr (0, [.ref hgn, .int (nI u2.1), .long u2.2.2.1, .long u2.2.2.2.1, .long u2.2.2.2.2])), (hgn, .inl (X.2.1, 144, .inl (u2.2.1)))]) (r_V C (As := [.int (nI i)]) (rest := [.int (ar P Q i)]) (kX2_cellP_ok l X b tr hi sl sf hg hc h hp hq n P Q (nI w) f ll i (by first | assumption | omega | decide) (by first | assumption | omega | decide)) (cwV 1 C.ts gL_whole_X2_cellP rfl rfl rfl (by decide +kernel) ⟨Nat.le_of_ble_eq_true rfl, Nat.le_of_ble_eq_true rfl⟩) (q0 := 0) rfl rfl [0, 1, 2, 3] (by decide) rfl rfl (Nat.le_of_ble_eq_true rfl) rfl dL_whole_171 ⟨Nat.zero_le _, Nat.zero_le _⟩) [0, 1, 2, 3] [4, 5] [2, 3, 4, 5, 0, 1] rfl rfl (by decide) (by decide) (by decide) rfl ?_
              refine s_aload_n C (pc := 174) dL_whole_174 rfl 2 rfl ?_
              refine s_iload C (pc := 175) dL_whole_175 8 rfl ?_
              refine s_calli C (pc := 177) (wr := [(hg, .inr (0, [.ref hgn, .int (nI u2.1), .long u2.2.2.1, .long u2.2.2.2.1, .long u2.2.2.2.2])), (hgn, .inl (X.2.1, 144, .inl (u2.2.1)))]) (wc' := [(b, .inr (2, [.ref h, .ref tr, .ref hi, .ref sl, .ref sf, .ref hg, .int hc])), (h, .inr (1, [.ref hp, .ref hq, .int (nI n), .int (nI w), .int f, .int ll])), (hp, .inl (X.2.1, 4, .inl (P))), (hq, .inl (X.2.1, 4, .inl (Q)))]) (wn := [(b, .inr (2, [.ref h, .ref tr, .ref hi, .ref sl, .ref sf, .ref hg, .int hc])), (h, .inr (1, [.ref hp, .ref hq, .int (nI n), .int (nI w), .int f, .int ll])), (hp, .inl (X.2.1, 4, .inl (P))), (hq, .inl (X.2.1, 4, .inl (Q))), (hg, .inr (0, [.ref hgn, .int (nI u2.1), .long u2.2.2.1, .long u2.2.2.2.1, .long u2.2.2.2.2])), (hgn, .inl (X.2.1, 144, .inl (u2.2.1)))]) (r_V C (As := [.int (nI i)]) (rest := [.int (P i), .int (ar P Q i)]) (kX2_cellP_ok l X b tr hi sl sf hg hc h hp hq n P Q (nI w) f ll i (by first | assumption | omega | decide) (by first | assumption | omega | decide)) (cwV 1 C.ts gL_whole_X2_cellP rfl rfl rfl (by decide +kernel) ⟨Nat.le_of_ble_eq_true rfl, Nat.le_of_ble_eq_true rfl⟩) (q0 := 0) rfl rfl [0, 1, 2, 3] (by decide) rfl rfl (Nat.le_of_ble_eq_true rfl) rfl dL_whole_177 ⟨Nat.zero_le _, Nat.zero_le _⟩) [0, 1, 2, 3] [4, 5] [2, 3, 4, 5, 0, 1] rfl rfl (by decide) (by decide) (by decide) rfl ?_
              refine s_imul C (pc := 180) dL_whole_180 ?_
              refine s_aload_n C (pc := 181) dL_whole_181 rfl 2 rfl ?_
              refine s_iload C (pc := 182) dL_whole_182 8 rfl ?_
              refine s_calli C (pc := 184) (wr := [(hg, .inr (0, [.ref hgn, .int (nI u2.1), .long u2.2.2.1, .long u2.2.2.2.1, .long u2.2.2.2.2])), (hgn, .inl (X.2.1, 144, .inl (u2.2.1)))]) (wc' := [(b, .inr (2, [.ref h, .ref tr, .ref hi, .ref sl, .ref sf, .ref hg, .int hc])), (h, .inr (1, [.ref hp, .ref hq, .int (nI n), .int (nI w), .int f, .int ll])), (hp, .inl (X.2.1, 4, .inl (P))), (hq, .inl (X.2.1, 4, .inl (Q)))]) (wn := [(b, .inr (2, [.ref h, .ref tr, .ref hi, .ref sl, .ref sf, .ref hg, .int hc])), (h, .inr (1, [.ref hp, .ref hq, .int (nI n), .int (nI w), .int f, .int ll])), (hp, .inl (X.2.1, 4, .inl (P))), (hq, .inl (X.2.1, 4, .inl (Q))), (hg, .inr (0, [.ref hgn, .int (nI u2.1), .long u2.2.2.1, .long u2.2.2.2.1, .long u2.2.2.2.2])), (hgn, .inl (X.2.1, 144, .inl (u2.2.1)))]) (r_V C (As := [.int (nI i)]) (rest := [.int ((P i) * (P i)), .int (ar P Q i)]) (kX2_cellQ_ok l X b tr hi sl sf hg hc h hp hq n P Q (nI w) f ll i (by first | assumption | omega | decide) (by first | assumption | omega | decide)) (cwV 1 C.ts gL_whole_X2_cellQ rfl rfl rfl (by decide +kernel) ⟨Nat.le_of_ble_eq_true rfl, Nat.le_of_ble_eq_true rfl⟩) (q0 := 0) rfl rfl [0, 1, 2, 3] (by decide) rfl rfl (Nat.le_of_ble_eq_true rfl) rfl dL_whole_184 ⟨Nat.zero_le _, Nat.zero_le _⟩) [0, 1, 2, 3] [4, 5] [2, 3, 4, 5, 0, 1] rfl rfl (by decide) (by decide) (by decide) rfl ?_
              refine s_aload_n C (pc := 187) dL_whole_187 rfl 2 rfl ?_
              refine s_iload C (pc := 188) dL_whole_188 8 rfl ?_
              refine s_calli C (pc := 190) (wr := [(hg, .inr (0, [.ref hgn, .int (nI u2.1), .long u2.2.2.1, .long u2.2.2.2.1, .long u2.2.2.2.2])), (hgn, .inl (X.2.1, 144, .inl (u2.2.1)))]) (wc' := [(b, .inr (2, [.ref h, .ref tr, .ref hi, .ref sl, .ref sf, .ref hg, .int hc])), (h, .inr (1, [.ref hp, .ref hq, .int (nI n), .int (nI w), .int f, .int ll])), (hp, .inl (X.2.1, 4, .inl (P))), (hq, .inl (X.2.1, 4, .inl (Q)))]) (wn := [(b, .inr (2, [.ref h, .ref tr, .ref hi, .ref sl, .ref sf, .ref hg, .int hc])), (h, .inr (1, [.ref hp, .ref hq, .int (nI n), .int (nI w), .int f, .int ll])), (hp, .inl (X.2.1, 4, .inl (P))), (hq, .inl (X.2.1, 4, .inl (Q))), (hg, .inr (0, [.ref hgn, .int (nI u2.1), .long u2.2.2.1, .long u2.2.2.2.1, .long u2.2.2.2.2])), (hgn, .inl (X.2.1, 144, .inl (u2.2.1)))]) (r_V C (As := [.int (nI i)]) (rest := [.int (Q i), .int ((P i) * (P i)), .int (ar P Q i)]) (kX2_cellQ_ok l X b tr hi sl sf hg hc h hp hq n P Q (nI w) f ll i (by first | assumption | omega | decide) (by first | assumption | omega | decide)) (cwV 1 C.ts gL_whole_X2_cellQ rfl rfl rfl (by decide +kernel) ⟨Nat.le_of_ble_eq_true rfl, Nat.le_of_ble_eq_true rfl⟩) (q0 := 0) rfl rfl [0, 1, 2, 3] (by decide) rfl rfl (Nat.le_of_ble_eq_true rfl) rfl dL_whole_190 ⟨Nat.zero_le _, Nat.zero_le _⟩) [0, 1, 2, 3] [4, 5] [2, 3, 4, 5, 0, 1] rfl rfl (by decide) (by decide) (by decide) rfl ?_
              refine s_imul C (pc := 193) dL_whole_193 ?_
              refine s_iadd C (pc := 194) dL_whole_194 ?_
              refine s_icmp_ne C (pc := 195) (tgt := 260) dL_whole_195 (by decide) (fun h => absurd (rfl) h) (fun c195 => ?_)
              refine s_aload_n C (pc := 198) dL_whole_198 rfl 2 rfl ?_
              refine s_iload C (pc := 199) dL_whole_199 8 rfl ?_
              refine s_calli C (pc := 201) (wr := [(hg, .inr (0, [.ref hgn, .int (nI u2.1), .long u2.2.2.1, .long u2.2.2.2.1, .long u2.2.2.2.2])), (hgn, .inl (X.2.1, 144, .inl (u2.2.1)))]) (wc' := [(b, .inr (2, [.ref h, .ref tr, .ref hi, .ref sl, .ref sf, .ref hg, .int hc])), (h, .inr (1, [.ref hp, .ref hq, .int (nI n), .int (nI w), .int f, .int ll])), (hp, .inl (X.2.1, 4, .inl (P))), (hq, .inl (X.2.1, 4, .inl (Q)))]) (wn := [(b, .inr (2, [.ref h, .ref tr, .ref hi, .ref sl, .ref sf, .ref hg, .int hc])), (h, .inr (1, [.ref hp, .ref hq, .int (nI n), .int (nI w), .int f, .int ll])), (hp, .inl (X.2.1, 4, .inl (P))), (hq, .inl (X.2.1, 4, .inl (Q))), (hg, .inr (0, [.ref hgn, .int (nI u2.1), .long u2.2.2.1, .long u2.2.2.2.1, .long u2.2.2.2.2])), (hgn, .inl (X.2.1, 144, .inl (u2.2.1)))]) (r_V C (As := [.int (nI i)]) (rest := []) (kX2_cellArea_ok l X b tr hi sl sf hg hc h hp hq n P Q (nI w) f ll i (by first | assumption | omega | decide) (by first | assumption | omega | decide)) (cwV 1 C.ts gL_whole_X2_cellArea rfl rfl rfl (by decide +kernel) ⟨Nat.le_of_ble_eq_true rfl, Nat.le_of_ble_eq_true rfl⟩) (q0 := 0) rfl rfl [0, 1, 2, 3] (by decide) rfl rfl (Nat.le_of_ble_eq_true rfl) rfl dL_whole_201 ⟨Nat.zero_le _, Nat.zero_le _⟩) [0, 1, 2, 3] [4, 5] [2, 3, 4, 5, 0, 1] rfl rfl (by decide) (by decide) (by decide) rfl ?_
              refine s_top C (y := nI (aN P Q i)) ((ar_nI hV (show i < n by omega))) ?_
              refine s_aload_n C (pc := 204) dL_whole_204 rfl 2 rfl ?_
              refine s_iload C (pc := 205) dL_whole_205 8 rfl ?_
              refine s_calli C (pc := 207) (wr := [(hg, .inr (0, [.ref hgn, .int (nI u2.1), .long u2.2.2.1, .long u2.2.2.2.1, .long u2.2.2.2.2])), (hgn, .inl (X.2.1, 144, .inl (u2.2.1)))]) (wc' := [(b, .inr (2, [.ref h, .ref tr, .ref hi, .ref sl, .ref sf, .ref hg, .int hc])), (h, .inr (1, [.ref hp, .ref hq, .int (nI n), .int (nI w), .int f, .int ll])), (hp, .inl (X.2.1, 4, .inl (P))), (hq, .inl (X.2.1, 4, .inl (Q)))]) (wn := [(b, .inr (2, [.ref h, .ref tr, .ref hi, .ref sl, .ref sf, .ref hg, .int hc])), (h, .inr (1, [.ref hp, .ref hq, .int (nI n), .int (nI w), .int f, .int ll])), (hp, .inl (X.2.1, 4, .inl (P))), (hq, .inl (X.2.1, 4, .inl (Q))), (hg, .inr (0, [.ref hgn, .int (nI u2.1), .long u2.2.2.1, .long u2.2.2.2.1, .long u2.2.2.2.2])), (hgn, .inl (X.2.1, 144, .inl (u2.2.1)))]) (r_V C (As := [.int (nI i)]) (rest := [.int (nI (aN P Q i))]) (kW_tile l X b tr hi sl sf hg hc h hp hq n P Q (nI w) f ll i (by first | assumption | omega | decide) (by first | assumption | omega | decide) (by first | assumption | omega | decide)) (cwV 1 C.ts gL_whole_X2_tile rfl rfl rfl (by decide +kernel) ⟨Nat.le_of_ble_eq_true rfl, Nat.le_of_ble_eq_true rfl⟩) (q0 := 0) rfl rfl [0, 1, 2, 3] (by decide) rfl rfl (Nat.le_of_ble_eq_true rfl) rfl dL_whole_207 ⟨Nat.zero_le _, Nat.zero_le _⟩) [0, 1, 2, 3] [4, 5] [2, 3, 4, 5, 0, 1] rfl rfl (by decide) (by decide) (by decide) rfl ?_
              refine s_irem C (pc := 210) dL_whole_210 (wh_tne hV (show i < n by omega)) ?_
              refine s_top C (y := 0) ((wh_at hV (show i < n by omega))) ?_
              refine s_if_ne C (pc := 211) (tgt := 260) dL_whole_211 (by decide) (fun h => absurd (by decide) h) (fun c211 => ?_)
              refine s_iload C (pc := 214) dL_whole_214 8 rfl ?_
              refine s_if_le C (pc := 216) (tgt := 262) dL_whole_216 (by decide) (fun c216 => ?_) (fun c216 => ?_)
              · skip
                have e216 := nat_le (a := i) (b := 0) (by omega) (by omega) c216
                refine s_iinc C (pc := 262) (v := nI (i + 1)) (ls' := [(7, .int (nI (i + 1))), (6, .int ((mtF P Q n i) ||| (1 <<< ((nI (AG P Q n i)) &&& 31)))), (8, .int (nI (AG P Q n i))), (0, .ref b), (1, .int (nI w)), (2, .int (nI n)), (3, .int (nI (suI P Q w f ll n i + suJ P Q w f ll n i (n - (i + 1))))), (4, .int ((wqI P Q w f ll i (wqO P Q w f ll n i) (n - (i + 1))).2)), (5, .int ((wqI P Q w f ll i (wqO P Q w f ll n i) (n - (i + 1))).1))]) dL_whole_262 8 rfl (nI_1 _) (by decide) rfl ?_
                refine s_goto C (pc := 265) (tgt := 20) dL_whole_265 (by decide) ?_
                refine s_loc C (ls' := [(0, .ref b), (1, .int (nI w)), (2, .int (nI n)), (3, .int (nI (suI P Q w f ll n i + suJ P Q w f ll n i (n - (i + 1))))), (4, .int ((wqI P Q w f ll i (wqO P Q w f ll n i) (n - (i + 1))).2)), (5, .int ((wqI P Q w f ll i (wqO P Q w f ll n i) (n - (i + 1))).1)), (6, .int ((mtF P Q n i) ||| (1 <<< ((nI (AG P Q n i)) &&& 31)))), (7, .int (nI (i + 1)))]) [3, 4, 5, 6, 7, 8, 1, 0] rfl ?_
                exact ih20 (i + 1) (u2.1, u2.2.1, u2.2.2.1, u2.2.2.2.1, u2.2.2.2.2) (by omega) (by omega)
              · skip
                have e216 := nat_nle (a := i) (b := 0) (by omega) (by omega) c216
                obtain ⟨i1, hi1⟩ : ∃ i1, i = i1 + 1 := ⟨i - 1, by omega⟩
                subst hi1
                refine s_aload_n C (pc := 219) dL_whole_219 rfl 2 rfl ?_
                refine s_aload_n C (pc := 220) dL_whole_220 rfl 2 rfl ?_
                refine s_iload C (pc := 221) dL_whole_221 8 rfl ?_
                refine s_iconst C (pc := 223) (v := 1) dL_whole_223 (by decide) ?_
                refine s_isub C (pc := 224) dL_whole_224 ?_
                refine s_top C (y := nI i1) (nI_pred _) ?_
                refine s_calli C (pc := 225) (wr := [(hg, .inr (0, [.ref hgn, .int (nI u2.1), .long u2.2.2.1, .long u2.2.2.2.1, .long u2.2.2.2.2])), (hgn, .inl (X.2.1, 144, .inl (u2.2.1)))]) (wc' := [(b, .inr (2, [.ref h, .ref tr, .ref hi, .ref sl, .ref sf, .ref hg, .int hc])), (h, .inr (1, [.ref hp, .ref hq, .int (nI n), .int (nI w), .int f, .int ll])), (hp, .inl (X.2.1, 4, .inl (P))), (hq, .inl (X.2.1, 4, .inl (Q)))]) (wn := [(b, .inr (2, [.ref h, .ref tr, .ref hi, .ref sl, .ref sf, .ref hg, .int hc])), (h, .inr (1, [.ref hp, .ref hq, .int (nI n), .int (nI w), .int f, .int ll])), (hp, .inl (X.2.1, 4, .inl (P))), (hq, .inl (X.2.1, 4, .inl (Q))), (hg, .inr (0, [.ref hgn, .int (nI u2.1), .long u2.2.2.1, .long u2.2.2.2.1, .long u2.2.2.2.2])), (hgn, .inl (X.2.1, 144, .inl (u2.2.1)))]) (r_V C (As := [.int (nI i1)]) (rest := [.ref b]) (kW_ang l X b tr hi sl sf hg hc h hp hq n P Q (nI w) f ll i1 (by first | assumption | omega | decide) (by first | assumption | omega | decide) (by first | assumption | omega | decide)) (cwV 1 C.ts gL_whole_X2_byAngle rfl rfl rfl (by decide +kernel) ⟨Nat.le_of_ble_eq_true rfl, Nat.le_of_ble_eq_true rfl⟩) (q0 := 0) rfl rfl [0, 1, 2, 3] (by decide) rfl rfl (Nat.le_of_ble_eq_true rfl) rfl dL_whole_225 ⟨Nat.zero_le _, Nat.zero_le _⟩) [0, 1, 2, 3] [4, 5] [2, 3, 4, 5, 0, 1] rfl rfl (by decide) (by decide) (by decide) rfl ?_
                refine s_calli C (pc := 228) (wr := [(hg, .inr (0, [.ref hgn, .int (nI u2.1), .long u2.2.2.1, .long u2.2.2.2.1, .long u2.2.2.2.2])), (hgn, .inl (X.2.1, 144, .inl (u2.2.1)))]) (wc' := [(b, .inr (2, [.ref h, .ref tr, .ref hi, .ref sl, .ref sf, .ref hg, .int hc])), (h, .inr (1, [.ref hp, .ref hq, .int (nI n), .int (nI w), .int f, .int ll])), (hp, .inl (X.2.1, 4, .inl (P))), (hq, .inl (X.2.1, 4, .inl (Q)))]) (wn := [(b, .inr (2, [.ref h, .ref tr, .ref hi, .ref sl, .ref sf, .ref hg, .int hc])), (h, .inr (1, [.ref hp, .ref hq, .int (nI n), .int (nI w), .int f, .int ll])), (hp, .inl (X.2.1, 4, .inl (P))), (hq, .inl (X.2.1, 4, .inl (Q))), (hg, .inr (0, [.ref hgn, .int (nI u2.1), .long u2.2.2.1, .long u2.2.2.2.1, .long u2.2.2.2.2])), (hgn, .inl (X.2.1, 144, .inl (u2.2.1)))]) (r_V C (As := [.int (nI (AG P Q n i1))]) (rest := []) (kX2_cellQ_ok l X b tr hi sl sf hg hc h hp hq n P Q (nI w) f ll (AG P Q n i1) (hAG.1 i1 (by omega)).1 (by first | assumption | omega | decide)) (cwV 1 C.ts gL_whole_X2_cellQ rfl rfl rfl (by decide +kernel) ⟨Nat.le_of_ble_eq_true rfl, Nat.le_of_ble_eq_true rfl⟩) (q0 := 0) rfl rfl [0, 1, 2, 3] (by decide) rfl rfl (Nat.le_of_ble_eq_true rfl) rfl dL_whole_228 ⟨Nat.zero_le _, Nat.zero_le _⟩) [0, 1, 2, 3] [4, 5] [2, 3, 4, 5, 0, 1] rfl rfl (by decide) (by decide) (by decide) rfl ?_
                refine s_aload_n C (pc := 231) dL_whole_231 rfl 2 rfl ?_
                refine s_iload C (pc := 232) dL_whole_232 1 rfl ?_
                refine s_calli C (pc := 234) (wr := [(hg, .inr (0, [.ref hgn, .int (nI u2.1), .long u2.2.2.1, .long u2.2.2.2.1, .long u2.2.2.2.2])), (hgn, .inl (X.2.1, 144, .inl (u2.2.1)))]) (wc' := [(b, .inr (2, [.ref h, .ref tr, .ref hi, .ref sl, .ref sf, .ref hg, .int hc])), (h, .inr (1, [.ref hp, .ref hq, .int (nI n), .int (nI w), .int f, .int ll])), (hp, .inl (X.2.1, 4, .inl (P))), (hq, .inl (X.2.1, 4, .inl (Q)))]) (wn := [(b, .inr (2, [.ref h, .ref tr, .ref hi, .ref sl, .ref sf, .ref hg, .int hc])), (h, .inr (1, [.ref hp, .ref hq, .int (nI n), .int (nI w), .int f, .int ll])), (hp, .inl (X.2.1, 4, .inl (P))), (hq, .inl (X.2.1, 4, .inl (Q))), (hg, .inr (0, [.ref hgn, .int (nI u2.1), .long u2.2.2.1, .long u2.2.2.2.1, .long u2.2.2.2.2])), (hgn, .inl (X.2.1, 144, .inl (u2.2.1)))]) (r_V C (As := [.int (nI (AG P Q n (i1 + 1)))]) (rest := [.int (Q (AG P Q n i1))]) (kX2_cellP_ok l X b tr hi sl sf hg hc h hp hq n P Q (nI w) f ll (AG P Q n (i1 + 1)) (hAG.1 (i1 + 1) (by omega)).1 (by first | assumption | omega | decide)) (cwV 1 C.ts gL_whole_X2_cellP rfl rfl rfl (by decide +kernel) ⟨Nat.le_of_ble_eq_true rfl, Nat.le_of_ble_eq_true rfl⟩) (q0 := 0) rfl rfl [0, 1, 2, 3] (by decide) rfl rfl (Nat.le_of_ble_eq_true rfl) rfl dL_whole_234 ⟨Nat.zero_le _, Nat.zero_le _⟩) [0, 1, 2, 3] [4, 5] [2, 3, 4, 5, 0, 1] rfl rfl (by decide) (by decide) (by decide) rfl ?_
                refine s_imul C (pc := 237) dL_whole_237 ?_
                refine s_aload_n C (pc := 238) dL_whole_238 rfl 2 rfl ?_
                refine s_iload C (pc := 239) dL_whole_239 1 rfl ?_
                refine s_calli C (pc := 241) (wr := [(hg, .inr (0, [.ref hgn, .int (nI u2.1), .long u2.2.2.1, .long u2.2.2.2.1, .long u2.2.2.2.2])), (hgn, .inl (X.2.1, 144, .inl (u2.2.1)))]) (wc' := [(b, .inr (2, [.ref h, .ref tr, .ref hi, .ref sl, .ref sf, .ref hg, .int hc])), (h, .inr (1, [.ref hp, .ref hq, .int (nI n), .int (nI w), .int f, .int ll])), (hp, .inl (X.2.1, 4, .inl (P))), (hq, .inl (X.2.1, 4, .inl (Q)))]) (wn := [(b, .inr (2, [.ref h, .ref tr, .ref hi, .ref sl, .ref sf, .ref hg, .int hc])), (h, .inr (1, [.ref hp, .ref hq, .int (nI n), .int (nI w), .int f, .int ll])), (hp, .inl (X.2.1, 4, .inl (P))), (hq, .inl (X.2.1, 4, .inl (Q))), (hg, .inr (0, [.ref hgn, .int (nI u2.1), .long u2.2.2.1, .long u2.2.2.2.1, .long u2.2.2.2.2])), (hgn, .inl (X.2.1, 144, .inl (u2.2.1)))]) (r_V C (As := [.int (nI (AG P Q n (i1 + 1)))]) (rest := [.int ((Q (AG P Q n i1)) * (P (AG P Q n (i1 + 1))))]) (kX2_cellQ_ok l X b tr hi sl sf hg hc h hp hq n P Q (nI w) f ll (AG P Q n (i1 + 1)) (hAG.1 (i1 + 1) (by omega)).1 (by first | assumption | omega | decide)) (cwV 1 C.ts gL_whole_X2_cellQ rfl rfl rfl (by decide +kernel) ⟨Nat.le_of_ble_eq_true rfl, Nat.le_of_ble_eq_true rfl⟩) (q0 := 0) rfl rfl [0, 1, 2, 3] (by decide) rfl rfl (Nat.le_of_ble_eq_true rfl) rfl dL_whole_241 ⟨Nat.zero_le _, Nat.zero_le _⟩) [0, 1, 2, 3] [4, 5] [2, 3, 4, 5, 0, 1] rfl rfl (by decide) (by decide) (by decide) rfl ?_
                refine s_aload_n C (pc := 244) dL_whole_244 rfl 2 rfl ?_
                refine s_aload_n C (pc := 245) dL_whole_245 rfl 2 rfl ?_
                refine s_iload C (pc := 246) dL_whole_246 8 rfl ?_
                refine s_iconst C (pc := 248) (v := 1) dL_whole_248 (by decide) ?_
                refine s_isub C (pc := 249) dL_whole_249 ?_
                refine s_top C (y := nI i1) (nI_pred _) ?_
                refine s_calli C (pc := 250) (wr := [(hg, .inr (0, [.ref hgn, .int (nI u2.1), .long u2.2.2.1, .long u2.2.2.2.1, .long u2.2.2.2.2])), (hgn, .inl (X.2.1, 144, .inl (u2.2.1)))]) (wc' := [(b, .inr (2, [.ref h, .ref tr, .ref hi, .ref sl, .ref sf, .ref hg, .int hc])), (h, .inr (1, [.ref hp, .ref hq, .int (nI n), .int (nI w), .int f, .int ll])), (hp, .inl (X.2.1, 4, .inl (P))), (hq, .inl (X.2.1, 4, .inl (Q)))]) (wn := [(b, .inr (2, [.ref h, .ref tr, .ref hi, .ref sl, .ref sf, .ref hg, .int hc])), (h, .inr (1, [.ref hp, .ref hq, .int (nI n), .int (nI w), .int f, .int ll])), (hp, .inl (X.2.1, 4, .inl (P))), (hq, .inl (X.2.1, 4, .inl (Q))), (hg, .inr (0, [.ref hgn, .int (nI u2.1), .long u2.2.2.1, .long u2.2.2.2.1, .long u2.2.2.2.2])), (hgn, .inl (X.2.1, 144, .inl (u2.2.1)))]) (r_V C (As := [.int (nI i1)]) (rest := [.ref b, .int (Q (AG P Q n (i1 + 1))), .int ((Q (AG P Q n i1)) * (P (AG P Q n (i1 + 1))))]) (kW_ang l X b tr hi sl sf hg hc h hp hq n P Q (nI w) f ll i1 (by first | assumption | omega | decide) (by first | assumption | omega | decide) (by first | assumption | omega | decide)) (cwV 1 C.ts gL_whole_X2_byAngle rfl rfl rfl (by decide +kernel) ⟨Nat.le_of_ble_eq_true rfl, Nat.le_of_ble_eq_true rfl⟩) (q0 := 0) rfl rfl [0, 1, 2, 3] (by decide) rfl rfl (Nat.le_of_ble_eq_true rfl) rfl dL_whole_250 ⟨Nat.zero_le _, Nat.zero_le _⟩) [0, 1, 2, 3] [4, 5] [2, 3, 4, 5, 0, 1] rfl rfl (by decide) (by decide) (by decide) rfl ?_
                refine s_calli C (pc := 253) (wr := [(hg, .inr (0, [.ref hgn, .int (nI u2.1), .long u2.2.2.1, .long u2.2.2.2.1, .long u2.2.2.2.2])), (hgn, .inl (X.2.1, 144, .inl (u2.2.1)))]) (wc' := [(b, .inr (2, [.ref h, .ref tr, .ref hi, .ref sl, .ref sf, .ref hg, .int hc])), (h, .inr (1, [.ref hp, .ref hq, .int (nI n), .int (nI w), .int f, .int ll])), (hp, .inl (X.2.1, 4, .inl (P))), (hq, .inl (X.2.1, 4, .inl (Q)))]) (wn := [(b, .inr (2, [.ref h, .ref tr, .ref hi, .ref sl, .ref sf, .ref hg, .int hc])), (h, .inr (1, [.ref hp, .ref hq, .int (nI n), .int (nI w), .int f, .int ll])), (hp, .inl (X.2.1, 4, .inl (P))), (hq, .inl (X.2.1, 4, .inl (Q))), (hg, .inr (0, [.ref hgn, .int (nI u2.1), .long u2.2.2.1, .long u2.2.2.2.1, .long u2.2.2.2.2])), (hgn, .inl (X.2.1, 144, .inl (u2.2.1)))]) (r_V C (As := [.int (nI (AG P Q n i1))]) (rest := [.int (Q (AG P Q n (i1 + 1))), .int ((Q (AG P Q n i1)) * (P (AG P Q n (i1 + 1))))]) (kX2_cellP_ok l X b tr hi sl sf hg hc h hp hq n P Q (nI w) f ll (AG P Q n i1) (hAG.1 i1 (by omega)).1 (by first | assumption | omega | decide)) (cwV 1 C.ts gL_whole_X2_cellP rfl rfl rfl (by decide +kernel) ⟨Nat.le_of_ble_eq_true rfl, Nat.le_of_ble_eq_true rfl⟩) (q0 := 0) rfl rfl [0, 1, 2, 3] (by decide) rfl rfl (Nat.le_of_ble_eq_true rfl) rfl dL_whole_253 ⟨Nat.zero_le _, Nat.zero_le _⟩) [0, 1, 2, 3] [4, 5] [2, 3, 4, 5, 0, 1] rfl rfl (by decide) (by decide) (by decide) rfl ?_
                refine s_imul C (pc := 256) dL_whole_256 ?_
                refine s_icmp_le C (pc := 257) (tgt := 262) dL_whole_257 (by decide) (fun c257 => ?_) (fun h => absurd (hAG.2.2.1 i1 (by omega)) h)
                refine s_iinc C (pc := 262) (v := nI ((i1 + 1) + 1)) (ls' := [(7, .int (nI ((i1 + 1) + 1))), (6, .int ((mtF P Q n (i1 + 1)) ||| (1 <<< ((nI (AG P Q n (i1 + 1))) &&& 31)))), (8, .int (nI (AG P Q n (i1 + 1)))), (0, .ref b), (1, .int (nI w)), (2, .int (nI n)), (3, .int (nI (suI P Q w f ll n (i1 + 1) + suJ P Q w f ll n (i1 + 1) (n - ((i1 + 1) + 1))))), (4, .int ((wqI P Q w f ll (i1 + 1) (wqO P Q w f ll n (i1 + 1)) (n - ((i1 + 1) + 1))).2)), (5, .int ((wqI P Q w f ll (i1 + 1) (wqO P Q w f ll n (i1 + 1)) (n - ((i1 + 1) + 1))).1))]) dL_whole_262 8 rfl (nI_1 _) (by decide) rfl ?_
                refine s_goto C (pc := 265) (tgt := 20) dL_whole_265 (by decide) ?_
                refine s_loc C (ls' := [(0, .ref b), (1, .int (nI w)), (2, .int (nI n)), (3, .int (nI (suI P Q w f ll n (i1 + 1) + suJ P Q w f ll n (i1 + 1) (n - ((i1 + 1) + 1))))), (4, .int ((wqI P Q w f ll (i1 + 1) (wqO P Q w f ll n (i1 + 1)) (n - ((i1 + 1) + 1))).2)), (5, .int ((wqI P Q w f ll (i1 + 1) (wqO P Q w f ll n (i1 + 1)) (n - ((i1 + 1) + 1))).1)), (6, .int ((mtF P Q n (i1 + 1)) ||| (1 <<< ((nI (AG P Q n (i1 + 1))) &&& 31)))), (7, .int (nI ((i1 + 1) + 1)))]) [3, 4, 5, 6, 7, 8, 1, 0] rfl ?_
                exact ih20 ((i1 + 1) + 1) (u2.1, u2.2.1, u2.2.2.1, u2.2.2.2.1, u2.2.2.2.2) (by omega) (by omega)
            · skip
              have e35 := nat_nle (a := n) (b := (i + 1 + d)) (by omega) (by omega) c35
              refine s_aload_n C (pc := 38) dL_whole_38 rfl 0 rfl ?_
              refine s_iload C (pc := 39) dL_whole_39 7 rfl ?_
              refine s_iload C (pc := 41) dL_whole_41 8 rfl ?_
              refine s_calliX C (pc := 43) (wr := []) (wc' := (fun u43_9 : GD => [(b, .inr (2, [.ref h, .ref tr, .ref hi, .ref sl, .ref sf, .ref hg, .int hc])), (h, .inr (1, [.ref hp, .ref hq, .int (nI n), .int (nI w), .int f, .int ll])), (hp, .inl (X.2.1, 4, .inl (P))), (hq, .inl (X.2.1, 4, .inl (Q))), (hg, .inr (0, [.ref hgn, .int (nI u43_9.1), .long u43_9.2.2.1, .long u43_9.2.2.2.1, .long u43_9.2.2.2.2])), (hgn, .inl (X.2.1, 144, .inl (u43_9.2.1)))])) (wn := (fun u43_9 : GD => [(b, .inr (2, [.ref h, .ref tr, .ref hi, .ref sl, .ref sf, .ref hg, .int hc])), (h, .inr (1, [.ref hp, .ref hq, .int (nI n), .int (nI w), .int f, .int ll])), (hp, .inl (X.2.1, 4, .inl (P))), (hq, .inl (X.2.1, 4, .inl (Q))), (hg, .inr (0, [.ref hgn, .int (nI u43_9.1), .long u43_9.2.2.1, .long u43_9.2.2.2.1, .long u43_9.2.2.2.2])), (hgn, .inl (X.2.1, 144, .inl (u43_9.2.1)))])) (r_V C (As := [.int (nI i), .int (nI (i + 1 + d))]) (rest := []) (kX2_bands_ok l X b tr hi sl sf hc h hp hq n P Q w f ll hg hgn u2.1 u2.2.1 u2.2.2.1 u2.2.2.2.1 u2.2.2.2.2 i (i + 1 + d) (by first | assumption | omega | decide) (by first | assumption | omega | decide) (by first | assumption | omega | decide) (by first | assumption | omega | decide)) (cwV 2 C.ts gL_whole_X2_bands rfl rfl rfl (by decide +kernel) ⟨Nat.le_of_ble_eq_true rfl, Nat.le_of_ble_eq_true rfl⟩) (q0 := 0) rfl rfl [0, 1, 2, 3, 4, 5] (by decide) rfl rfl (Nat.le_of_ble_eq_true rfl) rfl dL_whole_43 ⟨Nat.zero_le _, Nat.zero_le _⟩) [0, 1, 2, 3, 4, 5] [] [0, 1, 2, 3, 4, 5] rfl rfl (by decide) (by decide) (by decide) (fun _ => rfl) (fun u43_9 _ => ?_)
              refine s_istore C (pc := 46) (ls' := [(9, .int (pbI P Q w f ll i (i + 1 + d))), (0, .ref b), (1, .int (nI w)), (2, .int (nI n)), (3, .int (nI (suI P Q w f ll n i + suJ P Q w f ll n i d))), (4, .int ((wqI P Q w f ll i (wqO P Q w f ll n i) d).2)), (5, .int ((wqI P Q w f ll i (wqO P Q w f ll n i) d).1)), (6, .int (mtF P Q n i)), (7, .int (nI i)), (8, .int (nI (i + 1 + d)))]) dL_whole_46 (by decide) rfl ?_
              refine s_iload_n C (pc := 48) dL_whole_48 rfl 4 rfl ?_
              refine s_iload C (pc := 49) dL_whole_49 0 rfl ?_
              refine s_iadd C (pc := 51) dL_whole_51 ?_
              refine s_top C (y := nI (suI P Q w f ll n i + (suJ P Q w f ll n i d + bN P Q w f ll i (i + 1 + d)))) (wh_add hV hL (show i < n by omega) (show i + 1 + d < n by omega) hw) ?_
              refine s_istore_n C (pc := 52) (ls' := [(3, .int (nI (suI P Q w f ll n i + (suJ P Q w f ll n i d + bN P Q w f ll i (i + 1 + d))))), (9, .int (pbI P Q w f ll i (i + 1 + d))), (0, .ref b), (1, .int (nI w)), (2, .int (nI n)), (4, .int ((wqI P Q w f ll i (wqO P Q w f ll n i) d).2)), (5, .int ((wqI P Q w f ll i (wqO P Q w f ll n i) d).1)), (6, .int (mtF P Q n i)), (7, .int (nI i)), (8, .int (nI (i + 1 + d)))]) dL_whole_52 rfl (by decide) rfl ?_
              refine s_iload C (pc := 53) dL_whole_53 1 rfl ?_
              refine s_iload C (pc := 55) dL_whole_55 5 rfl ?_
              refine s_icmp_le C (pc := 57) (tgt := 71) dL_whole_57 (by decide) (fun c57 => ?_) (fun c57 => ?_)
              · skip
                refine s_iload C (pc := 71) dL_whole_71 6 rfl ?_
                refine s_istore C (pc := 73) (ls' := [(5, .int ((wqI P Q w f ll i (wqO P Q w f ll n i) d).1)), (3, .int (nI (suI P Q w f ll n i + (suJ P Q w f ll n i d + bN P Q w f ll i (i + 1 + d))))), (9, .int (pbI P Q w f ll i (i + 1 + d))), (0, .ref b), (1, .int (nI w)), (2, .int (nI n)), (4, .int ((wqI P Q w f ll i (wqO P Q w f ll n i) d).2)), (6, .int (mtF P Q n i)), (7, .int (nI i)), (8, .int (nI (i + 1 + d)))]) dL_whole_73 (by decide) rfl ?_
                refine s_iload C (pc := 75) dL_whole_75 2 rfl ?_
                refine s_iload C (pc := 77) dL_whole_77 6 rfl ?_
                refine s_icmp_le C (pc := 79) (tgt := 87) dL_whole_79 (by decide) (fun c79 => ?_) (fun h => absurd (c57) h)
                refine s_iload C (pc := 87) dL_whole_87 6 rfl ?_
                refine s_istore C (pc := 89) (ls' := [(4, .int ((wqI P Q w f ll i (wqO P Q w f ll n i) d).2)), (5, .int ((wqI P Q w f ll i (wqO P Q w f ll n i) d).1)), (3, .int (nI (suI P Q w f ll n i + (suJ P Q w f ll n i d + bN P Q w f ll i (i + 1 + d))))), (9, .int (pbI P Q w f ll i (i + 1 + d))), (0, .ref b), (1, .int (nI w)), (2, .int (nI n)), (6, .int (mtF P Q n i)), (7, .int (nI i)), (8, .int (nI (i + 1 + d)))]) dL_whole_89 (by decide) rfl ?_
                refine s_iload C (pc := 91) dL_whole_91 9 rfl ?_
                refine s_iconst C (pc := 93) (v := 1) dL_whole_93 (by decide) ?_
                refine s_iadd C (pc := 94) dL_whole_94 ?_
                refine s_top C (y := nI ((i + 1 + d) + 1)) (nI_add _ _) ?_
                refine s_istore C (pc := 95) (ls' := [(10, .int (nI ((i + 1 + d) + 1))), (4, .int ((wqI P Q w f ll i (wqO P Q w f ll n i) d).2)), (5, .int ((wqI P Q w f ll i (wqO P Q w f ll n i) d).1)), (3, .int (nI (suI P Q w f ll n i + (suJ P Q w f ll n i d + bN P Q w f ll i (i + 1 + d))))), (9, .int (pbI P Q w f ll i (i + 1 + d))), (0, .ref b), (1, .int (nI w)), (2, .int (nI n)), (6, .int (mtF P Q n i)), (7, .int (nI i)), (8, .int (nI (i + 1 + d)))]) dL_whole_95 (by decide) rfl ?_
                have L97 : ∀ (n_ : Nat) (e : Nat) (u3 : GD), (e ≤ n - (i + 1 + d + 1)) → n + 1 ≤ e + n_ → g [(b, .inr (2, [.ref h, .ref tr, .ref hi, .ref sl, .ref sf, .ref hg, .int hc])), (h, .inr (1, [.ref hp, .ref hq, .int (nI n), .int (nI w), .int f, .int ll])), (hp, .inl (X.2.1, 4, .inl (P))), (hq, .inl (X.2.1, 4, .inl (Q))), (hg, .inr (0, [.ref hgn, .int (nI u3.1), .long u3.2.2.1, .long u3.2.2.2.1, .long u3.2.2.2.2])), (hgn, .inl (X.2.1, 144, .inl (u3.2.1)))] 97 [(0, .ref b), (1, .int (nI w)), (2, .int (nI n)), (3, .int (nI (suI P Q w f ll n i + (suJ P Q w f ll n i d + bN P Q w f ll i (i + 1 + d)) + suK P Q f ll i (i + 1 + d) e))), (4, .int ((wqI P Q w f ll i (wqO P Q w f ll n i) d).2)), (5, .int ((wqI P Q w f ll i (wqO P Q w f ll n i) d).1)), (6, .int (mtF P Q n i)), (7, .int (nI i)), (8, .int (nI (i + 1 + d))), (10, .int (nI (i + 1 + d + 1 + e)))] [] := by
                  intro n_
                  induction n_ with
                  | zero =>
                    intro e u3 he hf
                    exact absurd hf (by omega)
                  | succ n_ ih97 =>
                    intro e u3 he hf97
                    refine s_iload C (pc := 97) dL_whole_97 9 rfl ?_
                    refine s_iload_n C (pc := 99) dL_whole_99 rfl 2 rfl ?_
                    refine s_icmp_ge C (pc := 100) (tgt := 122) dL_whole_100 (by decide) (fun c100 => ?_) (fun c100 => ?_)
                    · skip
                      have e100 := nat_le (a := n) (b := (i + 1 + d + 1 + e)) (by omega) (by omega) c100
                      have hs0 : n - (i + 1 + d + 1) = e := by omega
                      subst hs0
                      refine s_iinc C (pc := 122) (v := nI ((i + 1 + d) + 1)) (ls' := [(8, .int (nI ((i + 1 + d) + 1))), (0, .ref b), (1, .int (nI w)), (2, .int (nI n)), (3, .int (nI (suI P Q w f ll n i + (suJ P Q w f ll n i d + bN P Q w f ll i (i + 1 + d)) + suK P Q f ll i (i + 1 + d) (n - (i + 1 + d + 1))))), (4, .int ((wqI P Q w f ll i (wqO P Q w f ll n i) d).2)), (5, .int ((wqI P Q w f ll i (wqO P Q w f ll n i) d).1)), (6, .int (mtF P Q n i)), (7, .int (nI i)), (10, .int (nI (i + 1 + d + 1 + (n - (i + 1 + d + 1)))))]) dL_whole_122 8 rfl (nI_1 _) (by decide) rfl ?_
                      refine s_goto C (pc := 125) (tgt := 32) dL_whole_125 (by decide) ?_
                      refine s_loc C (ls' := [(0, .ref b), (1, .int (nI w)), (2, .int (nI n)), (3, .int (nI (suI P Q w f ll n i + (suJ P Q w f ll n i d + bN P Q w f ll i (i + 1 + d)) + suK P Q f ll i (i + 1 + d) (n - (i + 1 + d + 1))))), (4, .int ((wqI P Q w f ll i (wqO P Q w f ll n i) d).2)), (5, .int ((wqI P Q w f ll i (wqO P Q w f ll n i) d).1)), (6, .int (mtF P Q n i)), (7, .int (nI i)), (8, .int (nI ((i + 1 + d) + 1)))]) [1, 2, 3, 4, 5, 6, 7, 8, 0] rfl ?_
                      have hb := ih32 (d + 1) (u3.1, u3.2.1, u3.2.2.1, u3.2.2.2.1, u3.2.2.2.2) (by omega) (by omega)
                      rw [show wqI P Q w f ll i (wqO P Q w f ll n i) (d + 1) = wqI P Q w f ll i (wqO P Q w f ll n i) d from if_pos c57, show suI P Q w f ll n i + suJ P Q w f ll n i (d + 1) = suI P Q w f ll n i + (suJ P Q w f ll n i d + bN P Q w f ll i (i + 1 + d)) + suK P Q f ll i (i + 1 + d) (n - (i + 1 + d + 1)) from by show suI P Q w f ll n i + (suJ P Q w f ll n i d + bN P Q w f ll i (i + 1 + d) + suK P Q f ll i (i + 1 + d) (n - (i + 1 + d + 1))) = _; omega] at hb
                      exact hb
                    · skip
                      have e100 := nat_nle (a := n) (b := (i + 1 + d + 1 + e)) (by omega) (by omega) c100
                      refine s_iload_n C (pc := 103) dL_whole_103 rfl 3 rfl ?_
                      refine s_aload_n C (pc := 104) dL_whole_104 rfl 0 rfl ?_
                      refine s_iload C (pc := 105) dL_whole_105 7 rfl ?_
                      refine s_iload C (pc := 107) dL_whole_107 8 rfl ?_
                      refine s_iload C (pc := 109) dL_whole_109 9 rfl ?_
                      refine s_calliX C (pc := 111) (wr := []) (wc' := (fun u111_10 : GD => [(b, .inr (2, [.ref h, .ref tr, .ref hi, .ref sl, .ref sf, .ref hg, .int hc])), (h, .inr (1, [.ref hp, .ref hq, .int (nI n), .int (nI w), .int f, .int ll])), (hp, .inl (X.2.1, 4, .inl (P))), (hq, .inl (X.2.1, 4, .inl (Q))), (hg, .inr (0, [.ref hgn, .int (nI u111_10.1), .long u111_10.2.2.1, .long u111_10.2.2.2.1, .long u111_10.2.2.2.2])), (hgn, .inl (X.2.1, 144, .inl (u111_10.2.1)))])) (wn := (fun u111_10 : GD => [(b, .inr (2, [.ref h, .ref tr, .ref hi, .ref sl, .ref sf, .ref hg, .int hc])), (h, .inr (1, [.ref hp, .ref hq, .int (nI n), .int (nI w), .int f, .int ll])), (hp, .inl (X.2.1, 4, .inl (P))), (hq, .inl (X.2.1, 4, .inl (Q))), (hg, .inr (0, [.ref hgn, .int (nI u111_10.1), .long u111_10.2.2.1, .long u111_10.2.2.2.1, .long u111_10.2.2.2.2])), (hgn, .inl (X.2.1, 144, .inl (u111_10.2.1)))])) (r_V C (As := [.int (nI i), .int (nI (i + 1 + d)), .int (nI (i + 1 + d + 1 + e))]) (rest := [.int (nI (suI P Q w f ll n i + (suJ P Q w f ll n i d + bN P Q w f ll i (i + 1 + d)) + suK P Q f ll i (i + 1 + d) e))]) (kW_tri l X b tr hi sl sf hc h hp hq n P Q w f ll hg hgn u3.1 u3.2.1 u3.2.2.1 u3.2.2.2.1 u3.2.2.2.2 i (i + 1 + d) (i + 1 + d + 1 + e) (by first | assumption | omega | decide) (by first | assumption | omega | decide) (by first | assumption | omega | decide) (by first | assumption | omega | decide) (by first | assumption | omega | decide) (by first | assumption | omega | decide) (by first | assumption | omega | decide)) (cwV 3 C.ts gL_whole_X2_tripleBands rfl rfl rfl (by decide +kernel) ⟨Nat.le_of_ble_eq_true rfl, Nat.le_of_ble_eq_true rfl⟩) (q0 := 0) rfl rfl [0, 1, 2, 3, 4, 5] (by decide) rfl rfl (Nat.le_of_ble_eq_true rfl) rfl dL_whole_111 ⟨Nat.zero_le _, Nat.zero_le _⟩) [0, 1, 2, 3, 4, 5] [] [0, 1, 2, 3, 4, 5] rfl rfl (by decide) (by decide) (by decide) (fun _ => rfl) (fun u111_10 _ => ?_)
                      refine s_iadd C (pc := 114) dL_whole_114 ?_
                      refine s_top C (y := nI (suI P Q w f ll n i + (suJ P Q w f ll n i d + bN P Q w f ll i (i + 1 + d)) + suK P Q f ll i (i + 1 + d) (e + 1))) ((nI_add _ _).trans (congrArg nI (Nat.add_assoc _ _ _))) ?_
                      refine s_istore_n C (pc := 115) (ls' := [(3, .int (nI (suI P Q w f ll n i + (suJ P Q w f ll n i d + bN P Q w f ll i (i + 1 + d)) + suK P Q f ll i (i + 1 + d) (e + 1)))), (0, .ref b), (1, .int (nI w)), (2, .int (nI n)), (4, .int ((wqI P Q w f ll i (wqO P Q w f ll n i) d).2)), (5, .int ((wqI P Q w f ll i (wqO P Q w f ll n i) d).1)), (6, .int (mtF P Q n i)), (7, .int (nI i)), (8, .int (nI (i + 1 + d))), (10, .int (nI (i + 1 + d + 1 + e)))]) dL_whole_115 rfl (by decide) rfl ?_
                      refine s_iinc C (pc := 116) (v := nI ((i + 1 + d + 1 + e) + 1)) (ls' := [(10, .int (nI ((i + 1 + d + 1 + e) + 1))), (3, .int (nI (suI P Q w f ll n i + (suJ P Q w f ll n i d + bN P Q w f ll i (i + 1 + d)) + suK P Q f ll i (i + 1 + d) (e + 1)))), (0, .ref b), (1, .int (nI w)), (2, .int (nI n)), (4, .int ((wqI P Q w f ll i (wqO P Q w f ll n i) d).2)), (5, .int ((wqI P Q w f ll i (wqO P Q w f ll n i) d).1)), (6, .int (mtF P Q n i)), (7, .int (nI i)), (8, .int (nI (i + 1 + d)))]) dL_whole_116 9 rfl (nI_1 _) (by decide) rfl ?_
                      refine s_goto C (pc := 119) (tgt := 97) dL_whole_119 (by decide) ?_
                      refine s_loc C (ls' := [(0, .ref b), (1, .int (nI w)), (2, .int (nI n)), (3, .int (nI (suI P Q w f ll n i + (suJ P Q w f ll n i d + bN P Q w f ll i (i + 1 + d)) + suK P Q f ll i (i + 1 + d) (e + 1)))), (4, .int ((wqI P Q w f ll i (wqO P Q w f ll n i) d).2)), (5, .int ((wqI P Q w f ll i (wqO P Q w f ll n i) d).1)), (6, .int (mtF P Q n i)), (7, .int (nI i)), (8, .int (nI (i + 1 + d))), (10, .int (nI ((i + 1 + d + 1 + e) + 1)))]) [2, 3, 4, 1, 5, 6, 7, 8, 9, 0] rfl ?_
                      exact ih97 (e + 1) (u111_10.1, u111_10.2.1, u111_10.2.2.1, u111_10.2.2.2.1, u111_10.2.2.2.2) (by omega) (by omega)
                refine s_loc C (ls' := [(0, .ref b), (1, .int (nI w)), (2, .int (nI n)), (3, .int (nI (suI P Q w f ll n i + (suJ P Q w f ll n i d + bN P Q w f ll i (i + 1 + d))))), (4, .int ((wqI P Q w f ll i (wqO P Q w f ll n i) d).2)), (5, .int ((wqI P Q w f ll i (wqO P Q w f ll n i) d).1)), (6, .int (mtF P Q n i)), (7, .int (nI i)), (8, .int (nI (i + 1 + d))), (10, .int (nI ((i + 1 + d) + 1)))]) [5, 6, 7, 3, 1, 2, 8, 9, 10, 0] rfl ?_
                exact L97 (n + 1) 0 (u43_9.1, u43_9.2.1, u43_9.2.2.1, u43_9.2.2.2.1, u43_9.2.2.2.2) (Nat.zero_le _) (by omega)
              · skip
                refine s_bipush C (pc := 60) (v := 10) dL_whole_60 (by decide) ?_
                refine s_iload C (pc := 62) dL_whole_62 8 rfl ?_
                refine s_imul C (pc := 64) dL_whole_64 ?_
                refine s_iload C (pc := 65) dL_whole_65 9 rfl ?_
                refine s_iadd C (pc := 67) dL_whole_67 ?_
                refine s_goto C (pc := 68) (tgt := 73) dL_whole_68 (by decide) ?_
                refine s_istore C (pc := 73) (ls' := [(5, .int ((10 * (nI i)) + (nI (i + 1 + d)))), (3, .int (nI (suI P Q w f ll n i + (suJ P Q w f ll n i d + bN P Q w f ll i (i + 1 + d))))), (9, .int (pbI P Q w f ll i (i + 1 + d))), (0, .ref b), (1, .int (nI w)), (2, .int (nI n)), (4, .int ((wqI P Q w f ll i (wqO P Q w f ll n i) d).2)), (6, .int (mtF P Q n i)), (7, .int (nI i)), (8, .int (nI (i + 1 + d)))]) dL_whole_73 (by decide) rfl ?_
                refine s_iload C (pc := 75) dL_whole_75 2 rfl ?_
                refine s_iload C (pc := 77) dL_whole_77 6 rfl ?_
                refine s_icmp_le C (pc := 79) (tgt := 87) dL_whole_79 (by decide) (fun h => absurd h (c57)) (fun c79 => ?_)
                refine s_iload C (pc := 82) dL_whole_82 2 rfl ?_
                refine s_goto C (pc := 84) (tgt := 89) dL_whole_84 (by decide) ?_
                refine s_istore C (pc := 89) (ls' := [(4, .int (pbI P Q w f ll i (i + 1 + d))), (5, .int ((10 * (nI i)) + (nI (i + 1 + d)))), (3, .int (nI (suI P Q w f ll n i + (suJ P Q w f ll n i d + bN P Q w f ll i (i + 1 + d))))), (9, .int (pbI P Q w f ll i (i + 1 + d))), (0, .ref b), (1, .int (nI w)), (2, .int (nI n)), (6, .int (mtF P Q n i)), (7, .int (nI i)), (8, .int (nI (i + 1 + d)))]) dL_whole_89 (by decide) rfl ?_
                refine s_iload C (pc := 91) dL_whole_91 9 rfl ?_
                refine s_iconst C (pc := 93) (v := 1) dL_whole_93 (by decide) ?_
                refine s_iadd C (pc := 94) dL_whole_94 ?_
                refine s_top C (y := nI ((i + 1 + d) + 1)) (nI_add _ _) ?_
                refine s_istore C (pc := 95) (ls' := [(10, .int (nI ((i + 1 + d) + 1))), (4, .int (pbI P Q w f ll i (i + 1 + d))), (5, .int ((10 * (nI i)) + (nI (i + 1 + d)))), (3, .int (nI (suI P Q w f ll n i + (suJ P Q w f ll n i d + bN P Q w f ll i (i + 1 + d))))), (9, .int (pbI P Q w f ll i (i + 1 + d))), (0, .ref b), (1, .int (nI w)), (2, .int (nI n)), (6, .int (mtF P Q n i)), (7, .int (nI i)), (8, .int (nI (i + 1 + d)))]) dL_whole_95 (by decide) rfl ?_
                have L97 : ∀ (n_ : Nat) (e : Nat) (u3 : GD), (e ≤ n - (i + 1 + d + 1)) → n + 1 ≤ e + n_ → g [(b, .inr (2, [.ref h, .ref tr, .ref hi, .ref sl, .ref sf, .ref hg, .int hc])), (h, .inr (1, [.ref hp, .ref hq, .int (nI n), .int (nI w), .int f, .int ll])), (hp, .inl (X.2.1, 4, .inl (P))), (hq, .inl (X.2.1, 4, .inl (Q))), (hg, .inr (0, [.ref hgn, .int (nI u3.1), .long u3.2.2.1, .long u3.2.2.2.1, .long u3.2.2.2.2])), (hgn, .inl (X.2.1, 144, .inl (u3.2.1)))] 97 [(0, .ref b), (1, .int (nI w)), (2, .int (nI n)), (3, .int (nI (suI P Q w f ll n i + (suJ P Q w f ll n i d + bN P Q w f ll i (i + 1 + d)) + suK P Q f ll i (i + 1 + d) e))), (4, .int (pbI P Q w f ll i (i + 1 + d))), (5, .int ((10 * (nI i)) + (nI (i + 1 + d)))), (6, .int (mtF P Q n i)), (7, .int (nI i)), (8, .int (nI (i + 1 + d))), (10, .int (nI (i + 1 + d + 1 + e)))] [] := by
                  intro n_
                  induction n_ with
                  | zero =>
                    intro e u3 he hf
                    exact absurd hf (by omega)
                  | succ n_ ih97 =>
                    intro e u3 he hf97
                    refine s_iload C (pc := 97) dL_whole_97 9 rfl ?_
                    refine s_iload_n C (pc := 99) dL_whole_99 rfl 2 rfl ?_
                    refine s_icmp_ge C (pc := 100) (tgt := 122) dL_whole_100 (by decide) (fun c100 => ?_) (fun c100 => ?_)
                    · skip
                      have e100 := nat_le (a := n) (b := (i + 1 + d + 1 + e)) (by omega) (by omega) c100
                      have hs0 : n - (i + 1 + d + 1) = e := by omega
                      subst hs0
                      refine s_iinc C (pc := 122) (v := nI ((i + 1 + d) + 1)) (ls' := [(8, .int (nI ((i + 1 + d) + 1))), (0, .ref b), (1, .int (nI w)), (2, .int (nI n)), (3, .int (nI (suI P Q w f ll n i + (suJ P Q w f ll n i d + bN P Q w f ll i (i + 1 + d)) + suK P Q f ll i (i + 1 + d) (n - (i + 1 + d + 1))))), (4, .int (pbI P Q w f ll i (i + 1 + d))), (5, .int ((10 * (nI i)) + (nI (i + 1 + d)))), (6, .int (mtF P Q n i)), (7, .int (nI i)), (10, .int (nI (i + 1 + d + 1 + (n - (i + 1 + d + 1)))))]) dL_whole_122 8 rfl (nI_1 _) (by decide) rfl ?_
                      refine s_goto C (pc := 125) (tgt := 32) dL_whole_125 (by decide) ?_
                      refine s_loc C (ls' := [(0, .ref b), (1, .int (nI w)), (2, .int (nI n)), (3, .int (nI (suI P Q w f ll n i + (suJ P Q w f ll n i d + bN P Q w f ll i (i + 1 + d)) + suK P Q f ll i (i + 1 + d) (n - (i + 1 + d + 1))))), (4, .int (pbI P Q w f ll i (i + 1 + d))), (5, .int ((10 * (nI i)) + (nI (i + 1 + d)))), (6, .int (mtF P Q n i)), (7, .int (nI i)), (8, .int (nI ((i + 1 + d) + 1)))]) [1, 2, 3, 4, 5, 6, 7, 8, 0] rfl ?_
                      have hb := ih32 (d + 1) (u3.1, u3.2.1, u3.2.2.1, u3.2.2.2.1, u3.2.2.2.2) (by omega) (by omega)
                      rw [show wqI P Q w f ll i (wqO P Q w f ll n i) (d + 1) = (10 * nI i + nI (i + 1 + d), pbI P Q w f ll i (i + 1 + d)) from if_neg c57, show suI P Q w f ll n i + suJ P Q w f ll n i (d + 1) = suI P Q w f ll n i + (suJ P Q w f ll n i d + bN P Q w f ll i (i + 1 + d)) + suK P Q f ll i (i + 1 + d) (n - (i + 1 + d + 1)) from by show suI P Q w f ll n i + (suJ P Q w f ll n i d + bN P Q w f ll i (i + 1 + d) + suK P Q f ll i (i + 1 + d) (n - (i + 1 + d + 1))) = _; omega] at hb
                      exact hb
                    · skip
                      have e100 := nat_nle (a := n) (b := (i + 1 + d + 1 + e)) (by omega) (by omega) c100
                      refine s_iload_n C (pc := 103) dL_whole_103 rfl 3 rfl ?_
                      refine s_aload_n C (pc := 104) dL_whole_104 rfl 0 rfl ?_
                      refine s_iload C (pc := 105) dL_whole_105 7 rfl ?_
                      refine s_iload C (pc := 107) dL_whole_107 8 rfl ?_
                      refine s_iload C (pc := 109) dL_whole_109 9 rfl ?_
                      refine s_calliX C (pc := 111) (wr := []) (wc' := (fun u111_11 : GD => [(b, .inr (2, [.ref h, .ref tr, .ref hi, .ref sl, .ref sf, .ref hg, .int hc])), (h, .inr (1, [.ref hp, .ref hq, .int (nI n), .int (nI w), .int f, .int ll])), (hp, .inl (X.2.1, 4, .inl (P))), (hq, .inl (X.2.1, 4, .inl (Q))), (hg, .inr (0, [.ref hgn, .int (nI u111_11.1), .long u111_11.2.2.1, .long u111_11.2.2.2.1, .long u111_11.2.2.2.2])), (hgn, .inl (X.2.1, 144, .inl (u111_11.2.1)))])) (wn := (fun u111_11 : GD => [(b, .inr (2, [.ref h, .ref tr, .ref hi, .ref sl, .ref sf, .ref hg, .int hc])), (h, .inr (1, [.ref hp, .ref hq, .int (nI n), .int (nI w), .int f, .int ll])), (hp, .inl (X.2.1, 4, .inl (P))), (hq, .inl (X.2.1, 4, .inl (Q))), (hg, .inr (0, [.ref hgn, .int (nI u111_11.1), .long u111_11.2.2.1, .long u111_11.2.2.2.1, .long u111_11.2.2.2.2])), (hgn, .inl (X.2.1, 144, .inl (u111_11.2.1)))])) (r_V C (As := [.int (nI i), .int (nI (i + 1 + d)), .int (nI (i + 1 + d + 1 + e))]) (rest := [.int (nI (suI P Q w f ll n i + (suJ P Q w f ll n i d + bN P Q w f ll i (i + 1 + d)) + suK P Q f ll i (i + 1 + d) e))]) (kW_tri l X b tr hi sl sf hc h hp hq n P Q w f ll hg hgn u3.1 u3.2.1 u3.2.2.1 u3.2.2.2.1 u3.2.2.2.2 i (i + 1 + d) (i + 1 + d + 1 + e) (by first | assumption | omega | decide) (by first | assumption | omega | decide) (by first | assumption | omega | decide) (by first | assumption | omega | decide) (by first | assumption | omega | decide) (by first | assumption | omega | decide) (by first | assumption | omega | decide)) (cwV 3 C.ts gL_whole_X2_tripleBands rfl rfl rfl (by decide +kernel) ⟨Nat.le_of_ble_eq_true rfl, Nat.le_of_ble_eq_true rfl⟩) (q0 := 0) rfl rfl [0, 1, 2, 3, 4, 5] (by decide) rfl rfl (Nat.le_of_ble_eq_true rfl) rfl dL_whole_111 ⟨Nat.zero_le _, Nat.zero_le _⟩) [0, 1, 2, 3, 4, 5] [] [0, 1, 2, 3, 4, 5] rfl rfl (by decide) (by decide) (by decide) (fun _ => rfl) (fun u111_11 _ => ?_)
                      refine s_iadd C (pc := 114) dL_whole_114 ?_
                      refine s_top C (y := nI (suI P Q w f ll n i + (suJ P Q w f ll n i d + bN P Q w f ll i (i + 1 + d)) + suK P Q f ll i (i + 1 + d) (e + 1))) ((nI_add _ _).trans (congrArg nI (Nat.add_assoc _ _ _))) ?_
                      refine s_istore_n C (pc := 115) (ls' := [(3, .int (nI (suI P Q w f ll n i + (suJ P Q w f ll n i d + bN P Q w f ll i (i + 1 + d)) + suK P Q f ll i (i + 1 + d) (e + 1)))), (0, .ref b), (1, .int (nI w)), (2, .int (nI n)), (4, .int (pbI P Q w f ll i (i + 1 + d))), (5, .int ((10 * (nI i)) + (nI (i + 1 + d)))), (6, .int (mtF P Q n i)), (7, .int (nI i)), (8, .int (nI (i + 1 + d))), (10, .int (nI (i + 1 + d + 1 + e)))]) dL_whole_115 rfl (by decide) rfl ?_
                      refine s_iinc C (pc := 116) (v := nI ((i + 1 + d + 1 + e) + 1)) (ls' := [(10, .int (nI ((i + 1 + d + 1 + e) + 1))), (3, .int (nI (suI P Q w f ll n i + (suJ P Q w f ll n i d + bN P Q w f ll i (i + 1 + d)) + suK P Q f ll i (i + 1 + d) (e + 1)))), (0, .ref b), (1, .int (nI w)), (2, .int (nI n)), (4, .int (pbI P Q w f ll i (i + 1 + d))), (5, .int ((10 * (nI i)) + (nI (i + 1 + d)))), (6, .int (mtF P Q n i)), (7, .int (nI i)), (8, .int (nI (i + 1 + d)))]) dL_whole_116 9 rfl (nI_1 _) (by decide) rfl ?_
                      refine s_goto C (pc := 119) (tgt := 97) dL_whole_119 (by decide) ?_
                      refine s_loc C (ls' := [(0, .ref b), (1, .int (nI w)), (2, .int (nI n)), (3, .int (nI (suI P Q w f ll n i + (suJ P Q w f ll n i d + bN P Q w f ll i (i + 1 + d)) + suK P Q f ll i (i + 1 + d) (e + 1)))), (4, .int (pbI P Q w f ll i (i + 1 + d))), (5, .int ((10 * (nI i)) + (nI (i + 1 + d)))), (6, .int (mtF P Q n i)), (7, .int (nI i)), (8, .int (nI (i + 1 + d))), (10, .int (nI ((i + 1 + d + 1 + e) + 1)))]) [2, 3, 4, 1, 5, 6, 7, 8, 9, 0] rfl ?_
                      exact ih97 (e + 1) (u111_11.1, u111_11.2.1, u111_11.2.2.1, u111_11.2.2.2.1, u111_11.2.2.2.2) (by omega) (by omega)
                refine s_loc C (ls' := [(0, .ref b), (1, .int (nI w)), (2, .int (nI n)), (3, .int (nI (suI P Q w f ll n i + (suJ P Q w f ll n i d + bN P Q w f ll i (i + 1 + d))))), (4, .int (pbI P Q w f ll i (i + 1 + d))), (5, .int ((10 * (nI i)) + (nI (i + 1 + d)))), (6, .int (mtF P Q n i)), (7, .int (nI i)), (8, .int (nI (i + 1 + d))), (10, .int (nI ((i + 1 + d) + 1)))]) [5, 6, 7, 3, 1, 2, 8, 9, 10, 0] rfl ?_
                exact L97 (n + 1) 0 (u43_9.1, u43_9.2.1, u43_9.2.2.1, u43_9.2.2.2.1, u43_9.2.2.2.2) (Nat.zero_le _) (by omega)
        refine s_loc C (ls' := [(0, .ref b), (1, .int (nI w)), (2, .int (nI n)), (3, .int (nI (suI P Q w f ll n i))), (4, .int ((wqO P Q w f ll n i).2)), (5, .int ((wqO P Q w f ll n i).1)), (6, .int (mtF P Q n i)), (7, .int (nI i)), (8, .int (nI (i + 1)))]) [1, 2, 3, 4, 5, 6, 7, 8, 0] rfl ?_
        exact L32 (n + 1) 0 (u.1, u.2.1, u.2.2.1, u.2.2.2.1, u.2.2.2.2) (Nat.zero_le _) (by omega)
  refine s_loc C (ls' := [(0, .ref b), (1, .int (nI w)), (2, .int (nI n)), (3, .int 0), (4, .int (-1)), (5, .int (-4)), (6, .int 0), (7, .int 0)]) [6, 7, 5, 4, 3, 2, 1, 0] rfl ?_
  exact L20 (n + 1) 0 (z, F, ar0, lf, gl) (Nat.zero_le _) (by omega)

theorem kT_num (l : Launch) (X : XT) (b tr hi sl sf : Nat) (hc : Int32) (h hp hq n : Nat) (P Q : Nat → Int32) (w : Nat) (f ll : Int32) (hg hgn z : Nat) (F : Nat → Int32) (ar0 lf gl : Int64) (i j : Nat) (a b1 c1 d1 : Int) (hij : i < j) (hj : j < n) (hn : n ≤ 4) (hw : w = 1 ∨ w = 2) (hV : VP P Q n) (hL : LV f ll) (ha : ow w a) (hb1 : ow w b1) (hc1 : ow w c1) (hd1 : ow w d1) (hab : a ≠ 0 ∨ b1 ≠ 0) (hcd : c1 ≠ 0 ∨ d1 ≠ 0) : KLx l yX2_squareNumerator wsX2_squareNumerator ({ frames := 3, cells := 0, slots := 0, locals := 73 }) X [.ref b, .int (nI i), .int (nI j), .int (iI a), .int (iI b1), .int (iI c1), .int (iI d1)] [(b, .inr (2, [.ref h, .ref tr, .ref hi, .ref sl, .ref sf, .ref hg, .int hc])), (h, .inr (1, [.ref hp, .ref hq, .int (nI n), .int (nI w), .int f, .int ll])), (hp, .inl (X.2.1, 4, .inl (P))), (hq, .inl (X.2.1, 4, .inl (Q))), (hg, .inr (0, [.ref hgn, .int (nI z), .long ar0, .long lf, .long gl])), (hgn, .inl (X.2.1, 144, .inl (F)))] (fun u : GD => [(b, .inr (2, [.ref h, .ref tr, .ref hi, .ref sl, .ref sf, .ref hg, .int hc])), (h, .inr (1, [.ref hp, .ref hq, .int (nI n), .int (nI w), .int f, .int ll])), (hp, .inl (X.2.1, 4, .inl (P))), (hq, .inl (X.2.1, 4, .inl (Q))), (hg, .inr (0, [.ref hgn, .int (nI u.1), .long u.2.2.1, .long u.2.2.2.1, .long u.2.2.2.2])), (hgn, .inl (X.2.1, 144, .inl (u.2.1)))]) (fun _ => True) (lN (upN (nN P Q i j a b1 c1 d1) (aP P Q i j))) := by
  have h1 := kX2_squareNumerator_ok l X b tr hi sl sf hc h hp hq n P Q w f ll hg hgn z F ar0 lf gl i j (iI a) (iI b1) (iI c1) (iI d1) hij hj hn ((fp_iI hw ha hb1).mpr hab) ((fp_iI hw hc1 hd1).mpr hcd)
  rw [(tu_n hV (show i < n by omega) hj hw ha hb1 hc1 hd1).1, aP_lN hV (show i < n by omega) hj, (ud_n (tu_n hV (show i < n by omega) hj hw ha hb1 hc1 hd1).2 (aP_bd hV (show i < n by omega) hj)).1] at h1
  exact h1

theorem kT_den (l : Launch) (X : XT) (b tr hi sl sf : Nat) (hc : Int32) (h hp hq n : Nat) (P Q : Nat → Int32) (w : Nat) (f ll : Int32) (hg hgn z : Nat) (F : Nat → Int32) (ar0 lf gl : Int64) (i j : Nat) (a b1 c1 d1 : Int) (hij : i < j) (hj : j < n) (hn : n ≤ 4) (hw : w = 1 ∨ w = 2) (hV : VP P Q n) (hL : LV f ll) (ha : ow w a) (hb1 : ow w b1) (hc1 : ow w c1) (hd1 : ow w d1) (hab : a ≠ 0 ∨ b1 ≠ 0) (hcd : c1 ≠ 0 ∨ d1 ≠ 0) : KLx l yX2_squareDenominator wsX2_squareDenominator ({ frames := 3, cells := 0, slots := 0, locals := 73 }) X [.ref b, .int (nI i), .int (nI j), .int (iI a), .int (iI b1), .int (iI c1), .int (iI d1)] [(b, .inr (2, [.ref h, .ref tr, .ref hi, .ref sl, .ref sf, .ref hg, .int hc])), (h, .inr (1, [.ref hp, .ref hq, .int (nI n), .int (nI w), .int f, .int ll])), (hp, .inl (X.2.1, 4, .inl (P))), (hq, .inl (X.2.1, 4, .inl (Q))), (hg, .inr (0, [.ref hgn, .int (nI z), .long ar0, .long lf, .long gl])), (hgn, .inl (X.2.1, 144, .inl (F)))] (fun u : GD => [(b, .inr (2, [.ref h, .ref tr, .ref hi, .ref sl, .ref sf, .ref hg, .int hc])), (h, .inr (1, [.ref hp, .ref hq, .int (nI n), .int (nI w), .int f, .int ll])), (hp, .inl (X.2.1, 4, .inl (P))), (hq, .inl (X.2.1, 4, .inl (Q))), (hg, .inr (0, [.ref hgn, .int (nI u.1), .long u.2.2.1, .long u.2.2.2.1, .long u.2.2.2.2])), (hgn, .inl (X.2.1, 144, .inl (u.2.1)))]) (fun _ => True) (lN (dnN (nN P Q i j a b1 c1 d1) (aP P Q i j))) := by
  have h1 := kX2_squareDenominator_ok l X b tr hi sl sf hc h hp hq n P Q w f ll hg hgn z F ar0 lf gl i j (iI a) (iI b1) (iI c1) (iI d1) hij hj hn ((fp_iI hw ha hb1).mpr hab) ((fp_iI hw hc1 hd1).mpr hcd)
  rw [(tu_n hV (show i < n by omega) hj hw ha hb1 hc1 hd1).1, aP_lN hV (show i < n by omega) hj, (ud_n (tu_n hV (show i < n by omega) hj hw ha hb1 hc1 hd1).2 (aP_bd hV (show i < n by omega) hj)).2.1] at h1
  exact h1

theorem kT_knd (l : Launch) (X : XT) (b tr hi sl sf : Nat) (hc : Int32) (h hp hq n : Nat) (P Q : Nat → Int32) (w : Nat) (f ll : Int32) (hg hgn z : Nat) (F : Nat → Int32) (ar0 lf gl : Int64) (i j : Nat) (a b1 c1 d1 : Int) (hij : i < j) (hj : j < n) (hn : n ≤ 4) (hw : w = 1 ∨ w = 2) (hV : VP P Q n) (hL : LV f ll) (ha : ow w a) (hb1 : ow w b1) (hc1 : ow w c1) (hd1 : ow w d1) (hab : a ≠ 0 ∨ b1 ≠ 0) (hcd : c1 ≠ 0 ∨ d1 ≠ 0) : KIx l yX2_kind wsX2_kind ({ frames := 3, cells := 0, slots := 0, locals := 73 }) X [.ref b, .int (nI i), .int (nI j), .int (iI a), .int (iI b1), .int (iI c1), .int (iI d1)] [(b, .inr (2, [.ref h, .ref tr, .ref hi, .ref sl, .ref sf, .ref hg, .int hc])), (h, .inr (1, [.ref hp, .ref hq, .int (nI n), .int (nI w), .int f, .int ll])), (hp, .inl (X.2.1, 4, .inl (P))), (hq, .inl (X.2.1, 4, .inl (Q))), (hg, .inr (0, [.ref hgn, .int (nI z), .long ar0, .long lf, .long gl])), (hgn, .inl (X.2.1, 144, .inl (F)))] (fun u : GD => [(b, .inr (2, [.ref h, .ref tr, .ref hi, .ref sl, .ref sf, .ref hg, .int hc])), (h, .inr (1, [.ref hp, .ref hq, .int (nI n), .int (nI w), .int f, .int ll])), (hp, .inl (X.2.1, 4, .inl (P))), (hq, .inl (X.2.1, 4, .inl (Q))), (hg, .inr (0, [.ref hgn, .int (nI u.1), .long u.2.2.1, .long u.2.2.2.1, .long u.2.2.2.2])), (hgn, .inl (X.2.1, 144, .inl (u.2.1)))]) (fun _ => True) (nI (kb (aP P Q i j) f ll (nN P Q i j a b1 c1 d1))) := by
  have h1 := kX2_kind_ok l X b tr hi sl sf hc h hp hq n P Q w f ll hg hgn z F ar0 lf gl i j (iI a) (iI b1) (iI c1) (iI d1) hij hj hn ((fp_iI hw ha hb1).mpr hab) ((fp_iI hw hc1 hd1).mpr hcd)
  rw [(tu_n hV (show i < n by omega) hj hw ha hb1 hc1 hd1).1, aP_lN hV (show i < n by omega) hj, kdI_k hL (by have := (aP_bd hV (show i < n by omega) hj); omega) (by have := (tu_n hV (show i < n by omega) hj hw ha hb1 hc1 hd1).2; omega)] at h1
  exact h1

set_option maxHeartbeats 4000000 in
set_option maxRecDepth 100000 in
theorem kL_turned (l : Launch) (X : XT) (b tr hi sl sf : Nat) (hc : Int32) (h hp hq n : Nat) (P Q : Nat → Int32) (w : Nat) (f ll : Int32) (hg hgn z : Nat) (F : Nat → Int32) (ar0 lf gl : Int64) (i j : Nat) (x : Int32) (hij : i < j) (hj : j < n) (hn : n ≤ 4) (hw : w = 1 ∨ w = 2) (hV : VP P Q n) (hL : LV f ll) : KIx l yL_turned wsL_turned ({ frames := 4, cells := 0, slots := 0, locals := 99 }) X [.ref b, .int (nI i), .int (nI j), .int (nI w), .int x] [(b, .inr (2, [.ref h, .ref tr, .ref hi, .ref sl, .ref sf, .ref hg, .int hc])), (h, .inr (1, [.ref hp, .ref hq, .int (nI n), .int (nI w), .int f, .int ll])), (hp, .inl (X.2.1, 4, .inl (P))), (hq, .inl (X.2.1, 4, .inl (Q))), (hg, .inr (0, [.ref hgn, .int (nI z), .long ar0, .long lf, .long gl])), (hgn, .inl (X.2.1, 144, .inl (F)))] (fun u : GD => [(b, .inr (2, [.ref h, .ref tr, .ref hi, .ref sl, .ref sf, .ref hg, .int hc])), (h, .inr (1, [.ref hp, .ref hq, .int (nI n), .int (nI w), .int f, .int ll])), (hp, .inl (X.2.1, 4, .inl (P))), (hq, .inl (X.2.1, 4, .inl (Q))), (hg, .inr (0, [.ref hgn, .int (nI u.1), .long u.2.2.1, .long u.2.2.2.1, .long u.2.2.2.2])), (hgn, .inl (X.2.1, 144, .inl (u.2.1)))]) (fun _ => True) (1) := by
  have hi : i < n := by omega
  have hA := aP_bd hV hi hj
  refine k_ofIx (cc := cL_turned) (own := RL) (maxL := 15) (ret := (some .boolean)) (ls0 := [(0, .ref b), (1, .int (nI i)), (2, .int (nI j)), (3, .int (nI w)), (4, .int x)]) (by decide) rfl rfl (Nat.le_of_ble_eq_true rfl) rfl ?_
  intro p e s m args below meth c A g C hr hlk
  refine s_iload C (pc := 0) dL_turned_0 4 rfl ?_
  refine s_iconst C (pc := 2) (v := 2) dL_turned_2 (by decide) ?_
  refine s_iload_n C (pc := 3) dL_turned_3 rfl 3 rfl ?_
  refine s_imul C (pc := 4) dL_turned_4 ?_
  refine s_top C (y := nI (2 * w)) (pk_mul 2 w) ?_
  refine s_iconst C (pc := 5) (v := 1) dL_turned_5 (by decide) ?_
  refine s_iadd C (pc := 6) dL_turned_6 ?_
  refine s_top C (y := nI ((2 * w) + 1)) (nI_add _ _) ?_
  refine s_calli C (pc := 7) (wr := [(b, .inr (2, [.ref h, .ref tr, .ref hi, .ref sl, .ref sf, .ref hg, .int hc])), (h, .inr (1, [.ref hp, .ref hq, .int (nI n), .int (nI w), .int f, .int ll])), (hp, .inl (X.2.1, 4, .inl (P))), (hq, .inl (X.2.1, 4, .inl (Q))), (hg, .inr (0, [.ref hgn, .int (nI z), .long ar0, .long lf, .long gl])), (hgn, .inl (X.2.1, 144, .inl (F)))]) (wc' := []) (wn := [(b, .inr (2, [.ref h, .ref tr, .ref hi, .ref sl, .ref sf, .ref hg, .int hc])), (h, .inr (1, [.ref hp, .ref hq, .int (nI n), .int (nI w), .int f, .int ll])), (hp, .inl (X.2.1, 4, .inl (P))), (hq, .inl (X.2.1, 4, .inl (Q))), (hg, .inr (0, [.ref hgn, .int (nI z), .long ar0, .long lf, .long gl])), (hgn, .inl (X.2.1, 144, .inl (F)))]) (r_S C (As := [.int x, .int (nI ((2 * w) + 1))]) (rest := []) (kL_low l X x ((2 * w) + 1) (by first | assumption | omega | decide) (by first | assumption | omega | decide)) (va_cwS 2 C.ts gL_turned_L_low rfl rfl rfl (by decide +kernel) ⟨Nat.le_of_ble_eq_true rfl, Nat.le_of_ble_eq_true rfl⟩) [] (by decide) rfl rfl (Nat.le_of_ble_eq_true rfl) rfl dL_turned_7 ⟨Nat.zero_le _, Nat.zero_le _⟩) [] [0, 1, 2, 3, 4, 5] [0, 1, 2, 3, 4, 5] rfl rfl (by decide) (by decide) (by decide) rfl ?_
  refine s_iload_n C (pc := 10) dL_turned_10 rfl 3 rfl ?_
  refine s_isub C (pc := 11) dL_turned_11 ?_
  obtain ⟨za, e_za, o_za⟩ := tu_lo x hw
  refine s_top C (y := iI za) e_za ?_
  refine s_istore C (pc := 12) (ls' := [(5, .int (iI za)), (0, .ref b), (1, .int (nI i)), (2, .int (nI j)), (3, .int (nI w)), (4, .int x)]) dL_turned_12 (by decide) rfl ?_
  refine s_iload C (pc := 14) dL_turned_14 5 rfl ?_
  refine s_iconst C (pc := 16) (v := 3) dL_turned_16 (by decide) ?_
  refine s_ishr C (pc := 17) dL_turned_17 ?_
  refine s_iconst C (pc := 18) (v := 2) dL_turned_18 (by decide) ?_
  refine s_iload_n C (pc := 19) dL_turned_19 rfl 4 rfl ?_
  refine s_imul C (pc := 20) dL_turned_20 ?_
  refine s_top C (y := nI (2 * w)) (pk_mul 2 w) ?_
  refine s_iconst C (pc := 21) (v := 1) dL_turned_21 (by decide) ?_
  refine s_iadd C (pc := 22) dL_turned_22 ?_
  refine s_top C (y := nI ((2 * w) + 1)) (nI_add _ _) ?_
  refine s_calli C (pc := 23) (wr := [(b, .inr (2, [.ref h, .ref tr, .ref hi, .ref sl, .ref sf, .ref hg, .int hc])), (h, .inr (1, [.ref hp, .ref hq, .int (nI n), .int (nI w), .int f, .int ll])), (hp, .inl (X.2.1, 4, .inl (P))), (hq, .inl (X.2.1, 4, .inl (Q))), (hg, .inr (0, [.ref hgn, .int (nI z), .long ar0, .long lf, .long gl])), (hgn, .inl (X.2.1, 144, .inl (F)))]) (wc' := []) (wn := [(b, .inr (2, [.ref h, .ref tr, .ref hi, .ref sl, .ref sf, .ref hg, .int hc])), (h, .inr (1, [.ref hp, .ref hq, .int (nI n), .int (nI w), .int f, .int ll])), (hp, .inl (X.2.1, 4, .inl (P))), (hq, .inl (X.2.1, 4, .inl (Q))), (hg, .inr (0, [.ref hgn, .int (nI z), .long ar0, .long lf, .long gl])), (hgn, .inl (X.2.1, 144, .inl (F)))]) (r_S C (As := [.int (x >>> (3 &&& 31)), .int (nI ((2 * w) + 1))]) (rest := []) (kL_low l X (x >>> (3 &&& 31)) ((2 * w) + 1) (by first | assumption | omega | decide) (by first | assumption | omega | decide)) (va_cwS 2 C.ts gL_turned_L_low rfl rfl rfl (by decide +kernel) ⟨Nat.le_of_ble_eq_true rfl, Nat.le_of_ble_eq_true rfl⟩) [] (by decide) rfl rfl (Nat.le_of_ble_eq_true rfl) rfl dL_turned_23 ⟨Nat.zero_le _, Nat.zero_le _⟩) [] [0, 1, 2, 3, 4, 5] [0, 1, 2, 3, 4, 5] rfl rfl (by decide) (by decide) (by decide) rfl ?_
  refine s_iload_n C (pc := 26) dL_turned_26 rfl 4 rfl ?_
  refine s_isub C (pc := 27) dL_turned_27 ?_
  obtain ⟨zb, e_zb, o_zb⟩ := tu_lo (x >>> ((3 : Int32) &&& 31)) hw
  refine s_top C (y := iI zb) e_zb ?_
  refine s_istore C (pc := 28) (ls' := [(6, .int (iI zb)), (5, .int (iI za)), (0, .ref b), (1, .int (nI i)), (2, .int (nI j)), (3, .int (nI w)), (4, .int x)]) dL_turned_28 (by decide) rfl ?_
  refine s_iload C (pc := 30) dL_turned_30 6 rfl ?_
  refine s_bipush C (pc := 32) (v := 6) dL_turned_32 (by decide) ?_
  refine s_ishr C (pc := 34) dL_turned_34 ?_
  refine s_iconst C (pc := 35) (v := 2) dL_turned_35 (by decide) ?_
  refine s_iload_n C (pc := 36) dL_turned_36 rfl 5 rfl ?_
  refine s_imul C (pc := 37) dL_turned_37 ?_
  refine s_top C (y := nI (2 * w)) (pk_mul 2 w) ?_
  refine s_iconst C (pc := 38) (v := 1) dL_turned_38 (by decide) ?_
  refine s_iadd C (pc := 39) dL_turned_39 ?_
  refine s_top C (y := nI ((2 * w) + 1)) (nI_add _ _) ?_
  refine s_calli C (pc := 40) (wr := [(b, .inr (2, [.ref h, .ref tr, .ref hi, .ref sl, .ref sf, .ref hg, .int hc])), (h, .inr (1, [.ref hp, .ref hq, .int (nI n), .int (nI w), .int f, .int ll])), (hp, .inl (X.2.1, 4, .inl (P))), (hq, .inl (X.2.1, 4, .inl (Q))), (hg, .inr (0, [.ref hgn, .int (nI z), .long ar0, .long lf, .long gl])), (hgn, .inl (X.2.1, 144, .inl (F)))]) (wc' := []) (wn := [(b, .inr (2, [.ref h, .ref tr, .ref hi, .ref sl, .ref sf, .ref hg, .int hc])), (h, .inr (1, [.ref hp, .ref hq, .int (nI n), .int (nI w), .int f, .int ll])), (hp, .inl (X.2.1, 4, .inl (P))), (hq, .inl (X.2.1, 4, .inl (Q))), (hg, .inr (0, [.ref hgn, .int (nI z), .long ar0, .long lf, .long gl])), (hgn, .inl (X.2.1, 144, .inl (F)))]) (r_S C (As := [.int (x >>> (6 &&& 31)), .int (nI ((2 * w) + 1))]) (rest := []) (kL_low l X (x >>> (6 &&& 31)) ((2 * w) + 1) (by first | assumption | omega | decide) (by first | assumption | omega | decide)) (va_cwS 2 C.ts gL_turned_L_low rfl rfl rfl (by decide +kernel) ⟨Nat.le_of_ble_eq_true rfl, Nat.le_of_ble_eq_true rfl⟩) [] (by decide) rfl rfl (Nat.le_of_ble_eq_true rfl) rfl dL_turned_40 ⟨Nat.zero_le _, Nat.zero_le _⟩) [] [0, 1, 2, 3, 4, 5] [0, 1, 2, 3, 4, 5] rfl rfl (by decide) (by decide) (by decide) rfl ?_
  refine s_iload_n C (pc := 43) dL_turned_43 rfl 5 rfl ?_
  refine s_isub C (pc := 44) dL_turned_44 ?_
  obtain ⟨zc, e_zc, o_zc⟩ := tu_lo (x >>> ((6 : Int32) &&& 31)) hw
  refine s_top C (y := iI zc) e_zc ?_
  refine s_istore C (pc := 45) (ls' := [(7, .int (iI zc)), (6, .int (iI zb)), (5, .int (iI za)), (0, .ref b), (1, .int (nI i)), (2, .int (nI j)), (3, .int (nI w)), (4, .int x)]) dL_turned_45 (by decide) rfl ?_
  refine s_iload C (pc := 47) dL_turned_47 7 rfl ?_
  refine s_bipush C (pc := 49) (v := 9) dL_turned_49 (by decide) ?_
  refine s_ishr C (pc := 51) dL_turned_51 ?_
  refine s_iconst C (pc := 52) (v := 2) dL_turned_52 (by decide) ?_
  refine s_iload_n C (pc := 53) dL_turned_53 rfl 6 rfl ?_
  refine s_imul C (pc := 54) dL_turned_54 ?_
  refine s_top C (y := nI (2 * w)) (pk_mul 2 w) ?_
  refine s_iconst C (pc := 55) (v := 1) dL_turned_55 (by decide) ?_
  refine s_iadd C (pc := 56) dL_turned_56 ?_
  refine s_top C (y := nI ((2 * w) + 1)) (nI_add _ _) ?_
  refine s_calli C (pc := 57) (wr := [(b, .inr (2, [.ref h, .ref tr, .ref hi, .ref sl, .ref sf, .ref hg, .int hc])), (h, .inr (1, [.ref hp, .ref hq, .int (nI n), .int (nI w), .int f, .int ll])), (hp, .inl (X.2.1, 4, .inl (P))), (hq, .inl (X.2.1, 4, .inl (Q))), (hg, .inr (0, [.ref hgn, .int (nI z), .long ar0, .long lf, .long gl])), (hgn, .inl (X.2.1, 144, .inl (F)))]) (wc' := []) (wn := [(b, .inr (2, [.ref h, .ref tr, .ref hi, .ref sl, .ref sf, .ref hg, .int hc])), (h, .inr (1, [.ref hp, .ref hq, .int (nI n), .int (nI w), .int f, .int ll])), (hp, .inl (X.2.1, 4, .inl (P))), (hq, .inl (X.2.1, 4, .inl (Q))), (hg, .inr (0, [.ref hgn, .int (nI z), .long ar0, .long lf, .long gl])), (hgn, .inl (X.2.1, 144, .inl (F)))]) (r_S C (As := [.int (x >>> (9 &&& 31)), .int (nI ((2 * w) + 1))]) (rest := []) (kL_low l X (x >>> (9 &&& 31)) ((2 * w) + 1) (by first | assumption | omega | decide) (by first | assumption | omega | decide)) (va_cwS 2 C.ts gL_turned_L_low rfl rfl rfl (by decide +kernel) ⟨Nat.le_of_ble_eq_true rfl, Nat.le_of_ble_eq_true rfl⟩) [] (by decide) rfl rfl (Nat.le_of_ble_eq_true rfl) rfl dL_turned_57 ⟨Nat.zero_le _, Nat.zero_le _⟩) [] [0, 1, 2, 3, 4, 5] [0, 1, 2, 3, 4, 5] rfl rfl (by decide) (by decide) (by decide) rfl ?_
  refine s_iload_n C (pc := 60) dL_turned_60 rfl 6 rfl ?_
  refine s_isub C (pc := 61) dL_turned_61 ?_
  obtain ⟨zd, e_zd, o_zd⟩ := tu_lo (x >>> ((9 : Int32) &&& 31)) hw
  refine s_top C (y := iI zd) e_zd ?_
  refine s_istore C (pc := 62) (ls' := [(8, .int (iI zd)), (7, .int (iI zc)), (6, .int (iI zb)), (5, .int (iI za)), (0, .ref b), (1, .int (nI i)), (2, .int (nI j)), (3, .int (nI w)), (4, .int x)]) dL_turned_62 (by decide) rfl ?_
  by_cases hz : (za ≠ 0 ∨ zb ≠ 0) ∧ (zc ≠ 0 ∨ zd ≠ 0)
  · skip
    refine s_aload_n C (pc := 64) dL_turned_64 rfl 4 rfl ?_
    refine s_iload_n C (pc := 65) dL_turned_65 rfl 5 rfl ?_
    refine s_iload_n C (pc := 66) dL_turned_66 rfl 6 rfl ?_
    refine s_iload C (pc := 67) dL_turned_67 3 rfl ?_
    refine s_iload C (pc := 69) dL_turned_69 2 rfl ?_
    refine s_iload C (pc := 71) dL_turned_71 1 rfl ?_
    refine s_iload C (pc := 73) dL_turned_73 0 rfl ?_
    refine s_calllX C (pc := 75) (wr := []) (wc' := (fun u75_1 : GD => [(b, .inr (2, [.ref h, .ref tr, .ref hi, .ref sl, .ref sf, .ref hg, .int hc])), (h, .inr (1, [.ref hp, .ref hq, .int (nI n), .int (nI w), .int f, .int ll])), (hp, .inl (X.2.1, 4, .inl (P))), (hq, .inl (X.2.1, 4, .inl (Q))), (hg, .inr (0, [.ref hgn, .int (nI u75_1.1), .long u75_1.2.2.1, .long u75_1.2.2.2.1, .long u75_1.2.2.2.2])), (hgn, .inl (X.2.1, 144, .inl (u75_1.2.1)))])) (wn := (fun u75_1 : GD => [(b, .inr (2, [.ref h, .ref tr, .ref hi, .ref sl, .ref sf, .ref hg, .int hc])), (h, .inr (1, [.ref hp, .ref hq, .int (nI n), .int (nI w), .int f, .int ll])), (hp, .inl (X.2.1, 4, .inl (P))), (hq, .inl (X.2.1, 4, .inl (Q))), (hg, .inr (0, [.ref hgn, .int (nI u75_1.1), .long u75_1.2.2.1, .long u75_1.2.2.2.1, .long u75_1.2.2.2.2])), (hgn, .inl (X.2.1, 144, .inl (u75_1.2.1)))])) (r_V C (As := [.int (nI i), .int (nI j), .int (iI za), .int (iI zb), .int (iI zc), .int (iI zd)]) (rest := []) (kT_num l X b tr hi sl sf hc h hp hq n P Q w f ll hg hgn z F ar0 lf gl i j za zb zc zd (by first | assumption | omega | decide) (by first | assumption | omega | decide) (by first | assumption | omega | decide) (by first | assumption | omega | decide) (by first | assumption | omega | decide) (by first | assumption | omega | decide) o_za o_zb o_zc o_zd hz.1 hz.2) (cwV 6 C.ts gL_turned_X2_squareNumerator rfl rfl rfl (by decide +kernel) ⟨Nat.le_of_ble_eq_true rfl, Nat.le_of_ble_eq_true rfl⟩) (q0 := 0) rfl rfl [0, 1, 2, 3, 4, 5] (by decide) rfl rfl (Nat.le_of_ble_eq_true rfl) rfl dL_turned_75 ⟨Nat.zero_le _, Nat.zero_le _⟩) [0, 1, 2, 3, 4, 5] [] [0, 1, 2, 3, 4, 5] rfl rfl (by decide) (by decide) (by decide) (fun _ => rfl) (fun u75_1 _ => ?_)
    refine s_lstore C (pc := 78) (ls' := [(9, .long (lN (upN (nN P Q i j za zb zc zd) (aP P Q i j)))), (8, .int (iI zd)), (7, .int (iI zc)), (6, .int (iI zb)), (5, .int (iI za)), (0, .ref b), (1, .int (nI i)), (2, .int (nI j)), (3, .int (nI w)), (4, .int x)]) dL_turned_78 (by decide) rfl ?_
    refine s_aload_n C (pc := 80) dL_turned_80 rfl 5 rfl ?_
    refine s_iload_n C (pc := 81) dL_turned_81 rfl 6 rfl ?_
    refine s_iload_n C (pc := 82) dL_turned_82 rfl 7 rfl ?_
    refine s_iload C (pc := 83) dL_turned_83 4 rfl ?_
    refine s_iload C (pc := 85) dL_turned_85 3 rfl ?_
    refine s_iload C (pc := 87) dL_turned_87 2 rfl ?_
    refine s_iload C (pc := 89) dL_turned_89 1 rfl ?_
    refine s_calllX C (pc := 91) (wr := []) (wc' := (fun u91_2 : GD => [(b, .inr (2, [.ref h, .ref tr, .ref hi, .ref sl, .ref sf, .ref hg, .int hc])), (h, .inr (1, [.ref hp, .ref hq, .int (nI n), .int (nI w), .int f, .int ll])), (hp, .inl (X.2.1, 4, .inl (P))), (hq, .inl (X.2.1, 4, .inl (Q))), (hg, .inr (0, [.ref hgn, .int (nI u91_2.1), .long u91_2.2.2.1, .long u91_2.2.2.2.1, .long u91_2.2.2.2.2])), (hgn, .inl (X.2.1, 144, .inl (u91_2.2.1)))])) (wn := (fun u91_2 : GD => [(b, .inr (2, [.ref h, .ref tr, .ref hi, .ref sl, .ref sf, .ref hg, .int hc])), (h, .inr (1, [.ref hp, .ref hq, .int (nI n), .int (nI w), .int f, .int ll])), (hp, .inl (X.2.1, 4, .inl (P))), (hq, .inl (X.2.1, 4, .inl (Q))), (hg, .inr (0, [.ref hgn, .int (nI u91_2.1), .long u91_2.2.2.1, .long u91_2.2.2.2.1, .long u91_2.2.2.2.2])), (hgn, .inl (X.2.1, 144, .inl (u91_2.2.1)))])) (r_V C (As := [.int (nI i), .int (nI j), .int (iI za), .int (iI zb), .int (iI zc), .int (iI zd)]) (rest := []) (kT_den l X b tr hi sl sf hc h hp hq n P Q w f ll hg hgn u75_1.1 u75_1.2.1 u75_1.2.2.1 u75_1.2.2.2.1 u75_1.2.2.2.2 i j za zb zc zd (by first | assumption | omega | decide) (by first | assumption | omega | decide) (by first | assumption | omega | decide) (by first | assumption | omega | decide) (by first | assumption | omega | decide) (by first | assumption | omega | decide) o_za o_zb o_zc o_zd hz.1 hz.2) (cwV 6 C.ts gL_turned_X2_squareDenominator rfl rfl rfl (by decide +kernel) ⟨Nat.le_of_ble_eq_true rfl, Nat.le_of_ble_eq_true rfl⟩) (q0 := 0) rfl rfl [0, 1, 2, 3, 4, 5] (by decide) rfl rfl (Nat.le_of_ble_eq_true rfl) rfl dL_turned_91 ⟨Nat.zero_le _, Nat.zero_le _⟩) [0, 1, 2, 3, 4, 5] [] [0, 1, 2, 3, 4, 5] rfl rfl (by decide) (by decide) (by decide) (fun _ => rfl) (fun u91_2 _ => ?_)
    refine s_lstore C (pc := 94) (ls' := [(11, .long (lN (dnN (nN P Q i j za zb zc zd) (aP P Q i j)))), (9, .long (lN (upN (nN P Q i j za zb zc zd) (aP P Q i j)))), (8, .int (iI zd)), (7, .int (iI zc)), (6, .int (iI zb)), (5, .int (iI za)), (0, .ref b), (1, .int (nI i)), (2, .int (nI j)), (3, .int (nI w)), (4, .int x)]) dL_turned_94 (by decide) rfl ?_
    refine s_aload_n C (pc := 96) dL_turned_96 rfl 6 rfl ?_
    refine s_iload_n C (pc := 97) dL_turned_97 rfl 7 rfl ?_
    refine s_iload_n C (pc := 98) dL_turned_98 rfl 8 rfl ?_
    refine s_iload C (pc := 99) dL_turned_99 5 rfl ?_
    refine s_iload C (pc := 101) dL_turned_101 4 rfl ?_
    refine s_iload C (pc := 103) dL_turned_103 3 rfl ?_
    refine s_iload C (pc := 105) dL_turned_105 2 rfl ?_
    refine s_calliX C (pc := 107) (wr := []) (wc' := (fun u107_3 : GD => [(b, .inr (2, [.ref h, .ref tr, .ref hi, .ref sl, .ref sf, .ref hg, .int hc])), (h, .inr (1, [.ref hp, .ref hq, .int (nI n), .int (nI w), .int f, .int ll])), (hp, .inl (X.2.1, 4, .inl (P))), (hq, .inl (X.2.1, 4, .inl (Q))), (hg, .inr (0, [.ref hgn, .int (nI u107_3.1), .long u107_3.2.2.1, .long u107_3.2.2.2.1, .long u107_3.2.2.2.2])), (hgn, .inl (X.2.1, 144, .inl (u107_3.2.1)))])) (wn := (fun u107_3 : GD => [(b, .inr (2, [.ref h, .ref tr, .ref hi, .ref sl, .ref sf, .ref hg, .int hc])), (h, .inr (1, [.ref hp, .ref hq, .int (nI n), .int (nI w), .int f, .int ll])), (hp, .inl (X.2.1, 4, .inl (P))), (hq, .inl (X.2.1, 4, .inl (Q))), (hg, .inr (0, [.ref hgn, .int (nI u107_3.1), .long u107_3.2.2.1, .long u107_3.2.2.2.1, .long u107_3.2.2.2.2])), (hgn, .inl (X.2.1, 144, .inl (u107_3.2.1)))])) (r_V C (As := [.int (nI i), .int (nI j), .int (iI za), .int (iI zb), .int (iI zc), .int (iI zd)]) (rest := []) (kT_knd l X b tr hi sl sf hc h hp hq n P Q w f ll hg hgn u91_2.1 u91_2.2.1 u91_2.2.2.1 u91_2.2.2.2.1 u91_2.2.2.2.2 i j za zb zc zd (by first | assumption | omega | decide) (by first | assumption | omega | decide) (by first | assumption | omega | decide) (by first | assumption | omega | decide) (by first | assumption | omega | decide) (by first | assumption | omega | decide) o_za o_zb o_zc o_zd hz.1 hz.2) (cwV 6 C.ts gL_turned_X2_kind rfl rfl rfl (by decide +kernel) ⟨Nat.le_of_ble_eq_true rfl, Nat.le_of_ble_eq_true rfl⟩) (q0 := 0) rfl rfl [0, 1, 2, 3, 4, 5] (by decide) rfl rfl (Nat.le_of_ble_eq_true rfl) rfl dL_turned_107 ⟨Nat.zero_le _, Nat.zero_le _⟩) [0, 1, 2, 3, 4, 5] [] [0, 1, 2, 3, 4, 5] rfl rfl (by decide) (by decide) (by decide) (fun _ => rfl) (fun u107_3 _ => ?_)
    refine s_istore C (pc := 110) (ls' := [(13, .int (nI (kb (aP P Q i j) f ll (nN P Q i j za zb zc zd)))), (11, .long (lN (dnN (nN P Q i j za zb zc zd) (aP P Q i j)))), (9, .long (lN (upN (nN P Q i j za zb zc zd) (aP P Q i j)))), (8, .int (iI zd)), (7, .int (iI zc)), (6, .int (iI zb)), (5, .int (iI za)), (0, .ref b), (1, .int (nI i)), (2, .int (nI j)), (3, .int (nI w)), (4, .int x)]) dL_turned_110 (by decide) rfl ?_
    have J137 : ∀ (u : GD), g [(b, .inr (2, [.ref h, .ref tr, .ref hi, .ref sl, .ref sf, .ref hg, .int hc])), (h, .inr (1, [.ref hp, .ref hq, .int (nI n), .int (nI w), .int f, .int ll])), (hp, .inl (X.2.1, 4, .inl (P))), (hq, .inl (X.2.1, 4, .inl (Q))), (hg, .inr (0, [.ref hgn, .int (nI u.1), .long u.2.2.1, .long u.2.2.2.1, .long u.2.2.2.2])), (hgn, .inl (X.2.1, 144, .inl (u.2.1)))] 137 [(13, .int (nI (kb (aP P Q i j) f ll (nN P Q i j za zb zc zd)))), (11, .long (lN (dnN (nN P Q i j za zb zc zd) (aP P Q i j)))), (9, .long (lN (upN (nN P Q i j za zb zc zd) (aP P Q i j)))), (8, .int (iI zd)), (7, .int (iI zc)), (6, .int (iI zb)), (5, .int (iI za)), (0, .ref b), (1, .int (nI i)), (2, .int (nI j)), (3, .int (nI w)), (4, .int x)] [.int 0] := by
      intro u
      refine s_istore C (pc := 137) (ls' := [(14, .int 0), (13, .int (nI (kb (aP P Q i j) f ll (nN P Q i j za zb zc zd)))), (11, .long (lN (dnN (nN P Q i j za zb zc zd) (aP P Q i j)))), (9, .long (lN (upN (nN P Q i j za zb zc zd) (aP P Q i j)))), (8, .int (iI zd)), (7, .int (iI zc)), (6, .int (iI zb)), (5, .int (iI za)), (0, .ref b), (1, .int (nI i)), (2, .int (nI j)), (3, .int (nI w)), (4, .int x)]) dL_turned_137 (by decide) rfl ?_
      refine s_aload_n C (pc := 139) dL_turned_139 rfl 8 rfl ?_
      refine s_iload_n C (pc := 140) dL_turned_140 rfl 9 rfl ?_
      refine s_iload_n C (pc := 141) dL_turned_141 rfl 10 rfl ?_
      refine s_iload C (pc := 142) dL_turned_142 7 rfl ?_
      refine s_ineg C (pc := 144) dL_turned_144 ?_
      refine s_top C (y := iI (-za)) ((iI_neg _)) ?_
      refine s_iload C (pc := 145) dL_turned_145 6 rfl ?_
      refine s_ineg C (pc := 147) dL_turned_147 ?_
      refine s_top C (y := iI (-zb)) ((iI_neg _)) ?_
      refine s_iload C (pc := 148) dL_turned_148 5 rfl ?_
      refine s_ineg C (pc := 150) dL_turned_150 ?_
      refine s_top C (y := iI (-zc)) ((iI_neg _)) ?_
      refine s_iload C (pc := 151) dL_turned_151 4 rfl ?_
      refine s_ineg C (pc := 153) dL_turned_153 ?_
      refine s_top C (y := iI (-zd)) ((iI_neg _)) ?_
      refine s_calllX C (pc := 154) (wr := []) (wc' := (fun u154_4 : GD => [(b, .inr (2, [.ref h, .ref tr, .ref hi, .ref sl, .ref sf, .ref hg, .int hc])), (h, .inr (1, [.ref hp, .ref hq, .int (nI n), .int (nI w), .int f, .int ll])), (hp, .inl (X.2.1, 4, .inl (P))), (hq, .inl (X.2.1, 4, .inl (Q))), (hg, .inr (0, [.ref hgn, .int (nI u154_4.1), .long u154_4.2.2.1, .long u154_4.2.2.2.1, .long u154_4.2.2.2.2])), (hgn, .inl (X.2.1, 144, .inl (u154_4.2.1)))])) (wn := (fun u154_4 : GD => [(b, .inr (2, [.ref h, .ref tr, .ref hi, .ref sl, .ref sf, .ref hg, .int hc])), (h, .inr (1, [.ref hp, .ref hq, .int (nI n), .int (nI w), .int f, .int ll])), (hp, .inl (X.2.1, 4, .inl (P))), (hq, .inl (X.2.1, 4, .inl (Q))), (hg, .inr (0, [.ref hgn, .int (nI u154_4.1), .long u154_4.2.2.1, .long u154_4.2.2.2.1, .long u154_4.2.2.2.2])), (hgn, .inl (X.2.1, 144, .inl (u154_4.2.1)))])) (r_V C (As := [.int (nI i), .int (nI j), .int (iI (-za)), .int (iI (-zb)), .int (iI (-zc)), .int (iI (-zd))]) (rest := []) (kT_num l X b tr hi sl sf hc h hp hq n P Q w f ll hg hgn u.1 u.2.1 u.2.2.1 u.2.2.2.1 u.2.2.2.2 i j (-za) (-zb) (-zc) (-zd) (by first | assumption | omega | decide) (by first | assumption | omega | decide) (by first | assumption | omega | decide) (by first | assumption | omega | decide) (by first | assumption | omega | decide) (by first | assumption | omega | decide) (ow_neg o_za) (ow_neg o_zb) (ow_neg o_zc) (ow_neg o_zd) (by have := hz.1; omega) (by have := hz.2; omega)) (cwV 6 C.ts gL_turned_X2_squareNumerator rfl rfl rfl (by decide +kernel) ⟨Nat.le_of_ble_eq_true rfl, Nat.le_of_ble_eq_true rfl⟩) (q0 := 0) rfl rfl [0, 1, 2, 3, 4, 5] (by decide) rfl rfl (Nat.le_of_ble_eq_true rfl) rfl dL_turned_154 ⟨Nat.zero_le _, Nat.zero_le _⟩) [0, 1, 2, 3, 4, 5] [] [0, 1, 2, 3, 4, 5] rfl rfl (by decide) (by decide) (by decide) (fun _ => rfl) (fun u154_4 _ => ?_)
      refine s_topl C (y := lN (upN (nN P Q i j za zb zc zd) (aP P Q i j))) ((by rw [nN_ng])) ?_
      refine s_lload C (pc := 157) dL_turned_157 3 rfl ?_
      refine s_lcmp_ne C (pc := 159) (tgt := 358) dL_turned_159 dL_turned_160 (by decide) (fun c159 => ?_) (fun c159 => ?_)
      · skip
        refine s_iconst C (pc := 358) (v := 0) dL_turned_358 (by decide) ?_
        exact s_zretX C (pc := 359) hr hlk ((u154_4.1, u154_4.2.1, u154_4.2.2.1, u154_4.2.2.2.1, u154_4.2.2.2.2)) trivial [0, 1, 2, 3, 4, 5] (by decide) (rfl) rfl (rfl) dL_turned_359
      · skip
        refine s_aload_n C (pc := 163) dL_turned_163 rfl 8 rfl ?_
        refine s_iload_n C (pc := 164) dL_turned_164 rfl 9 rfl ?_
        refine s_iload_n C (pc := 165) dL_turned_165 rfl 10 rfl ?_
        refine s_iload C (pc := 166) dL_turned_166 7 rfl ?_
        refine s_ineg C (pc := 168) dL_turned_168 ?_
        refine s_top C (y := iI (-za)) ((iI_neg _)) ?_
        refine s_iload C (pc := 169) dL_turned_169 6 rfl ?_
        refine s_ineg C (pc := 171) dL_turned_171 ?_
        refine s_top C (y := iI (-zb)) ((iI_neg _)) ?_
        refine s_iload C (pc := 172) dL_turned_172 5 rfl ?_
        refine s_ineg C (pc := 174) dL_turned_174 ?_
        refine s_top C (y := iI (-zc)) ((iI_neg _)) ?_
        refine s_iload C (pc := 175) dL_turned_175 4 rfl ?_
        refine s_ineg C (pc := 177) dL_turned_177 ?_
        refine s_top C (y := iI (-zd)) ((iI_neg _)) ?_
        refine s_calllX C (pc := 178) (wr := []) (wc' := (fun u178_5 : GD => [(b, .inr (2, [.ref h, .ref tr, .ref hi, .ref sl, .ref sf, .ref hg, .int hc])), (h, .inr (1, [.ref hp, .ref hq, .int (nI n), .int (nI w), .int f, .int ll])), (hp, .inl (X.2.1, 4, .inl (P))), (hq, .inl (X.2.1, 4, .inl (Q))), (hg, .inr (0, [.ref hgn, .int (nI u178_5.1), .long u178_5.2.2.1, .long u178_5.2.2.2.1, .long u178_5.2.2.2.2])), (hgn, .inl (X.2.1, 144, .inl (u178_5.2.1)))])) (wn := (fun u178_5 : GD => [(b, .inr (2, [.ref h, .ref tr, .ref hi, .ref sl, .ref sf, .ref hg, .int hc])), (h, .inr (1, [.ref hp, .ref hq, .int (nI n), .int (nI w), .int f, .int ll])), (hp, .inl (X.2.1, 4, .inl (P))), (hq, .inl (X.2.1, 4, .inl (Q))), (hg, .inr (0, [.ref hgn, .int (nI u178_5.1), .long u178_5.2.2.1, .long u178_5.2.2.2.1, .long u178_5.2.2.2.2])), (hgn, .inl (X.2.1, 144, .inl (u178_5.2.1)))])) (r_V C (As := [.int (nI i), .int (nI j), .int (iI (-za)), .int (iI (-zb)), .int (iI (-zc)), .int (iI (-zd))]) (rest := []) (kT_den l X b tr hi sl sf hc h hp hq n P Q w f ll hg hgn u154_4.1 u154_4.2.1 u154_4.2.2.1 u154_4.2.2.2.1 u154_4.2.2.2.2 i j (-za) (-zb) (-zc) (-zd) (by first | assumption | omega | decide) (by first | assumption | omega | decide) (by first | assumption | omega | decide) (by first | assumption | omega | decide) (by first | assumption | omega | decide) (by first | assumption | omega | decide) (ow_neg o_za) (ow_neg o_zb) (ow_neg o_zc) (ow_neg o_zd) (by have := hz.1; omega) (by have := hz.2; omega)) (cwV 6 C.ts gL_turned_X2_squareDenominator rfl rfl rfl (by decide +kernel) ⟨Nat.le_of_ble_eq_true rfl, Nat.le_of_ble_eq_true rfl⟩) (q0 := 0) rfl rfl [0, 1, 2, 3, 4, 5] (by decide) rfl rfl (Nat.le_of_ble_eq_true rfl) rfl dL_turned_178 ⟨Nat.zero_le _, Nat.zero_le _⟩) [0, 1, 2, 3, 4, 5] [] [0, 1, 2, 3, 4, 5] rfl rfl (by decide) (by decide) (by decide) (fun _ => rfl) (fun u178_5 _ => ?_)
        refine s_topl C (y := lN (dnN (nN P Q i j za zb zc zd) (aP P Q i j))) ((by rw [nN_ng])) ?_
        refine s_lload C (pc := 181) dL_turned_181 2 rfl ?_
        refine s_lcmp_ne C (pc := 183) (tgt := 358) dL_turned_183 dL_turned_184 (by decide) (fun c183 => ?_) (fun c183 => ?_)
        · skip
          refine s_iconst C (pc := 358) (v := 0) dL_turned_358 (by decide) ?_
          exact s_zretX C (pc := 359) hr hlk ((u178_5.1, u178_5.2.1, u178_5.2.2.1, u178_5.2.2.2.1, u178_5.2.2.2.2)) trivial [0, 1, 2, 3, 4, 5] (by decide) (rfl) rfl (rfl) dL_turned_359
        · skip
          refine s_aload_n C (pc := 187) dL_turned_187 rfl 8 rfl ?_
          refine s_iload_n C (pc := 188) dL_turned_188 rfl 9 rfl ?_
          refine s_iload_n C (pc := 189) dL_turned_189 rfl 10 rfl ?_
          refine s_iload C (pc := 190) dL_turned_190 7 rfl ?_
          refine s_ineg C (pc := 192) dL_turned_192 ?_
          refine s_top C (y := iI (-za)) ((iI_neg _)) ?_
          refine s_iload C (pc := 193) dL_turned_193 6 rfl ?_
          refine s_ineg C (pc := 195) dL_turned_195 ?_
          refine s_top C (y := iI (-zb)) ((iI_neg _)) ?_
          refine s_iload C (pc := 196) dL_turned_196 5 rfl ?_
          refine s_ineg C (pc := 198) dL_turned_198 ?_
          refine s_top C (y := iI (-zc)) ((iI_neg _)) ?_
          refine s_iload C (pc := 199) dL_turned_199 4 rfl ?_
          refine s_ineg C (pc := 201) dL_turned_201 ?_
          refine s_top C (y := iI (-zd)) ((iI_neg _)) ?_
          refine s_calliX C (pc := 202) (wr := []) (wc' := (fun u202_6 : GD => [(b, .inr (2, [.ref h, .ref tr, .ref hi, .ref sl, .ref sf, .ref hg, .int hc])), (h, .inr (1, [.ref hp, .ref hq, .int (nI n), .int (nI w), .int f, .int ll])), (hp, .inl (X.2.1, 4, .inl (P))), (hq, .inl (X.2.1, 4, .inl (Q))), (hg, .inr (0, [.ref hgn, .int (nI u202_6.1), .long u202_6.2.2.1, .long u202_6.2.2.2.1, .long u202_6.2.2.2.2])), (hgn, .inl (X.2.1, 144, .inl (u202_6.2.1)))])) (wn := (fun u202_6 : GD => [(b, .inr (2, [.ref h, .ref tr, .ref hi, .ref sl, .ref sf, .ref hg, .int hc])), (h, .inr (1, [.ref hp, .ref hq, .int (nI n), .int (nI w), .int f, .int ll])), (hp, .inl (X.2.1, 4, .inl (P))), (hq, .inl (X.2.1, 4, .inl (Q))), (hg, .inr (0, [.ref hgn, .int (nI u202_6.1), .long u202_6.2.2.1, .long u202_6.2.2.2.1, .long u202_6.2.2.2.2])), (hgn, .inl (X.2.1, 144, .inl (u202_6.2.1)))])) (r_V C (As := [.int (nI i), .int (nI j), .int (iI (-za)), .int (iI (-zb)), .int (iI (-zc)), .int (iI (-zd))]) (rest := []) (kT_knd l X b tr hi sl sf hc h hp hq n P Q w f ll hg hgn u178_5.1 u178_5.2.1 u178_5.2.2.1 u178_5.2.2.2.1 u178_5.2.2.2.2 i j (-za) (-zb) (-zc) (-zd) (by first | assumption | omega | decide) (by first | assumption | omega | decide) (by first | assumption | omega | decide) (by first | assumption | omega | decide) (by first | assumption | omega | decide) (by first | assumption | omega | decide) (ow_neg o_za) (ow_neg o_zb) (ow_neg o_zc) (ow_neg o_zd) (by have := hz.1; omega) (by have := hz.2; omega)) (cwV 6 C.ts gL_turned_X2_kind rfl rfl rfl (by decide +kernel) ⟨Nat.le_of_ble_eq_true rfl, Nat.le_of_ble_eq_true rfl⟩) (q0 := 0) rfl rfl [0, 1, 2, 3, 4, 5] (by decide) rfl rfl (Nat.le_of_ble_eq_true rfl) rfl dL_turned_202 ⟨Nat.zero_le _, Nat.zero_le _⟩) [0, 1, 2, 3, 4, 5] [] [0, 1, 2, 3, 4, 5] rfl rfl (by decide) (by decide) (by decide) (fun _ => rfl) (fun u202_6 _ => ?_)
          refine s_top C (y := nI (kb (aP P Q i j) f ll (nN P Q i j za zb zc zd))) ((by rw [nN_ng])) ?_
          refine s_iload C (pc := 205) dL_turned_205 1 rfl ?_
          refine s_icmp_ne C (pc := 207) (tgt := 358) dL_turned_207 (by decide) (fun h => absurd (rfl) h) (fun c207 => ?_)
          refine s_aload_n C (pc := 210) dL_turned_210 rfl 8 rfl ?_
          refine s_iload_n C (pc := 211) dL_turned_211 rfl 9 rfl ?_
          refine s_iload_n C (pc := 212) dL_turned_212 rfl 10 rfl ?_
          refine s_iload C (pc := 213) dL_turned_213 6 rfl ?_
          refine s_ineg C (pc := 215) dL_turned_215 ?_
          refine s_top C (y := iI (-zb)) ((iI_neg _)) ?_
          refine s_iload C (pc := 216) dL_turned_216 7 rfl ?_
          refine s_iload C (pc := 218) dL_turned_218 4 rfl ?_
          refine s_ineg C (pc := 220) dL_turned_220 ?_
          refine s_top C (y := iI (-zd)) ((iI_neg _)) ?_
          refine s_iload C (pc := 221) dL_turned_221 5 rfl ?_
          refine s_calllX C (pc := 223) (wr := []) (wc' := (fun u223_7 : GD => [(b, .inr (2, [.ref h, .ref tr, .ref hi, .ref sl, .ref sf, .ref hg, .int hc])), (h, .inr (1, [.ref hp, .ref hq, .int (nI n), .int (nI w), .int f, .int ll])), (hp, .inl (X.2.1, 4, .inl (P))), (hq, .inl (X.2.1, 4, .inl (Q))), (hg, .inr (0, [.ref hgn, .int (nI u223_7.1), .long u223_7.2.2.1, .long u223_7.2.2.2.1, .long u223_7.2.2.2.2])), (hgn, .inl (X.2.1, 144, .inl (u223_7.2.1)))])) (wn := (fun u223_7 : GD => [(b, .inr (2, [.ref h, .ref tr, .ref hi, .ref sl, .ref sf, .ref hg, .int hc])), (h, .inr (1, [.ref hp, .ref hq, .int (nI n), .int (nI w), .int f, .int ll])), (hp, .inl (X.2.1, 4, .inl (P))), (hq, .inl (X.2.1, 4, .inl (Q))), (hg, .inr (0, [.ref hgn, .int (nI u223_7.1), .long u223_7.2.2.1, .long u223_7.2.2.2.1, .long u223_7.2.2.2.2])), (hgn, .inl (X.2.1, 144, .inl (u223_7.2.1)))])) (r_V C (As := [.int (nI i), .int (nI j), .int (iI (-zb)), .int (iI za), .int (iI (-zd)), .int (iI zc)]) (rest := []) (kT_num l X b tr hi sl sf hc h hp hq n P Q w f ll hg hgn u202_6.1 u202_6.2.1 u202_6.2.2.1 u202_6.2.2.2.1 u202_6.2.2.2.2 i j (-zb) za (-zd) zc (by first | assumption | omega | decide) (by first | assumption | omega | decide) (by first | assumption | omega | decide) (by first | assumption | omega | decide) (by first | assumption | omega | decide) (by first | assumption | omega | decide) (ow_neg o_zb) o_za (ow_neg o_zd) o_zc (by have := hz.1; omega) (by have := hz.2; omega)) (cwV 6 C.ts gL_turned_X2_squareNumerator rfl rfl rfl (by decide +kernel) ⟨Nat.le_of_ble_eq_true rfl, Nat.le_of_ble_eq_true rfl⟩) (q0 := 0) rfl rfl [0, 1, 2, 3, 4, 5] (by decide) rfl rfl (Nat.le_of_ble_eq_true rfl) rfl dL_turned_223 ⟨Nat.zero_le _, Nat.zero_le _⟩) [0, 1, 2, 3, 4, 5] [] [0, 1, 2, 3, 4, 5] rfl rfl (by decide) (by decide) (by decide) (fun _ => rfl) (fun u223_7 _ => ?_)
          refine s_topl C (y := lN (upN (nN P Q i j za zb zc zd) (aP P Q i j))) ((by rw [nN_rt])) ?_
          refine s_lload C (pc := 226) dL_turned_226 3 rfl ?_
          refine s_lcmp_ne C (pc := 228) (tgt := 358) dL_turned_228 dL_turned_229 (by decide) (fun c228 => ?_) (fun c228 => ?_)
          · skip
            refine s_iconst C (pc := 358) (v := 0) dL_turned_358 (by decide) ?_
            exact s_zretX C (pc := 359) hr hlk ((u223_7.1, u223_7.2.1, u223_7.2.2.1, u223_7.2.2.2.1, u223_7.2.2.2.2)) trivial [0, 1, 2, 3, 4, 5] (by decide) (rfl) rfl (rfl) dL_turned_359
          · skip
            refine s_aload_n C (pc := 232) dL_turned_232 rfl 8 rfl ?_
            refine s_iload_n C (pc := 233) dL_turned_233 rfl 9 rfl ?_
            refine s_iload_n C (pc := 234) dL_turned_234 rfl 10 rfl ?_
            refine s_iload C (pc := 235) dL_turned_235 6 rfl ?_
            refine s_ineg C (pc := 237) dL_turned_237 ?_
            refine s_top C (y := iI (-zb)) ((iI_neg _)) ?_
            refine s_iload C (pc := 238) dL_turned_238 7 rfl ?_
            refine s_iload C (pc := 240) dL_turned_240 4 rfl ?_
            refine s_ineg C (pc := 242) dL_turned_242 ?_
            refine s_top C (y := iI (-zd)) ((iI_neg _)) ?_
            refine s_iload C (pc := 243) dL_turned_243 5 rfl ?_
            refine s_calllX C (pc := 245) (wr := []) (wc' := (fun u245_8 : GD => [(b, .inr (2, [.ref h, .ref tr, .ref hi, .ref sl, .ref sf, .ref hg, .int hc])), (h, .inr (1, [.ref hp, .ref hq, .int (nI n), .int (nI w), .int f, .int ll])), (hp, .inl (X.2.1, 4, .inl (P))), (hq, .inl (X.2.1, 4, .inl (Q))), (hg, .inr (0, [.ref hgn, .int (nI u245_8.1), .long u245_8.2.2.1, .long u245_8.2.2.2.1, .long u245_8.2.2.2.2])), (hgn, .inl (X.2.1, 144, .inl (u245_8.2.1)))])) (wn := (fun u245_8 : GD => [(b, .inr (2, [.ref h, .ref tr, .ref hi, .ref sl, .ref sf, .ref hg, .int hc])), (h, .inr (1, [.ref hp, .ref hq, .int (nI n), .int (nI w), .int f, .int ll])), (hp, .inl (X.2.1, 4, .inl (P))), (hq, .inl (X.2.1, 4, .inl (Q))), (hg, .inr (0, [.ref hgn, .int (nI u245_8.1), .long u245_8.2.2.1, .long u245_8.2.2.2.1, .long u245_8.2.2.2.2])), (hgn, .inl (X.2.1, 144, .inl (u245_8.2.1)))])) (r_V C (As := [.int (nI i), .int (nI j), .int (iI (-zb)), .int (iI za), .int (iI (-zd)), .int (iI zc)]) (rest := []) (kT_den l X b tr hi sl sf hc h hp hq n P Q w f ll hg hgn u223_7.1 u223_7.2.1 u223_7.2.2.1 u223_7.2.2.2.1 u223_7.2.2.2.2 i j (-zb) za (-zd) zc (by first | assumption | omega | decide) (by first | assumption | omega | decide) (by first | assumption | omega | decide) (by first | assumption | omega | decide) (by first | assumption | omega | decide) (by first | assumption | omega | decide) (ow_neg o_zb) o_za (ow_neg o_zd) o_zc (by have := hz.1; omega) (by have := hz.2; omega)) (cwV 6 C.ts gL_turned_X2_squareDenominator rfl rfl rfl (by decide +kernel) ⟨Nat.le_of_ble_eq_true rfl, Nat.le_of_ble_eq_true rfl⟩) (q0 := 0) rfl rfl [0, 1, 2, 3, 4, 5] (by decide) rfl rfl (Nat.le_of_ble_eq_true rfl) rfl dL_turned_245 ⟨Nat.zero_le _, Nat.zero_le _⟩) [0, 1, 2, 3, 4, 5] [] [0, 1, 2, 3, 4, 5] rfl rfl (by decide) (by decide) (by decide) (fun _ => rfl) (fun u245_8 _ => ?_)
            refine s_topl C (y := lN (dnN (nN P Q i j za zb zc zd) (aP P Q i j))) ((by rw [nN_rt])) ?_
            refine s_lload C (pc := 248) dL_turned_248 2 rfl ?_
            refine s_lcmp_ne C (pc := 250) (tgt := 358) dL_turned_250 dL_turned_251 (by decide) (fun c250 => ?_) (fun c250 => ?_)
            · skip
              refine s_iconst C (pc := 358) (v := 0) dL_turned_358 (by decide) ?_
              exact s_zretX C (pc := 359) hr hlk ((u245_8.1, u245_8.2.1, u245_8.2.2.1, u245_8.2.2.2.1, u245_8.2.2.2.2)) trivial [0, 1, 2, 3, 4, 5] (by decide) (rfl) rfl (rfl) dL_turned_359
            · skip
              refine s_aload_n C (pc := 254) dL_turned_254 rfl 8 rfl ?_
              refine s_iload_n C (pc := 255) dL_turned_255 rfl 9 rfl ?_
              refine s_iload_n C (pc := 256) dL_turned_256 rfl 10 rfl ?_
              refine s_iload C (pc := 257) dL_turned_257 6 rfl ?_
              refine s_ineg C (pc := 259) dL_turned_259 ?_
              refine s_top C (y := iI (-zb)) ((iI_neg _)) ?_
              refine s_iload C (pc := 260) dL_turned_260 7 rfl ?_
              refine s_iload C (pc := 262) dL_turned_262 4 rfl ?_
              refine s_ineg C (pc := 264) dL_turned_264 ?_
              refine s_top C (y := iI (-zd)) ((iI_neg _)) ?_
              refine s_iload C (pc := 265) dL_turned_265 5 rfl ?_
              refine s_calliX C (pc := 267) (wr := []) (wc' := (fun u267_9 : GD => [(b, .inr (2, [.ref h, .ref tr, .ref hi, .ref sl, .ref sf, .ref hg, .int hc])), (h, .inr (1, [.ref hp, .ref hq, .int (nI n), .int (nI w), .int f, .int ll])), (hp, .inl (X.2.1, 4, .inl (P))), (hq, .inl (X.2.1, 4, .inl (Q))), (hg, .inr (0, [.ref hgn, .int (nI u267_9.1), .long u267_9.2.2.1, .long u267_9.2.2.2.1, .long u267_9.2.2.2.2])), (hgn, .inl (X.2.1, 144, .inl (u267_9.2.1)))])) (wn := (fun u267_9 : GD => [(b, .inr (2, [.ref h, .ref tr, .ref hi, .ref sl, .ref sf, .ref hg, .int hc])), (h, .inr (1, [.ref hp, .ref hq, .int (nI n), .int (nI w), .int f, .int ll])), (hp, .inl (X.2.1, 4, .inl (P))), (hq, .inl (X.2.1, 4, .inl (Q))), (hg, .inr (0, [.ref hgn, .int (nI u267_9.1), .long u267_9.2.2.1, .long u267_9.2.2.2.1, .long u267_9.2.2.2.2])), (hgn, .inl (X.2.1, 144, .inl (u267_9.2.1)))])) (r_V C (As := [.int (nI i), .int (nI j), .int (iI (-zb)), .int (iI za), .int (iI (-zd)), .int (iI zc)]) (rest := []) (kT_knd l X b tr hi sl sf hc h hp hq n P Q w f ll hg hgn u245_8.1 u245_8.2.1 u245_8.2.2.1 u245_8.2.2.2.1 u245_8.2.2.2.2 i j (-zb) za (-zd) zc (by first | assumption | omega | decide) (by first | assumption | omega | decide) (by first | assumption | omega | decide) (by first | assumption | omega | decide) (by first | assumption | omega | decide) (by first | assumption | omega | decide) (ow_neg o_zb) o_za (ow_neg o_zd) o_zc (by have := hz.1; omega) (by have := hz.2; omega)) (cwV 6 C.ts gL_turned_X2_kind rfl rfl rfl (by decide +kernel) ⟨Nat.le_of_ble_eq_true rfl, Nat.le_of_ble_eq_true rfl⟩) (q0 := 0) rfl rfl [0, 1, 2, 3, 4, 5] (by decide) rfl rfl (Nat.le_of_ble_eq_true rfl) rfl dL_turned_267 ⟨Nat.zero_le _, Nat.zero_le _⟩) [0, 1, 2, 3, 4, 5] [] [0, 1, 2, 3, 4, 5] rfl rfl (by decide) (by decide) (by decide) (fun _ => rfl) (fun u267_9 _ => ?_)
              refine s_top C (y := nI (kb (aP P Q i j) f ll (nN P Q i j za zb zc zd))) ((by rw [nN_rt])) ?_
              refine s_iload C (pc := 270) dL_turned_270 1 rfl ?_
              refine s_icmp_ne C (pc := 272) (tgt := 358) dL_turned_272 (by decide) (fun h => absurd (rfl) h) (fun c272 => ?_)
              refine s_iload C (pc := 275) dL_turned_275 0 rfl ?_
              refine s_if_eq C (pc := 277) (tgt := 307) dL_turned_277 (by decide) (fun c277 => ?_) (fun h => absurd (by decide) h)
              have hud := (ud_n (tu_n hV hi hj hw o_za o_zb o_zc o_zd).2 hA).2.2
              by_cases h0 : nN P Q i j za zb zc zd = 0
              · skip
                refine s_lload C (pc := 307) dL_turned_307 3 rfl ?_
                refine s_lconst C (pc := 309) (v := 0) dL_turned_309 (by decide) ?_
                refine s_lcmp_ne C (pc := 310) (tgt := 318) dL_turned_310 dL_turned_311 (by decide) (fun c310 => ?_) (fun c310 => ?_)
                · skip
                  refine s_iconst C (pc := 318) (v := 0) dL_turned_318 (by decide) ?_
                  refine s_iload C (pc := 319) dL_turned_319 1 rfl ?_
                  refine s_if_ne C (pc := 321) (tgt := 328) dL_turned_321 (by decide) (fun h => absurd (by rw [(kb_0 _ _ _ _).mpr h0]; rfl) h) (fun c321 => ?_)
                  refine s_iconst C (pc := 324) (v := 1) dL_turned_324 (by decide) ?_
                  refine s_goto C (pc := 325) (tgt := 329) dL_turned_325 (by decide) ?_
                  refine s_icmp_ne C (pc := 329) (tgt := 358) dL_turned_329 (by decide) (fun c329 => ?_) (fun h => absurd h (by decide))
                  refine s_iconst C (pc := 358) (v := 0) dL_turned_358 (by decide) ?_
                  exact s_zretX C (pc := 359) hr hlk ((u267_9.1, u267_9.2.1, u267_9.2.2.1, u267_9.2.2.2.1, u267_9.2.2.2.2)) trivial [0, 1, 2, 3, 4, 5] (by decide) (rfl) rfl (rfl) dL_turned_359
                · skip
                  refine s_iconst C (pc := 314) (v := 1) dL_turned_314 (by decide) ?_
                  refine s_goto C (pc := 315) (tgt := 319) dL_turned_315 (by decide) ?_
                  refine s_iload C (pc := 319) dL_turned_319 1 rfl ?_
                  refine s_if_ne C (pc := 321) (tgt := 328) dL_turned_321 (by decide) (fun h => absurd (by rw [(kb_0 _ _ _ _).mpr h0]; rfl) h) (fun c321 => ?_)
                  refine s_iconst C (pc := 324) (v := 1) dL_turned_324 (by decide) ?_
                  refine s_goto C (pc := 325) (tgt := 329) dL_turned_325 (by decide) ?_
                  refine s_icmp_ne C (pc := 329) (tgt := 358) dL_turned_329 (by decide) (fun h => absurd (by decide) h) (fun c329 => ?_)
                  refine s_iload C (pc := 332) dL_turned_332 1 rfl ?_
                  refine s_iconst C (pc := 334) (v := 3) dL_turned_334 (by decide) ?_
                  refine s_icmp_gt C (pc := 335) (tgt := 358) dL_turned_335 (by decide) (fun h => absurd h (tu_k3 _ _ _ _)) (fun c335 => ?_)
                  refine s_aload_n C (pc := 338) dL_turned_338 rfl 8 rfl ?_
                  refine s_iload_n C (pc := 339) dL_turned_339 rfl 9 rfl ?_
                  refine s_iload_n C (pc := 340) dL_turned_340 rfl 10 rfl ?_
                  refine s_iload_n C (pc := 341) dL_turned_341 rfl 11 rfl ?_
                  refine s_iconst C (pc := 342) (v := 1) dL_turned_342 (by decide) ?_
                  refine s_iadd C (pc := 343) dL_turned_343 ?_
                  refine s_top C (y := nI (w + 1)) (nI_add _ _) ?_
                  refine s_iconst C (pc := 344) (v := 0) dL_turned_344 (by decide) ?_
                  refine s_iconst C (pc := 345) (v := 1) dL_turned_345 (by decide) ?_
                  refine s_iconst C (pc := 346) (v := 1) dL_turned_346 (by decide) ?_
                  refine s_calli C (pc := 347) (wr := [(hg, .inr (0, [.ref hgn, .int (nI u267_9.1), .long u267_9.2.2.1, .long u267_9.2.2.2.1, .long u267_9.2.2.2.2])), (hgn, .inl (X.2.1, 144, .inl (u267_9.2.1)))]) (wc' := [(b, .inr (2, [.ref h, .ref tr, .ref hi, .ref sl, .ref sf, .ref hg, .int hc])), (h, .inr (1, [.ref hp, .ref hq, .int (nI n), .int (nI w), .int f, .int ll])), (hp, .inl (X.2.1, 4, .inl (P))), (hq, .inl (X.2.1, 4, .inl (Q)))]) (wn := [(b, .inr (2, [.ref h, .ref tr, .ref hi, .ref sl, .ref sf, .ref hg, .int hc])), (h, .inr (1, [.ref hp, .ref hq, .int (nI n), .int (nI w), .int f, .int ll])), (hp, .inl (X.2.1, 4, .inl (P))), (hq, .inl (X.2.1, 4, .inl (Q))), (hg, .inr (0, [.ref hgn, .int (nI u267_9.1), .long u267_9.2.2.1, .long u267_9.2.2.2.1, .long u267_9.2.2.2.2])), (hgn, .inl (X.2.1, 144, .inl (u267_9.2.1)))]) (r_V C (As := [.int (nI i), .int (nI j), .int (nI (w + 1)), .int 0, .int 1, .int 1]) (rest := []) (kX2_kind_bad l X b tr hi sl sf hg hc h hp hq n P Q (nI w) f ll (nI i) (nI j) (nI (w + 1)) 0 1 1 (fun q => fp_big hw _ q.2.1) (by first | assumption | omega | decide)) (cwV 6 C.ts gL_turned_X2_kind rfl rfl rfl (by decide +kernel) ⟨Nat.le_of_ble_eq_true rfl, Nat.le_of_ble_eq_true rfl⟩) (q0 := 0) rfl rfl [0, 1, 2, 3] (by decide) rfl rfl (Nat.le_of_ble_eq_true rfl) rfl dL_turned_347 ⟨Nat.zero_le _, Nat.zero_le _⟩) [0, 1, 2, 3] [4, 5] [2, 3, 4, 5, 0, 1] rfl rfl (by decide) (by decide) (by decide) rfl ?_
                  refine s_iconst C (pc := 350) (v := (-1)) dL_turned_350 (by decide) ?_
                  refine s_icmp_ne C (pc := 351) (tgt := 358) dL_turned_351 (by decide) (fun h => absurd (by decide) h) (fun c351 => ?_)
                  refine s_iconst C (pc := 354) (v := 1) dL_turned_354 (by decide) ?_
                  refine s_goto C (pc := 355) (tgt := 359) dL_turned_355 (by decide) ?_
                  exact s_zretX C (pc := 359) hr hlk ((u267_9.1, u267_9.2.1, u267_9.2.2.1, u267_9.2.2.2.1, u267_9.2.2.2.2)) trivial [0, 1, 2, 3, 4, 5] (by decide) (rfl) rfl (rfl) dL_turned_359
              · skip
                refine s_lload C (pc := 307) dL_turned_307 3 rfl ?_
                refine s_lconst C (pc := 309) (v := 0) dL_turned_309 (by decide) ?_
                refine s_lcmp_ne C (pc := 310) (tgt := 318) dL_turned_310 dL_turned_311 (by decide) (fun c310 => ?_) (fun c310 => ?_)
                · skip
                  refine s_iconst C (pc := 318) (v := 0) dL_turned_318 (by decide) ?_
                  refine s_iload C (pc := 319) dL_turned_319 1 rfl ?_
                  refine s_if_ne C (pc := 321) (tgt := 328) dL_turned_321 (by decide) (fun c321 => ?_) (fun h => absurd h (pr_n0 (fun q => h0 ((kb_0 _ _ _ _).mp q)) (show kb (aP P Q i j) f ll (nN P Q i j za zb zc zd) ≤ 5760 by have := kb_le (aP P Q i j) f ll (nN P Q i j za zb zc zd); omega)))
                  refine s_iconst C (pc := 328) (v := 0) dL_turned_328 (by decide) ?_
                  refine s_icmp_ne C (pc := 329) (tgt := 358) dL_turned_329 (by decide) (fun h => absurd (by decide) h) (fun c329 => ?_)
                  refine s_iload C (pc := 332) dL_turned_332 1 rfl ?_
                  refine s_iconst C (pc := 334) (v := 3) dL_turned_334 (by decide) ?_
                  refine s_icmp_gt C (pc := 335) (tgt := 358) dL_turned_335 (by decide) (fun h => absurd h (tu_k3 _ _ _ _)) (fun c335 => ?_)
                  refine s_aload_n C (pc := 338) dL_turned_338 rfl 8 rfl ?_
                  refine s_iload_n C (pc := 339) dL_turned_339 rfl 9 rfl ?_
                  refine s_iload_n C (pc := 340) dL_turned_340 rfl 10 rfl ?_
                  refine s_iload_n C (pc := 341) dL_turned_341 rfl 11 rfl ?_
                  refine s_iconst C (pc := 342) (v := 1) dL_turned_342 (by decide) ?_
                  refine s_iadd C (pc := 343) dL_turned_343 ?_
                  refine s_top C (y := nI (w + 1)) (nI_add _ _) ?_
                  refine s_iconst C (pc := 344) (v := 0) dL_turned_344 (by decide) ?_
                  refine s_iconst C (pc := 345) (v := 1) dL_turned_345 (by decide) ?_
                  refine s_iconst C (pc := 346) (v := 1) dL_turned_346 (by decide) ?_
                  refine s_calli C (pc := 347) (wr := [(hg, .inr (0, [.ref hgn, .int (nI u267_9.1), .long u267_9.2.2.1, .long u267_9.2.2.2.1, .long u267_9.2.2.2.2])), (hgn, .inl (X.2.1, 144, .inl (u267_9.2.1)))]) (wc' := [(b, .inr (2, [.ref h, .ref tr, .ref hi, .ref sl, .ref sf, .ref hg, .int hc])), (h, .inr (1, [.ref hp, .ref hq, .int (nI n), .int (nI w), .int f, .int ll])), (hp, .inl (X.2.1, 4, .inl (P))), (hq, .inl (X.2.1, 4, .inl (Q)))]) (wn := [(b, .inr (2, [.ref h, .ref tr, .ref hi, .ref sl, .ref sf, .ref hg, .int hc])), (h, .inr (1, [.ref hp, .ref hq, .int (nI n), .int (nI w), .int f, .int ll])), (hp, .inl (X.2.1, 4, .inl (P))), (hq, .inl (X.2.1, 4, .inl (Q))), (hg, .inr (0, [.ref hgn, .int (nI u267_9.1), .long u267_9.2.2.1, .long u267_9.2.2.2.1, .long u267_9.2.2.2.2])), (hgn, .inl (X.2.1, 144, .inl (u267_9.2.1)))]) (r_V C (As := [.int (nI i), .int (nI j), .int (nI (w + 1)), .int 0, .int 1, .int 1]) (rest := []) (kX2_kind_bad l X b tr hi sl sf hg hc h hp hq n P Q (nI w) f ll (nI i) (nI j) (nI (w + 1)) 0 1 1 (fun q => fp_big hw _ q.2.1) (by first | assumption | omega | decide)) (cwV 6 C.ts gL_turned_X2_kind rfl rfl rfl (by decide +kernel) ⟨Nat.le_of_ble_eq_true rfl, Nat.le_of_ble_eq_true rfl⟩) (q0 := 0) rfl rfl [0, 1, 2, 3] (by decide) rfl rfl (Nat.le_of_ble_eq_true rfl) rfl dL_turned_347 ⟨Nat.zero_le _, Nat.zero_le _⟩) [0, 1, 2, 3] [4, 5] [2, 3, 4, 5, 0, 1] rfl rfl (by decide) (by decide) (by decide) rfl ?_
                  refine s_iconst C (pc := 350) (v := (-1)) dL_turned_350 (by decide) ?_
                  refine s_icmp_ne C (pc := 351) (tgt := 358) dL_turned_351 (by decide) (fun h => absurd (by decide) h) (fun c351 => ?_)
                  refine s_iconst C (pc := 354) (v := 1) dL_turned_354 (by decide) ?_
                  refine s_goto C (pc := 355) (tgt := 359) dL_turned_355 (by decide) ?_
                  exact s_zretX C (pc := 359) hr hlk ((u267_9.1, u267_9.2.1, u267_9.2.2.1, u267_9.2.2.2.1, u267_9.2.2.2.2)) trivial [0, 1, 2, 3, 4, 5] (by decide) (rfl) rfl (rfl) dL_turned_359
                · skip
                  refine s_iconst C (pc := 314) (v := 1) dL_turned_314 (by decide) ?_
                  refine s_goto C (pc := 315) (tgt := 319) dL_turned_315 (by decide) ?_
                  refine s_iload C (pc := 319) dL_turned_319 1 rfl ?_
                  refine s_if_ne C (pc := 321) (tgt := 328) dL_turned_321 (by decide) (fun c321 => ?_) (fun h => absurd h (pr_n0 (fun q => h0 ((kb_0 _ _ _ _).mp q)) (show kb (aP P Q i j) f ll (nN P Q i j za zb zc zd) ≤ 5760 by have := kb_le (aP P Q i j) f ll (nN P Q i j za zb zc zd); omega)))
                  refine s_iconst C (pc := 328) (v := 0) dL_turned_328 (by decide) ?_
                  refine s_icmp_ne C (pc := 329) (tgt := 358) dL_turned_329 (by decide) (fun c329 => ?_) (fun h => absurd h (by decide))
                  refine s_iconst C (pc := 358) (v := 0) dL_turned_358 (by decide) ?_
                  exact s_zretX C (pc := 359) hr hlk ((u267_9.1, u267_9.2.1, u267_9.2.2.1, u267_9.2.2.2.1, u267_9.2.2.2.2)) trivial [0, 1, 2, 3, 4, 5] (by decide) (rfl) rfl (rfl) dL_turned_359
    refine s_iload C (pc := 112) dL_turned_112 6 rfl ?_
    refine s_if_ne C (pc := 114) (tgt := 122) dL_turned_114 (by decide) (fun c114 => ?_) (fun c114 => ?_)
    · skip
      have f114 : za ≠ 0 := fun q => c114 ((iI_z0 (ow_o2 hw o_za)).mpr q)
      refine s_iload C (pc := 122) dL_turned_122 4 rfl ?_
      refine s_if_ne C (pc := 124) (tgt := 136) dL_turned_124 (by decide) (fun c124 => ?_) (fun c124 => ?_)
      · skip
        have f124 : zc ≠ 0 := fun q => c124 ((iI_z0 (ow_o2 hw o_zc)).mpr q)
        refine s_iconst C (pc := 136) (v := 0) dL_turned_136 (by decide) ?_
        exact J137 (u107_3.1, u107_3.2.1, u107_3.2.2.1, u107_3.2.2.2.1, u107_3.2.2.2.2)
      · skip
        have f124 : zc = 0 := (iI_z0 (ow_o2 hw o_zc)).mp c124
        refine s_iload C (pc := 127) dL_turned_127 3 rfl ?_
        refine s_if_ne C (pc := 129) (tgt := 136) dL_turned_129 (by decide) (fun c129 => ?_) (fun c129 => ?_)
        · skip
          have f129 : zd ≠ 0 := fun q => c129 ((iI_z0 (ow_o2 hw o_zd)).mpr q)
          refine s_iconst C (pc := 136) (v := 0) dL_turned_136 (by decide) ?_
          exact J137 (u107_3.1, u107_3.2.1, u107_3.2.2.1, u107_3.2.2.2.1, u107_3.2.2.2.2)
        · skip
          have f129 : zd = 0 := (iI_z0 (ow_o2 hw o_zd)).mp c129
          exact absurd hz (by omega)
    · skip
      have f114 : za = 0 := (iI_z0 (ow_o2 hw o_za)).mp c114
      refine s_iload C (pc := 117) dL_turned_117 5 rfl ?_
      refine s_if_eq C (pc := 119) (tgt := 132) dL_turned_119 (by decide) (fun c119 => ?_) (fun c119 => ?_)
      · skip
        have f119 : zb = 0 := (iI_z0 (ow_o2 hw o_zb)).mp c119
        exact absurd hz (by omega)
      · skip
        have f119 : zb ≠ 0 := fun q => c119 ((iI_z0 (ow_o2 hw o_zb)).mpr q)
        refine s_iload C (pc := 122) dL_turned_122 4 rfl ?_
        refine s_if_ne C (pc := 124) (tgt := 136) dL_turned_124 (by decide) (fun c124 => ?_) (fun c124 => ?_)
        · skip
          have f124 : zc ≠ 0 := fun q => c124 ((iI_z0 (ow_o2 hw o_zc)).mpr q)
          refine s_iconst C (pc := 136) (v := 0) dL_turned_136 (by decide) ?_
          exact J137 (u107_3.1, u107_3.2.1, u107_3.2.2.1, u107_3.2.2.2.1, u107_3.2.2.2.2)
        · skip
          have f124 : zc = 0 := (iI_z0 (ow_o2 hw o_zc)).mp c124
          refine s_iload C (pc := 127) dL_turned_127 3 rfl ?_
          refine s_if_ne C (pc := 129) (tgt := 136) dL_turned_129 (by decide) (fun c129 => ?_) (fun c129 => ?_)
          · skip
            have f129 : zd ≠ 0 := fun q => c129 ((iI_z0 (ow_o2 hw o_zd)).mpr q)
            refine s_iconst C (pc := 136) (v := 0) dL_turned_136 (by decide) ?_
            exact J137 (u107_3.1, u107_3.2.1, u107_3.2.2.1, u107_3.2.2.2.1, u107_3.2.2.2.2)
          · skip
            have f129 : zd = 0 := (iI_z0 (ow_o2 hw o_zd)).mp c129
            exact absurd hz (by omega)
  · skip
    refine s_aload_n C (pc := 64) dL_turned_64 rfl 4 rfl ?_
    refine s_iload_n C (pc := 65) dL_turned_65 rfl 5 rfl ?_
    refine s_iload_n C (pc := 66) dL_turned_66 rfl 6 rfl ?_
    refine s_iload C (pc := 67) dL_turned_67 3 rfl ?_
    refine s_iload C (pc := 69) dL_turned_69 2 rfl ?_
    refine s_iload C (pc := 71) dL_turned_71 1 rfl ?_
    refine s_iload C (pc := 73) dL_turned_73 0 rfl ?_
    refine s_calll C (pc := 75) (wr := [(hg, .inr (0, [.ref hgn, .int (nI z), .long ar0, .long lf, .long gl])), (hgn, .inl (X.2.1, 144, .inl (F)))]) (wc' := [(b, .inr (2, [.ref h, .ref tr, .ref hi, .ref sl, .ref sf, .ref hg, .int hc])), (h, .inr (1, [.ref hp, .ref hq, .int (nI n), .int (nI w), .int f, .int ll])), (hp, .inl (X.2.1, 4, .inl (P))), (hq, .inl (X.2.1, 4, .inl (Q)))]) (wn := [(b, .inr (2, [.ref h, .ref tr, .ref hi, .ref sl, .ref sf, .ref hg, .int hc])), (h, .inr (1, [.ref hp, .ref hq, .int (nI n), .int (nI w), .int f, .int ll])), (hp, .inl (X.2.1, 4, .inl (P))), (hq, .inl (X.2.1, 4, .inl (Q))), (hg, .inr (0, [.ref hgn, .int (nI z), .long ar0, .long lf, .long gl])), (hgn, .inl (X.2.1, 144, .inl (F)))]) (r_V C (As := [.int (nI i), .int (nI j), .int (iI za), .int (iI zb), .int (iI zc), .int (iI zd)]) (rest := []) (kX2_squareNumerator_bad l X b tr hi sl sf hg hc h hp hq n P Q (nI w) f ll (nI i) (nI j) (iI za) (iI zb) (iI zc) (iI zd) (fun q => hz (tu_b0 hw o_za o_zb o_zc o_zd q.2.1 q.2.2)) (by first | assumption | omega | decide)) (cwV 6 C.ts gL_turned_X2_squareNumerator rfl rfl rfl (by decide +kernel) ⟨Nat.le_of_ble_eq_true rfl, Nat.le_of_ble_eq_true rfl⟩) (q0 := 0) rfl rfl [0, 1, 2, 3] (by decide) rfl rfl (Nat.le_of_ble_eq_true rfl) rfl dL_turned_75 ⟨Nat.zero_le _, Nat.zero_le _⟩) [0, 1, 2, 3] [4, 5] [2, 3, 4, 5, 0, 1] rfl rfl (by decide) (by decide) (by decide) rfl ?_
    refine s_lstore C (pc := 78) (ls' := [(9, .long (-1)), (8, .int (iI zd)), (7, .int (iI zc)), (6, .int (iI zb)), (5, .int (iI za)), (0, .ref b), (1, .int (nI i)), (2, .int (nI j)), (3, .int (nI w)), (4, .int x)]) dL_turned_78 (by decide) rfl ?_
    refine s_aload_n C (pc := 80) dL_turned_80 rfl 5 rfl ?_
    refine s_iload_n C (pc := 81) dL_turned_81 rfl 6 rfl ?_
    refine s_iload_n C (pc := 82) dL_turned_82 rfl 7 rfl ?_
    refine s_iload C (pc := 83) dL_turned_83 4 rfl ?_
    refine s_iload C (pc := 85) dL_turned_85 3 rfl ?_
    refine s_iload C (pc := 87) dL_turned_87 2 rfl ?_
    refine s_iload C (pc := 89) dL_turned_89 1 rfl ?_
    refine s_calll C (pc := 91) (wr := [(hg, .inr (0, [.ref hgn, .int (nI z), .long ar0, .long lf, .long gl])), (hgn, .inl (X.2.1, 144, .inl (F)))]) (wc' := [(b, .inr (2, [.ref h, .ref tr, .ref hi, .ref sl, .ref sf, .ref hg, .int hc])), (h, .inr (1, [.ref hp, .ref hq, .int (nI n), .int (nI w), .int f, .int ll])), (hp, .inl (X.2.1, 4, .inl (P))), (hq, .inl (X.2.1, 4, .inl (Q)))]) (wn := [(b, .inr (2, [.ref h, .ref tr, .ref hi, .ref sl, .ref sf, .ref hg, .int hc])), (h, .inr (1, [.ref hp, .ref hq, .int (nI n), .int (nI w), .int f, .int ll])), (hp, .inl (X.2.1, 4, .inl (P))), (hq, .inl (X.2.1, 4, .inl (Q))), (hg, .inr (0, [.ref hgn, .int (nI z), .long ar0, .long lf, .long gl])), (hgn, .inl (X.2.1, 144, .inl (F)))]) (r_V C (As := [.int (nI i), .int (nI j), .int (iI za), .int (iI zb), .int (iI zc), .int (iI zd)]) (rest := []) (kX2_squareDenominator_bad l X b tr hi sl sf hg hc h hp hq n P Q (nI w) f ll (nI i) (nI j) (iI za) (iI zb) (iI zc) (iI zd) (fun q => hz (tu_b0 hw o_za o_zb o_zc o_zd q.2.1 q.2.2)) (by first | assumption | omega | decide)) (cwV 6 C.ts gL_turned_X2_squareDenominator rfl rfl rfl (by decide +kernel) ⟨Nat.le_of_ble_eq_true rfl, Nat.le_of_ble_eq_true rfl⟩) (q0 := 0) rfl rfl [0, 1, 2, 3] (by decide) rfl rfl (Nat.le_of_ble_eq_true rfl) rfl dL_turned_91 ⟨Nat.zero_le _, Nat.zero_le _⟩) [0, 1, 2, 3] [4, 5] [2, 3, 4, 5, 0, 1] rfl rfl (by decide) (by decide) (by decide) rfl ?_
    refine s_lstore C (pc := 94) (ls' := [(11, .long (-1)), (9, .long (-1)), (8, .int (iI zd)), (7, .int (iI zc)), (6, .int (iI zb)), (5, .int (iI za)), (0, .ref b), (1, .int (nI i)), (2, .int (nI j)), (3, .int (nI w)), (4, .int x)]) dL_turned_94 (by decide) rfl ?_
    refine s_aload_n C (pc := 96) dL_turned_96 rfl 6 rfl ?_
    refine s_iload_n C (pc := 97) dL_turned_97 rfl 7 rfl ?_
    refine s_iload_n C (pc := 98) dL_turned_98 rfl 8 rfl ?_
    refine s_iload C (pc := 99) dL_turned_99 5 rfl ?_
    refine s_iload C (pc := 101) dL_turned_101 4 rfl ?_
    refine s_iload C (pc := 103) dL_turned_103 3 rfl ?_
    refine s_iload C (pc := 105) dL_turned_105 2 rfl ?_
    refine s_calli C (pc := 107) (wr := [(hg, .inr (0, [.ref hgn, .int (nI z), .long ar0, .long lf, .long gl])), (hgn, .inl (X.2.1, 144, .inl (F)))]) (wc' := [(b, .inr (2, [.ref h, .ref tr, .ref hi, .ref sl, .ref sf, .ref hg, .int hc])), (h, .inr (1, [.ref hp, .ref hq, .int (nI n), .int (nI w), .int f, .int ll])), (hp, .inl (X.2.1, 4, .inl (P))), (hq, .inl (X.2.1, 4, .inl (Q)))]) (wn := [(b, .inr (2, [.ref h, .ref tr, .ref hi, .ref sl, .ref sf, .ref hg, .int hc])), (h, .inr (1, [.ref hp, .ref hq, .int (nI n), .int (nI w), .int f, .int ll])), (hp, .inl (X.2.1, 4, .inl (P))), (hq, .inl (X.2.1, 4, .inl (Q))), (hg, .inr (0, [.ref hgn, .int (nI z), .long ar0, .long lf, .long gl])), (hgn, .inl (X.2.1, 144, .inl (F)))]) (r_V C (As := [.int (nI i), .int (nI j), .int (iI za), .int (iI zb), .int (iI zc), .int (iI zd)]) (rest := []) (kX2_kind_bad l X b tr hi sl sf hg hc h hp hq n P Q (nI w) f ll (nI i) (nI j) (iI za) (iI zb) (iI zc) (iI zd) (fun q => hz (tu_b0 hw o_za o_zb o_zc o_zd q.2.1 q.2.2)) (by first | assumption | omega | decide)) (cwV 6 C.ts gL_turned_X2_kind rfl rfl rfl (by decide +kernel) ⟨Nat.le_of_ble_eq_true rfl, Nat.le_of_ble_eq_true rfl⟩) (q0 := 0) rfl rfl [0, 1, 2, 3] (by decide) rfl rfl (Nat.le_of_ble_eq_true rfl) rfl dL_turned_107 ⟨Nat.zero_le _, Nat.zero_le _⟩) [0, 1, 2, 3] [4, 5] [2, 3, 4, 5, 0, 1] rfl rfl (by decide) (by decide) (by decide) rfl ?_
    refine s_istore C (pc := 110) (ls' := [(13, .int (-1)), (11, .long (-1)), (9, .long (-1)), (8, .int (iI zd)), (7, .int (iI zc)), (6, .int (iI zb)), (5, .int (iI za)), (0, .ref b), (1, .int (nI i)), (2, .int (nI j)), (3, .int (nI w)), (4, .int x)]) dL_turned_110 (by decide) rfl ?_
    refine s_iload C (pc := 112) dL_turned_112 6 rfl ?_
    refine s_if_ne C (pc := 114) (tgt := 122) dL_turned_114 (by decide) (fun c114 => ?_) (fun c114 => ?_)
    · skip
      have f114 : za ≠ 0 := fun q => c114 ((iI_z0 (ow_o2 hw o_za)).mpr q)
      refine s_iload C (pc := 122) dL_turned_122 4 rfl ?_
      refine s_if_ne C (pc := 124) (tgt := 136) dL_turned_124 (by decide) (fun c124 => ?_) (fun c124 => ?_)
      · skip
        have f124 : zc ≠ 0 := fun q => c124 ((iI_z0 (ow_o2 hw o_zc)).mpr q)
        exact absurd (show (za ≠ 0 ∨ zb ≠ 0) ∧ (zc ≠ 0 ∨ zd ≠ 0) by omega) hz
      · skip
        have f124 : zc = 0 := (iI_z0 (ow_o2 hw o_zc)).mp c124
        refine s_iload C (pc := 127) dL_turned_127 3 rfl ?_
        refine s_if_ne C (pc := 129) (tgt := 136) dL_turned_129 (by decide) (fun c129 => ?_) (fun c129 => ?_)
        · skip
          have f129 : zd ≠ 0 := fun q => c129 ((iI_z0 (ow_o2 hw o_zd)).mpr q)
          exact absurd (show (za ≠ 0 ∨ zb ≠ 0) ∧ (zc ≠ 0 ∨ zd ≠ 0) by omega) hz
        · skip
          have f129 : zd = 0 := (iI_z0 (ow_o2 hw o_zd)).mp c129
          refine s_iconst C (pc := 132) (v := 1) dL_turned_132 (by decide) ?_
          refine s_goto C (pc := 133) (tgt := 137) dL_turned_133 (by decide) ?_
          exact J137 (z, F, ar0, lf, gl)
    · skip
      have f114 : za = 0 := (iI_z0 (ow_o2 hw o_za)).mp c114
      refine s_iload C (pc := 117) dL_turned_117 5 rfl ?_
      refine s_if_eq C (pc := 119) (tgt := 132) dL_turned_119 (by decide) (fun c119 => ?_) (fun c119 => ?_)
      · skip
        have f119 : zb = 0 := (iI_z0 (ow_o2 hw o_zb)).mp c119
        refine s_iconst C (pc := 132) (v := 1) dL_turned_132 (by decide) ?_
        refine s_goto C (pc := 133) (tgt := 137) dL_turned_133 (by decide) ?_
        exact J137 (z, F, ar0, lf, gl)
      · skip
        have f119 : zb ≠ 0 := fun q => c119 ((iI_z0 (ow_o2 hw o_zb)).mpr q)
        refine s_iload C (pc := 122) dL_turned_122 4 rfl ?_
        refine s_if_ne C (pc := 124) (tgt := 136) dL_turned_124 (by decide) (fun c124 => ?_) (fun c124 => ?_)
        · skip
          have f124 : zc ≠ 0 := fun q => c124 ((iI_z0 (ow_o2 hw o_zc)).mpr q)
          exact absurd (show (za ≠ 0 ∨ zb ≠ 0) ∧ (zc ≠ 0 ∨ zd ≠ 0) by omega) hz
        · skip
          have f124 : zc = 0 := (iI_z0 (ow_o2 hw o_zc)).mp c124
          refine s_iload C (pc := 127) dL_turned_127 3 rfl ?_
          refine s_if_ne C (pc := 129) (tgt := 136) dL_turned_129 (by decide) (fun c129 => ?_) (fun c129 => ?_)
          · skip
            have f129 : zd ≠ 0 := fun q => c129 ((iI_z0 (ow_o2 hw o_zd)).mpr q)
            exact absurd (show (za ≠ 0 ∨ zb ≠ 0) ∧ (zc ≠ 0 ∨ zd ≠ 0) by omega) hz
          · skip
            have f129 : zd = 0 := (iI_z0 (ow_o2 hw o_zd)).mp c129
            refine s_iconst C (pc := 132) (v := 1) dL_turned_132 (by decide) ?_
            refine s_goto C (pc := 133) (tgt := 137) dL_turned_133 (by decide) ?_
            exact J137 (z, F, ar0, lf, gl)

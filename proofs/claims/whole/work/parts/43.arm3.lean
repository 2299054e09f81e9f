/-! the operations, some -/
set_option maxHeartbeats 8000000 in
theorem lc_15 {p : Program} {l : Launch} {e : Env} {s : State} {m : MethodId} {args : Array Value} {below : List Frame} {meth : Method} {c : Code} {X : XT} {A : Nat → Prop} {Q0 : State → Prop} {g : GT} {b h hp hq tr hp2 hq2 hi sl sf hg hgn mo mp ms mt mq : Nat} {sb L i : Nat} {xs : Nat → Int32} (C : Cx p l e room_1 s m args below meth c cL_law 4 RL wsL_law X A 600000 7302250 Q0 g) (hX : va_X sb L xs s s.heap) (hbl : sb < s.heap.size) (hbA : ¬ A sb) (hL3 : L ≤ 3584) (hI7 : i + 7 ≤ L) (ih : LG g X sb b h hp hq tr hp2 hq2 hi sl sf hg hgn mo mp ms mt mq (i + 7)) {n : Nat} {P Q : Nat → Int32} {w : Nat} {f ll : Int32} {n2 : Nat} {P2 Q2 : Nat → Int32} {t1 t2 t3 : Int32} {ha hu hw : Nat → Nat} {D : Nat → SD} {hA : Nat → Option Nat} {q : Nat} {ta tu tv : Nat → Nat} {E : Nat → SD} {sA : Nat → Option Nat} {SF : Nat → Int32} {z : Nat} {F : Nat → Int32} {ar0 lf gl : Int64} {al : Int32} {wd : Int64} {wS wo fw : Int32} {M S T : Nat → Int32} {SQ : Nat → Int64} (J : JV n P Q w f ll ha D hA q ta E sA SF M S T) : g (LW X b h hp hq tr hp2 hq2 hi sl sf hg hgn mo mp ms mt mq n P Q (nI w) f ll n2 P2 Q2 t1 t2 t3 ha hu hw D hA q ta tu tv E sA SF z F ar0 lf gl al wd wS wo fw M S T SQ q) 646 [(0, .ref sb), (1, .ref b), (2, .ref mo), (3, .int (nI i))] [] := by
  obtain ⟨v1, e1⟩ : ∃ v, v = xs (i + 1) := ⟨_, rfl⟩
  obtain ⟨v2, e2⟩ : ∃ v, v = xs (i + 2) := ⟨_, rfl⟩
  obtain ⟨v3, e3⟩ : ∃ v, v = xs (i + 3) := ⟨_, rfl⟩
  obtain ⟨v4, e4⟩ : ∃ v, v = xs (i + 4) := ⟨_, rfl⟩
  obtain ⟨v5, e5⟩ : ∃ v, v = xs (i + 5) := ⟨_, rfl⟩
  obtain ⟨v6, e6⟩ : ∃ v, v = xs (i + 6) := ⟨_, rfl⟩
  obtain ⟨hn, hV, hw2, hL, hM, hq5, hA5, hJH, sA2, hJT⟩ := id J
  by_cases hb : hpP n v1 v2 ∧ fpP (nI w) v3 v4 ∧ fpP (nI w) v5 v6
  · obtain ⟨hp0, hf1, hf2⟩ := hb
    obtain ⟨ki, kj, hij, hj, rfl, rfl⟩ := hp_ex hn hp0
    obtain ⟨⟨q1, q2⟩, q3, hs1, hs2, hs3⟩ := sq_ok hV hL (show ki < n by omega) hj hw2 hf1 hf2
    refine s_aload_n C (pc := 646) dL_law_646 rfl 1 rfl ?_
    refine s_arg C (pc := 647) hX hbl hbA hL3 1 rfl (by omega) rfl rfl dL_law_647 dL_law_648 dL_law_649 dL_law_650 dL_law_651 ?_
    rw [← e1]
    refine s_arg C (pc := 652) hX hbl hbA hL3 2 rfl (by omega) rfl rfl dL_law_652 dL_law_653 dL_law_654 dL_law_655 dL_law_656 ?_
    rw [← e2]
    refine s_arg C (pc := 657) hX hbl hbA hL3 3 rfl (by omega) rfl rfl dL_law_657 dL_law_658 dL_law_659 dL_law_660 dL_law_661 ?_
    rw [← e3]
    refine s_arg C (pc := 662) hX hbl hbA hL3 4 rfl (by omega) rfl rfl dL_law_662 dL_law_663 dL_law_664 dL_law_665 dL_law_666 ?_
    rw [← e4]
    refine s_arg C (pc := 667) hX hbl hbA hL3 5 rfl (by omega) rfl rfl dL_law_667 dL_law_668 dL_law_669 dL_law_670 dL_law_671 ?_
    rw [← e5]
    refine s_argB C (pc := 672) hX hbl hbA hL3 (by omega) rfl rfl dL_law_672 dL_law_673 dL_law_674 dL_law_676 dL_law_677 ?_
    rw [← e6]
    refine s_calliX C (pc := 678) (wr := pick (LW X b h hp hq tr hp2 hq2 hi sl sf hg hgn mo mp ms mt mq n P Q (nI w) f ll n2 P2 Q2 t1 t2 t3 ha hu hw D hA q ta tu tv E sA SF z F ar0 lf gl al wd wS wo fw M S T SQ q) [4, 5, 6, 7, 8, 9, 10, 11, 12, 13, 14, 15, 16, 17, 18, 19, 20, 21, 22, 23, 24, 25, 26, 27, 28, 29, 30, 33, 34, 35, 36, 37]) (wn := fun u1 => LW X b h hp hq tr hp2 hq2 hi sl sf hg hgn mo mp ms mt mq n P Q (nI w) f ll n2 P2 Q2 t1 t2 t3 ha hu hw D hA q ta tu tv E sA SF u1.1 u1.2.1 u1.2.2.1 u1.2.2.2.1 u1.2.2.2.2 al wd wS wo fw M S T SQ q) (r_V C (As := [.int (nI ki), .int (nI kj), .int v3, .int v4, .int v5, .int v6]) (rest := []) (kX2_kind_ok l X b tr hi sl sf (nI q) h hp hq n P Q w f ll hg hgn z F ar0 lf gl ki kj v3 v4 v5 v6 (by first | assumption | omega | decide) (by first | assumption | omega | decide) (by first | assumption | omega | decide) (by first | assumption | omega | decide) (by first | assumption | omega | decide)) (cwV 6 C.ts gL_law_X2_kind rfl rfl rfl (by decide +kernel) ⟨Nat.le_of_ble_eq_true rfl, Nat.le_of_ble_eq_true rfl⟩) (q0 := 0) rfl rfl [0, 1, 2, 3, 31, 32] (by decide) rfl rfl (Nat.le_of_ble_eq_true rfl) rfl dL_law_678 ⟨Nat.le_refl _, Nat.le_refl _⟩) [0, 1, 2, 3, 31, 32] [4, 5, 6, 7, 8, 9, 10, 11, 12, 13, 14, 15, 16, 17, 18, 19, 20, 21, 22, 23, 24, 25, 26, 27, 28, 29, 30, 33, 34, 35, 36, 37] [32, 33, 34, 35, 0, 1, 2, 3, 4, 5, 6, 7, 8, 9, 10, 11, 12, 13, 14, 15, 16, 17, 18, 19, 20, 21, 22, 23, 24, 25, 26, 36, 37, 27, 28, 29, 30, 31] rfl rfl (by decide) (by decide) (by decide) (fun _ => rfl) (fun u1 _ => ?_)
    refine s_aload_n C (pc := 681) dL_law_681 rfl 2 rfl ?_
    refine s_arg C (pc := 682) hX hbl hbA hL3 1 rfl (by omega) rfl rfl dL_law_682 dL_law_683 dL_law_684 dL_law_685 dL_law_686 ?_
    rw [← e1]
    refine s_arg C (pc := 687) hX hbl hbA hL3 2 rfl (by omega) rfl rfl dL_law_687 dL_law_688 dL_law_689 dL_law_690 dL_law_691 ?_
    rw [← e2]
    refine s_arg C (pc := 692) hX hbl hbA hL3 3 rfl (by omega) rfl rfl dL_law_692 dL_law_693 dL_law_694 dL_law_695 dL_law_696 ?_
    rw [← e3]
    refine s_arg C (pc := 697) hX hbl hbA hL3 4 rfl (by omega) rfl rfl dL_law_697 dL_law_698 dL_law_699 dL_law_700 dL_law_701 ?_
    rw [← e4]
    refine s_arg C (pc := 702) hX hbl hbA hL3 5 rfl (by omega) rfl rfl dL_law_702 dL_law_703 dL_law_704 dL_law_705 dL_law_706 ?_
    rw [← e5]
    refine s_argB C (pc := 707) hX hbl hbA hL3 (by omega) rfl rfl dL_law_707 dL_law_708 dL_law_709 dL_law_711 dL_law_712 ?_
    rw [← e6]
    refine s_calli C (pc := 713) (wr := pick (LW X b h hp hq tr hp2 hq2 hi sl sf hg hgn mo mp ms mt mq n P Q (nI w) f ll n2 P2 Q2 t1 t2 t3 ha hu hw D hA q ta tu tv E sA SF u1.1 u1.2.1 u1.2.2.1 u1.2.2.2.1 u1.2.2.2.2 al wd wS wo fw M S T SQ q) [0, 1, 2, 3, 4, 5, 6, 7, 8, 9, 10, 11, 12, 13, 14, 15, 16, 17, 18, 19, 20, 21, 22, 23, 24, 25, 26, 27, 28, 29, 30, 31, 32, 35, 36, 37]) (wn := LW X b h hp hq tr hp2 hq2 hi sl sf hg hgn mo mp ms mt mq n P Q (nI w) f ll n2 P2 Q2 t1 t2 t3 ha hu hw D hA q ta tu tv E sA SF u1.1 u1.2.1 u1.2.2.1 u1.2.2.2.1 u1.2.2.2.2 al wd wS wo fw M S T SQ q) (r_V C (As := [.int (nI ki), .int (nI kj), .int v3, .int v4, .int v5, .int v6]) (rest := [.int _]) (kX3_kind_ok l X mo mp ms mt mq (nI q) al wd wS wo fw M n P Q (nI w) f ll ki kj v3 v4 v5 v6 (by first | assumption | omega | decide) (by first | assumption | omega | decide) (by first | assumption | omega | decide) (by first | assumption | omega | decide) (by first | assumption | omega | decide) (by first | assumption | omega | decide)) (cwV 6 C.ts gL_law_X3_kind rfl rfl rfl (by decide +kernel) ⟨Nat.le_of_ble_eq_true rfl, Nat.le_of_ble_eq_true rfl⟩) (q0 := 33) rfl rfl [33, 34] (by decide) rfl rfl (Nat.le_of_ble_eq_true rfl) rfl dL_law_713 ⟨Nat.le_refl _, Nat.le_refl _⟩) [33, 34] [0, 1, 2, 3, 4, 5, 6, 7, 8, 9, 10, 11, 12, 13, 14, 15, 16, 17, 18, 19, 20, 21, 22, 23, 24, 25, 26, 27, 28, 29, 30, 31, 32, 35, 36, 37] [0, 1, 2, 3, 4, 5, 6, 7, 8, 9, 10, 11, 12, 13, 14, 15, 16, 17, 18, 19, 20, 21, 22, 23, 24, 25, 26, 27, 28, 29, 30, 31, 32, 36, 37, 33, 34, 35] rfl rfl (by decide) (by decide) (by decide) rfl ?_
    refine s_icmp_eq C (pc := 716) (tgt := 1247) dL_law_716 (by decide) (fun _ => ?_) (fun hne => absurd (q3) hne)
    exact law_back C hI7 hL3 ih (J)
  · skip
    refine s_aload_n C (pc := 646) dL_law_646 rfl 1 rfl ?_
    refine s_arg C (pc := 647) hX hbl hbA hL3 1 rfl (by omega) rfl rfl dL_law_647 dL_law_648 dL_law_649 dL_law_650 dL_law_651 ?_
    rw [← e1]
    refine s_arg C (pc := 652) hX hbl hbA hL3 2 rfl (by omega) rfl rfl dL_law_652 dL_law_653 dL_law_654 dL_law_655 dL_law_656 ?_
    rw [← e2]
    refine s_arg C (pc := 657) hX hbl hbA hL3 3 rfl (by omega) rfl rfl dL_law_657 dL_law_658 dL_law_659 dL_law_660 dL_law_661 ?_
    rw [← e3]
    refine s_arg C (pc := 662) hX hbl hbA hL3 4 rfl (by omega) rfl rfl dL_law_662 dL_law_663 dL_law_664 dL_law_665 dL_law_666 ?_
    rw [← e4]
    refine s_arg C (pc := 667) hX hbl hbA hL3 5 rfl (by omega) rfl rfl dL_law_667 dL_law_668 dL_law_669 dL_law_670 dL_law_671 ?_
    rw [← e5]
    refine s_argB C (pc := 672) hX hbl hbA hL3 (by omega) rfl rfl dL_law_672 dL_law_673 dL_law_674 dL_law_676 dL_law_677 ?_
    rw [← e6]
    refine s_calli C (pc := 678) (wr := pick (LW X b h hp hq tr hp2 hq2 hi sl sf hg hgn mo mp ms mt mq n P Q (nI w) f ll n2 P2 Q2 t1 t2 t3 ha hu hw D hA q ta tu tv E sA SF z F ar0 lf gl al wd wS wo fw M S T SQ q) [4, 5, 6, 7, 8, 9, 10, 11, 12, 13, 14, 15, 16, 17, 18, 19, 20, 21, 22, 23, 24, 25, 26, 27, 28, 29, 30, 31, 32, 33, 34, 35, 36, 37]) (wn := LW X b h hp hq tr hp2 hq2 hi sl sf hg hgn mo mp ms mt mq n P Q (nI w) f ll n2 P2 Q2 t1 t2 t3 ha hu hw D hA q ta tu tv E sA SF z F ar0 lf gl al wd wS wo fw M S T SQ q) (r_V C (As := [.int v1, .int v2, .int v3, .int v4, .int v5, .int v6]) (rest := []) (kX2_kind_bad l X b tr hi sl sf hg (nI q) h hp hq n P Q (nI w) f ll v1 v2 v3 v4 v5 v6 (by first | assumption | omega | decide) (by first | assumption | omega | decide)) (cwV 6 C.ts gL_law_X2_kind rfl rfl rfl (by decide +kernel) ⟨Nat.le_of_ble_eq_true rfl, Nat.le_of_ble_eq_true rfl⟩) (q0 := 0) rfl rfl [0, 1, 2, 3] (by decide) rfl rfl (Nat.le_of_ble_eq_true rfl) rfl dL_law_678 ⟨Nat.le_refl _, Nat.le_refl _⟩) [0, 1, 2, 3] [4, 5, 6, 7, 8, 9, 10, 11, 12, 13, 14, 15, 16, 17, 18, 19, 20, 21, 22, 23, 24, 25, 26, 27, 28, 29, 30, 31, 32, 33, 34, 35, 36, 37] [34, 35, 36, 37, 0, 1, 2, 3, 4, 5, 6, 7, 8, 9, 10, 11, 12, 13, 14, 15, 16, 17, 18, 19, 20, 21, 22, 23, 24, 25, 26, 27, 28, 29, 30, 31, 32, 33] rfl rfl (by decide) (by decide) (by decide) rfl ?_
    refine s_aload_n C (pc := 681) dL_law_681 rfl 2 rfl ?_
    refine s_arg C (pc := 682) hX hbl hbA hL3 1 rfl (by omega) rfl rfl dL_law_682 dL_law_683 dL_law_684 dL_law_685 dL_law_686 ?_
    rw [← e1]
    refine s_arg C (pc := 687) hX hbl hbA hL3 2 rfl (by omega) rfl rfl dL_law_687 dL_law_688 dL_law_689 dL_law_690 dL_law_691 ?_
    rw [← e2]
    refine s_arg C (pc := 692) hX hbl hbA hL3 3 rfl (by omega) rfl rfl dL_law_692 dL_law_693 dL_law_694 dL_law_695 dL_law_696 ?_
    rw [← e3]
    refine s_arg C (pc := 697) hX hbl hbA hL3 4 rfl (by omega) rfl rfl dL_law_697 dL_law_698 dL_law_699 dL_law_700 dL_law_701 ?_
    rw [← e4]
    refine s_arg C (pc := 702) hX hbl hbA hL3 5 rfl (by omega) rfl rfl dL_law_702 dL_law_703 dL_law_704 dL_law_705 dL_law_706 ?_
    rw [← e5]
    refine s_argB C (pc := 707) hX hbl hbA hL3 (by omega) rfl rfl dL_law_707 dL_law_708 dL_law_709 dL_law_711 dL_law_712 ?_
    rw [← e6]
    refine s_calli C (pc := 713) (wr := pick (LW X b h hp hq tr hp2 hq2 hi sl sf hg hgn mo mp ms mt mq n P Q (nI w) f ll n2 P2 Q2 t1 t2 t3 ha hu hw D hA q ta tu tv E sA SF z F ar0 lf gl al wd wS wo fw M S T SQ q) [0, 1, 2, 3, 4, 5, 6, 7, 8, 9, 10, 11, 12, 13, 14, 15, 16, 17, 18, 19, 20, 21, 22, 23, 24, 25, 26, 27, 28, 29, 30, 31, 32, 35, 36, 37]) (wn := LW X b h hp hq tr hp2 hq2 hi sl sf hg hgn mo mp ms mt mq n P Q (nI w) f ll n2 P2 Q2 t1 t2 t3 ha hu hw D hA q ta tu tv E sA SF z F ar0 lf gl al wd wS wo fw M S T SQ q) (r_V C (As := [.int v1, .int v2, .int v3, .int v4, .int v5, .int v6]) (rest := [.int _]) (kX3_kind_bad l X mo mp ms mt mq (nI q) al wd wS wo fw M n P Q (nI w) f ll v1 v2 v3 v4 v5 v6 (by first | assumption | omega | decide) (by first | assumption | omega | decide) (by first | assumption | omega | decide)) (cwV 6 C.ts gL_law_X3_kind rfl rfl rfl (by decide +kernel) ⟨Nat.le_of_ble_eq_true rfl, Nat.le_of_ble_eq_true rfl⟩) (q0 := 33) rfl rfl [33, 34] (by decide) rfl rfl (Nat.le_of_ble_eq_true rfl) rfl dL_law_713 ⟨Nat.le_refl _, Nat.le_refl _⟩) [33, 34] [0, 1, 2, 3, 4, 5, 6, 7, 8, 9, 10, 11, 12, 13, 14, 15, 16, 17, 18, 19, 20, 21, 22, 23, 24, 25, 26, 27, 28, 29, 30, 31, 32, 35, 36, 37] [0, 1, 2, 3, 4, 5, 6, 7, 8, 9, 10, 11, 12, 13, 14, 15, 16, 17, 18, 19, 20, 21, 22, 23, 24, 25, 26, 27, 28, 29, 30, 31, 32, 36, 37, 33, 34, 35] rfl rfl (by decide) (by decide) (by decide) rfl ?_
    refine s_icmp_eq C (pc := 716) (tgt := 1247) dL_law_716 (by decide) (fun _ => ?_) (fun hne => absurd (rfl) hne)
    exact law_back C hI7 hL3 ih (J)
set_option maxHeartbeats 8000000 in
theorem lc_16 {p : Program} {l : Launch} {e : Env} {s : State} {m : MethodId} {args : Array Value} {below : List Frame} {meth : Method} {c : Code} {X : XT} {A : Nat → Prop} {Q0 : State → Prop} {g : GT} {b h hp hq tr hp2 hq2 hi sl sf hg hgn mo mp ms mt mq : Nat} {sb L i : Nat} {xs : Nat → Int32} (C : Cx p l e room_1 s m args below meth c cL_law 4 RL wsL_law X A 600000 7302250 Q0 g) (hX : va_X sb L xs s s.heap) (hbl : sb < s.heap.size) (hbA : ¬ A sb) (hL3 : L ≤ 3584) (hI7 : i + 7 ≤ L) (ih : LG g X sb b h hp hq tr hp2 hq2 hi sl sf hg hgn mo mp ms mt mq (i + 7)) {n : Nat} {P Q : Nat → Int32} {w : Nat} {f ll : Int32} {n2 : Nat} {P2 Q2 : Nat → Int32} {t1 t2 t3 : Int32} {ha hu hw : Nat → Nat} {D : Nat → SD} {hA : Nat → Option Nat} {q : Nat} {ta tu tv : Nat → Nat} {E : Nat → SD} {sA : Nat → Option Nat} {SF : Nat → Int32} {z : Nat} {F : Nat → Int32} {ar0 lf gl : Int64} {al : Int32} {wd : Int64} {wS wo fw : Int32} {M S T : Nat → Int32} {SQ : Nat → Int64} (J : JV n P Q w f ll ha D hA q ta E sA SF M S T) : g (LW X b h hp hq tr hp2 hq2 hi sl sf hg hgn mo mp ms mt mq n P Q (nI w) f ll n2 P2 Q2 t1 t2 t3 ha hu hw D hA q ta tu tv E sA SF z F ar0 lf gl al wd wS wo fw M S T SQ q) 721 [(0, .ref sb), (1, .ref b), (2, .ref mo), (3, .int (nI i))] [] := by
  obtain ⟨v1, e1⟩ : ∃ v, v = xs (i + 1) := ⟨_, rfl⟩
  obtain ⟨v2, e2⟩ : ∃ v, v = xs (i + 2) := ⟨_, rfl⟩
  obtain ⟨hn, hV, hw2, hL, hM, hq5, hA5, hJH, sA2, hJT⟩ := id J
  by_cases hb : hpP n v1 v2
  · have hp0 := hb
    obtain ⟨ki, kj, hij, hj, rfl, rfl⟩ := hp_ex hn hp0
    have hki : ki < n := by omega
    refine s_aload_n C (pc := 721) dL_law_721 rfl 1 rfl ?_
    refine s_arg C (pc := 722) hX hbl hbA hL3 1 rfl (by omega) rfl rfl dL_law_722 dL_law_723 dL_law_724 dL_law_725 dL_law_726 ?_
    rw [← e1]
    refine s_arg C (pc := 727) hX hbl hbA hL3 2 rfl (by omega) rfl rfl dL_law_727 dL_law_728 dL_law_729 dL_law_730 dL_law_731 ?_
    rw [← e2]
    refine s_calliX C (pc := 732) (wr := pick (LW X b h hp hq tr hp2 hq2 hi sl sf hg hgn mo mp ms mt mq n P Q (nI w) f ll n2 P2 Q2 t1 t2 t3 ha hu hw D hA q ta tu tv E sA SF z F ar0 lf gl al wd wS wo fw M S T SQ q) [4, 5, 6, 7, 8, 9, 10, 11, 12, 13, 14, 15, 16, 17, 18, 19, 20, 21, 22, 23, 24, 25, 26, 27, 28, 29, 30, 33, 34, 35, 36, 37]) (wn := fun u1 => LW X b h hp hq tr hp2 hq2 hi sl sf hg hgn mo mp ms mt mq n P Q (nI w) f ll n2 P2 Q2 t1 t2 t3 ha hu hw D hA q ta tu tv E sA SF u1.1 u1.2.1 u1.2.2.1 u1.2.2.2.1 u1.2.2.2.2 al wd wS wo fw M S T SQ q) (r_V C (As := [.int (nI ki), .int (nI kj)]) (rest := []) (kX2_beatCount_ok l X b tr hi sl sf (nI q) h hp hq n P Q w f ll hg hgn z F ar0 lf gl ki kj (by first | assumption | omega | decide) (by first | assumption | omega | decide) (by first | assumption | omega | decide) (by first | assumption | omega | decide)) (cwV 2 C.ts gL_law_X2_beatCount rfl rfl rfl (by decide +kernel) ⟨Nat.le_of_ble_eq_true rfl, Nat.le_of_ble_eq_true rfl⟩) (q0 := 0) rfl rfl [0, 1, 2, 3, 31, 32] (by decide) rfl rfl (Nat.le_of_ble_eq_true rfl) rfl dL_law_732 ⟨Nat.le_refl _, Nat.le_refl _⟩) [0, 1, 2, 3, 31, 32] [4, 5, 6, 7, 8, 9, 10, 11, 12, 13, 14, 15, 16, 17, 18, 19, 20, 21, 22, 23, 24, 25, 26, 27, 28, 29, 30, 33, 34, 35, 36, 37] [32, 33, 34, 35, 0, 1, 2, 3, 4, 5, 6, 7, 8, 9, 10, 11, 12, 13, 14, 15, 16, 17, 18, 19, 20, 21, 22, 23, 24, 25, 26, 36, 37, 27, 28, 29, 30, 31] rfl rfl (by decide) (by decide) (by decide) (fun _ => rfl) (fun u1 _ => ?_)
    refine s_aload_n C (pc := 735) dL_law_735 rfl 2 rfl ?_
    refine s_arg C (pc := 736) hX hbl hbA hL3 1 rfl (by omega) rfl rfl dL_law_736 dL_law_737 dL_law_738 dL_law_739 dL_law_740 ?_
    rw [← e1]
    refine s_arg C (pc := 741) hX hbl hbA hL3 2 rfl (by omega) rfl rfl dL_law_741 dL_law_742 dL_law_743 dL_law_744 dL_law_745 ?_
    rw [← e2]
    refine s_calliX C (pc := 746) (wr := pick (LW X b h hp hq tr hp2 hq2 hi sl sf hg hgn mo mp ms mt mq n P Q (nI w) f ll n2 P2 Q2 t1 t2 t3 ha hu hw D hA q ta tu tv E sA SF u1.1 u1.2.1 u1.2.2.1 u1.2.2.2.1 u1.2.2.2.2 al wd wS wo fw M S T SQ q) [0, 1, 2, 3, 4, 5, 6, 7, 8, 9, 10, 11, 12, 13, 14, 15, 16, 17, 18, 19, 20, 21, 22, 23, 24, 25, 26, 27, 28, 29, 30, 31, 32, 35, 36]) (wn := fun u2 => LW X b h hp hq tr hp2 hq2 hi sl sf hg hgn mo mp ms mt mq n P Q (nI w) f ll n2 P2 Q2 t1 t2 t3 ha hu hw D hA q ta tu tv E sA SF u1.1 u1.2.1 u1.2.2.1 u1.2.2.2.1 u1.2.2.2.2 u2.1 u2.2.1 u2.2.2.1 u2.2.2.2.1 u2.2.2.2.2.1 M S T u2.2.2.2.2.2 q) (r_V C (As := [.int (nI ki), .int (nI kj)]) (rest := [.int _]) (kX3_beatCount_ok l X mo mp ms mt mq (nI q) wd wS wo fw M n P Q w f ll SQ al ki kj (by first | assumption | omega | decide) (by first | assumption | omega | decide) (by first | assumption | omega | decide) (by first | assumption | omega | decide) (by first | assumption | omega | decide)) (cwV 2 C.ts gL_law_X3_beatCount rfl rfl rfl (by decide +kernel) ⟨Nat.le_of_ble_eq_true rfl, Nat.le_of_ble_eq_true rfl⟩) (q0 := 33) rfl rfl [33, 34, 37] (by decide) rfl rfl (Nat.le_of_ble_eq_true rfl) rfl dL_law_746 ⟨Nat.le_refl _, Nat.le_refl _⟩) [33, 34, 37] [0, 1, 2, 3, 4, 5, 6, 7, 8, 9, 10, 11, 12, 13, 14, 15, 16, 17, 18, 19, 20, 21, 22, 23, 24, 25, 26, 27, 28, 29, 30, 31, 32, 35, 36] [0, 1, 2, 3, 4, 5, 6, 7, 8, 9, 10, 11, 12, 13, 14, 15, 16, 17, 18, 19, 20, 21, 22, 23, 24, 25, 26, 27, 28, 29, 30, 31, 32, 35, 36, 33, 34, 37] rfl rfl (by decide) (by decide) (by decide) (fun _ => rfl) (fun u2 _ => ?_)
    refine s_icmp_eq C (pc := 749) (tgt := 1247) dL_law_749 (by decide) (fun _ => ?_) (fun hne => absurd (bcount_ok SQ hV hki hj hw2) hne)
    exact law_back C hI7 hL3 ih (J)
  · skip
    refine s_aload_n C (pc := 721) dL_law_721 rfl 1 rfl ?_
    refine s_arg C (pc := 722) hX hbl hbA hL3 1 rfl (by omega) rfl rfl dL_law_722 dL_law_723 dL_law_724 dL_law_725 dL_law_726 ?_
    rw [← e1]
    refine s_arg C (pc := 727) hX hbl hbA hL3 2 rfl (by omega) rfl rfl dL_law_727 dL_law_728 dL_law_729 dL_law_730 dL_law_731 ?_
    rw [← e2]
    refine s_calli C (pc := 732) (wr := pick (LW X b h hp hq tr hp2 hq2 hi sl sf hg hgn mo mp ms mt mq n P Q (nI w) f ll n2 P2 Q2 t1 t2 t3 ha hu hw D hA q ta tu tv E sA SF z F ar0 lf gl al wd wS wo fw M S T SQ q) [4, 5, 6, 7, 8, 9, 10, 11, 12, 13, 14, 15, 16, 17, 18, 19, 20, 21, 22, 23, 24, 25, 26, 27, 28, 29, 30, 31, 32, 33, 34, 35, 36, 37]) (wn := LW X b h hp hq tr hp2 hq2 hi sl sf hg hgn mo mp ms mt mq n P Q (nI w) f ll n2 P2 Q2 t1 t2 t3 ha hu hw D hA q ta tu tv E sA SF z F ar0 lf gl al wd wS wo fw M S T SQ q) (r_V C (As := [.int v1, .int v2]) (rest := []) (kX2_beatCount_bad l X b tr hi sl sf hg (nI q) h hp hq n P Q (nI w) f ll v1 v2 (by first | assumption | omega | decide) (by first | assumption | omega | decide)) (cwV 2 C.ts gL_law_X2_beatCount rfl rfl rfl (by decide +kernel) ⟨Nat.le_of_ble_eq_true rfl, Nat.le_of_ble_eq_true rfl⟩) (q0 := 0) rfl rfl [0, 1, 2, 3] (by decide) rfl rfl (Nat.le_of_ble_eq_true rfl) rfl dL_law_732 ⟨Nat.le_refl _, Nat.le_refl _⟩) [0, 1, 2, 3] [4, 5, 6, 7, 8, 9, 10, 11, 12, 13, 14, 15, 16, 17, 18, 19, 20, 21, 22, 23, 24, 25, 26, 27, 28, 29, 30, 31, 32, 33, 34, 35, 36, 37] [34, 35, 36, 37, 0, 1, 2, 3, 4, 5, 6, 7, 8, 9, 10, 11, 12, 13, 14, 15, 16, 17, 18, 19, 20, 21, 22, 23, 24, 25, 26, 27, 28, 29, 30, 31, 32, 33] rfl rfl (by decide) (by decide) (by decide) rfl ?_
    refine s_aload_n C (pc := 735) dL_law_735 rfl 2 rfl ?_
    refine s_arg C (pc := 736) hX hbl hbA hL3 1 rfl (by omega) rfl rfl dL_law_736 dL_law_737 dL_law_738 dL_law_739 dL_law_740 ?_
    rw [← e1]
    refine s_arg C (pc := 741) hX hbl hbA hL3 2 rfl (by omega) rfl rfl dL_law_741 dL_law_742 dL_law_743 dL_law_744 dL_law_745 ?_
    rw [← e2]
    refine s_calli C (pc := 746) (wr := pick (LW X b h hp hq tr hp2 hq2 hi sl sf hg hgn mo mp ms mt mq n P Q (nI w) f ll n2 P2 Q2 t1 t2 t3 ha hu hw D hA q ta tu tv E sA SF z F ar0 lf gl al wd wS wo fw M S T SQ q) [0, 1, 2, 3, 4, 5, 6, 7, 8, 9, 10, 11, 12, 13, 14, 15, 16, 17, 18, 19, 20, 21, 22, 23, 24, 25, 26, 27, 28, 29, 30, 31, 32, 35, 36, 37]) (wn := LW X b h hp hq tr hp2 hq2 hi sl sf hg hgn mo mp ms mt mq n P Q (nI w) f ll n2 P2 Q2 t1 t2 t3 ha hu hw D hA q ta tu tv E sA SF z F ar0 lf gl al wd wS wo fw M S T SQ q) (r_V C (As := [.int v1, .int v2]) (rest := [.int _]) (kX3_beatCount_bad l X mo mp ms mt mq (nI q) al wd wS wo fw M n P Q (nI w) f ll v1 v2 (by first | assumption | omega | decide) (by first | assumption | omega | decide) (by first | assumption | omega | decide)) (cwV 2 C.ts gL_law_X3_beatCount rfl rfl rfl (by decide +kernel) ⟨Nat.le_of_ble_eq_true rfl, Nat.le_of_ble_eq_true rfl⟩) (q0 := 33) rfl rfl [33, 34] (by decide) rfl rfl (Nat.le_of_ble_eq_true rfl) rfl dL_law_746 ⟨Nat.le_refl _, Nat.le_refl _⟩) [33, 34] [0, 1, 2, 3, 4, 5, 6, 7, 8, 9, 10, 11, 12, 13, 14, 15, 16, 17, 18, 19, 20, 21, 22, 23, 24, 25, 26, 27, 28, 29, 30, 31, 32, 35, 36, 37] [0, 1, 2, 3, 4, 5, 6, 7, 8, 9, 10, 11, 12, 13, 14, 15, 16, 17, 18, 19, 20, 21, 22, 23, 24, 25, 26, 27, 28, 29, 30, 31, 32, 36, 37, 33, 34, 35] rfl rfl (by decide) (by decide) (by decide) rfl ?_
    refine s_icmp_eq C (pc := 749) (tgt := 1247) dL_law_749 (by decide) (fun _ => ?_) (fun hne => absurd (rfl) hne)
    exact law_back C hI7 hL3 ih (J)
set_option maxHeartbeats 8000000 in
theorem lc_17 {p : Program} {l : Launch} {e : Env} {s : State} {m : MethodId} {args : Array Value} {below : List Frame} {meth : Method} {c : Code} {X : XT} {A : Nat → Prop} {Q0 : State → Prop} {g : GT} {b h hp hq tr hp2 hq2 hi sl sf hg hgn mo mp ms mt mq : Nat} {sb L i : Nat} {xs : Nat → Int32} (C : Cx p l e room_1 s m args below meth c cL_law 4 RL wsL_law X A 600000 7302250 Q0 g) (hX : va_X sb L xs s s.heap) (hbl : sb < s.heap.size) (hbA : ¬ A sb) (hL3 : L ≤ 3584) (hI7 : i + 7 ≤ L) (ih : LG g X sb b h hp hq tr hp2 hq2 hi sl sf hg hgn mo mp ms mt mq (i + 7)) {n : Nat} {P Q : Nat → Int32} {w : Nat} {f ll : Int32} {n2 : Nat} {P2 Q2 : Nat → Int32} {t1 t2 t3 : Int32} {ha hu hw : Nat → Nat} {D : Nat → SD} {hA : Nat → Option Nat} {q : Nat} {ta tu tv : Nat → Nat} {E : Nat → SD} {sA : Nat → Option Nat} {SF : Nat → Int32} {z : Nat} {F : Nat → Int32} {ar0 lf gl : Int64} {al : Int32} {wd : Int64} {wS wo fw : Int32} {M S T : Nat → Int32} {SQ : Nat → Int64} (J : JV n P Q w f ll ha D hA q ta E sA SF M S T) : g (LW X b h hp hq tr hp2 hq2 hi sl sf hg hgn mo mp ms mt mq n P Q (nI w) f ll n2 P2 Q2 t1 t2 t3 ha hu hw D hA q ta tu tv E sA SF z F ar0 lf gl al wd wS wo fw M S T SQ q) 754 [(0, .ref sb), (1, .ref b), (2, .ref mo), (3, .int (nI i))] [] := by
  obtain ⟨v1, e1⟩ : ∃ v, v = xs (i + 1) := ⟨_, rfl⟩
  obtain ⟨v2, e2⟩ : ∃ v, v = xs (i + 2) := ⟨_, rfl⟩
  obtain ⟨v3, e3⟩ : ∃ v, v = xs (i + 3) := ⟨_, rfl⟩
  obtain ⟨hn, hV, hw2, hL, hM, hq5, hA5, hJH, sA2, hJT⟩ := id J
  by_cases hb : hpP n v1 v2 ∧ 0 ≤ v3
  · obtain ⟨hp0, hrk⟩ := hb
    obtain ⟨ki, kj, hij, hj, rfl, rfl⟩ := hp_ex hn hp0
    have hki : ki < n := by omega
    have hB := bth_ok SQ hV hki hj hw2
    refine s_aload_n C (pc := 754) dL_law_754 rfl 1 rfl ?_
    refine s_arg C (pc := 755) hX hbl hbA hL3 1 rfl (by omega) rfl rfl dL_law_755 dL_law_756 dL_law_757 dL_law_758 dL_law_759 ?_
    rw [← e1]
    refine s_arg C (pc := 760) hX hbl hbA hL3 2 rfl (by omega) rfl rfl dL_law_760 dL_law_761 dL_law_762 dL_law_763 dL_law_764 ?_
    rw [← e2]
    refine s_arg C (pc := 765) hX hbl hbA hL3 3 rfl (by omega) rfl rfl dL_law_765 dL_law_766 dL_law_767 dL_law_768 dL_law_769 ?_
    rw [← e3]
    refine s_calllX C (pc := 770) (wr := pick (LW X b h hp hq tr hp2 hq2 hi sl sf hg hgn mo mp ms mt mq n P Q (nI w) f ll n2 P2 Q2 t1 t2 t3 ha hu hw D hA q ta tu tv E sA SF z F ar0 lf gl al wd wS wo fw M S T SQ q) [4, 5, 6, 7, 8, 9, 10, 11, 12, 13, 14, 15, 16, 17, 18, 19, 20, 21, 22, 23, 24, 25, 26, 27, 28, 29, 30, 33, 34, 35, 36, 37]) (wn := fun u1 => LW X b h hp hq tr hp2 hq2 hi sl sf hg hgn mo mp ms mt mq n P Q (nI w) f ll n2 P2 Q2 t1 t2 t3 ha hu hw D hA q ta tu tv E sA SF u1.1 u1.2.1 u1.2.2.1 u1.2.2.2.1 u1.2.2.2.2 al wd wS wo fw M S T SQ q) (r_V C (As := [.int (nI ki), .int (nI kj), .int v3]) (rest := []) (kX2_beatNumerator_ok l X b tr hi sl sf (nI q) h hp hq n P Q w f ll hg hgn z F ar0 lf gl ki kj v3 (by first | assumption | omega | decide) (by first | assumption | omega | decide) (by first | assumption | omega | decide) (by first | assumption | omega | decide) (by first | assumption | omega | decide)) (cwV 3 C.ts gL_law_X2_beatNumerator rfl rfl rfl (by decide +kernel) ⟨Nat.le_of_ble_eq_true rfl, Nat.le_of_ble_eq_true rfl⟩) (q0 := 0) rfl rfl [0, 1, 2, 3, 31, 32] (by decide) rfl rfl (Nat.le_of_ble_eq_true rfl) rfl dL_law_770 ⟨Nat.le_refl _, Nat.le_refl _⟩) [0, 1, 2, 3, 31, 32] [4, 5, 6, 7, 8, 9, 10, 11, 12, 13, 14, 15, 16, 17, 18, 19, 20, 21, 22, 23, 24, 25, 26, 27, 28, 29, 30, 33, 34, 35, 36, 37] [32, 33, 34, 35, 0, 1, 2, 3, 4, 5, 6, 7, 8, 9, 10, 11, 12, 13, 14, 15, 16, 17, 18, 19, 20, 21, 22, 23, 24, 25, 26, 36, 37, 27, 28, 29, 30, 31] rfl rfl (by decide) (by decide) (by decide) (fun _ => rfl) (fun u1 _ => ?_)
    refine s_aload_n C (pc := 773) dL_law_773 rfl 2 rfl ?_
    refine s_arg C (pc := 774) hX hbl hbA hL3 1 rfl (by omega) rfl rfl dL_law_774 dL_law_775 dL_law_776 dL_law_777 dL_law_778 ?_
    rw [← e1]
    refine s_arg C (pc := 779) hX hbl hbA hL3 2 rfl (by omega) rfl rfl dL_law_779 dL_law_780 dL_law_781 dL_law_782 dL_law_783 ?_
    rw [← e2]
    refine s_arg C (pc := 784) hX hbl hbA hL3 3 rfl (by omega) rfl rfl dL_law_784 dL_law_785 dL_law_786 dL_law_787 dL_law_788 ?_
    rw [← e3]
    refine s_calllX C (pc := 789) (wr := pick (LW X b h hp hq tr hp2 hq2 hi sl sf hg hgn mo mp ms mt mq n P Q (nI w) f ll n2 P2 Q2 t1 t2 t3 ha hu hw D hA q ta tu tv E sA SF u1.1 u1.2.1 u1.2.2.1 u1.2.2.2.1 u1.2.2.2.2 al wd wS wo fw M S T SQ q) [0, 1, 2, 3, 4, 5, 6, 7, 8, 9, 10, 11, 12, 13, 14, 15, 16, 17, 18, 19, 20, 21, 22, 23, 24, 25, 26, 27, 28, 29, 30, 31, 32, 35, 36]) (wn := fun u2 => LW X b h hp hq tr hp2 hq2 hi sl sf hg hgn mo mp ms mt mq n P Q (nI w) f ll n2 P2 Q2 t1 t2 t3 ha hu hw D hA q ta tu tv E sA SF u1.1 u1.2.1 u1.2.2.1 u1.2.2.2.1 u1.2.2.2.2 u2.1 u2.2.1 u2.2.2.1 u2.2.2.2.1 u2.2.2.2.2.1 M S T u2.2.2.2.2.2 q) (r_V C (As := [.int (nI ki), .int (nI kj), .int v3]) (rest := [.long _]) (kX3_beatNumerator_ok l X mo mp ms mt mq (nI q) wd wS wo fw M n P Q w f ll SQ al ki kj v3 (by first | assumption | omega | decide) (by first | assumption | omega | decide) (by first | assumption | omega | decide) (by first | assumption | omega | decide) (by first | assumption | omega | decide) (by first | assumption | omega | decide) (by first | assumption | omega | decide)) (cwV 3 C.ts gL_law_X3_beatNumerator rfl rfl rfl (by decide +kernel) ⟨Nat.le_of_ble_eq_true rfl, Nat.le_of_ble_eq_true rfl⟩) (q0 := 33) rfl rfl [33, 34, 37] (by decide) rfl rfl (Nat.le_of_ble_eq_true rfl) rfl dL_law_789 ⟨Nat.le_refl _, Nat.le_refl _⟩) [33, 34, 37] [0, 1, 2, 3, 4, 5, 6, 7, 8, 9, 10, 11, 12, 13, 14, 15, 16, 17, 18, 19, 20, 21, 22, 23, 24, 25, 26, 27, 28, 29, 30, 31, 32, 35, 36] [0, 1, 2, 3, 4, 5, 6, 7, 8, 9, 10, 11, 12, 13, 14, 15, 16, 17, 18, 19, 20, 21, 22, 23, 24, 25, 26, 27, 28, 29, 30, 31, 32, 35, 36, 33, 34, 37] rfl rfl (by decide) (by decide) (by decide) (fun _ => rfl) (fun u2 _ => ?_)
    refine s_lcmp_eq C (pc := 792) (tgt := 1247) dL_law_792 dL_law_793 (by decide) (fun _ => ?_) (fun hne => absurd ((beat_ok SQ hV hki hj hw2 hrk).1.1) hne)
    exact law_back C hI7 hL3 ih (J)
  · skip
    refine s_aload_n C (pc := 754) dL_law_754 rfl 1 rfl ?_
    refine s_arg C (pc := 755) hX hbl hbA hL3 1 rfl (by omega) rfl rfl dL_law_755 dL_law_756 dL_law_757 dL_law_758 dL_law_759 ?_
    rw [← e1]
    refine s_arg C (pc := 760) hX hbl hbA hL3 2 rfl (by omega) rfl rfl dL_law_760 dL_law_761 dL_law_762 dL_law_763 dL_law_764 ?_
    rw [← e2]
    refine s_arg C (pc := 765) hX hbl hbA hL3 3 rfl (by omega) rfl rfl dL_law_765 dL_law_766 dL_law_767 dL_law_768 dL_law_769 ?_
    rw [← e3]
    refine s_calll C (pc := 770) (wr := pick (LW X b h hp hq tr hp2 hq2 hi sl sf hg hgn mo mp ms mt mq n P Q (nI w) f ll n2 P2 Q2 t1 t2 t3 ha hu hw D hA q ta tu tv E sA SF z F ar0 lf gl al wd wS wo fw M S T SQ q) [4, 5, 6, 7, 8, 9, 10, 11, 12, 13, 14, 15, 16, 17, 18, 19, 20, 21, 22, 23, 24, 25, 26, 27, 28, 29, 30, 31, 32, 33, 34, 35, 36, 37]) (wn := LW X b h hp hq tr hp2 hq2 hi sl sf hg hgn mo mp ms mt mq n P Q (nI w) f ll n2 P2 Q2 t1 t2 t3 ha hu hw D hA q ta tu tv E sA SF z F ar0 lf gl al wd wS wo fw M S T SQ q) (r_V C (As := [.int v1, .int v2, .int v3]) (rest := []) (kX2_beatNumerator_bad l X b tr hi sl sf hg (nI q) h hp hq n P Q (nI w) f ll v1 v2 v3 (by first | assumption | omega | decide) (by first | assumption | omega | decide)) (cwV 3 C.ts gL_law_X2_beatNumerator rfl rfl rfl (by decide +kernel) ⟨Nat.le_of_ble_eq_true rfl, Nat.le_of_ble_eq_true rfl⟩) (q0 := 0) rfl rfl [0, 1, 2, 3] (by decide) rfl rfl (Nat.le_of_ble_eq_true rfl) rfl dL_law_770 ⟨Nat.le_refl _, Nat.le_refl _⟩) [0, 1, 2, 3] [4, 5, 6, 7, 8, 9, 10, 11, 12, 13, 14, 15, 16, 17, 18, 19, 20, 21, 22, 23, 24, 25, 26, 27, 28, 29, 30, 31, 32, 33, 34, 35, 36, 37] [34, 35, 36, 37, 0, 1, 2, 3, 4, 5, 6, 7, 8, 9, 10, 11, 12, 13, 14, 15, 16, 17, 18, 19, 20, 21, 22, 23, 24, 25, 26, 27, 28, 29, 30, 31, 32, 33] rfl rfl (by decide) (by decide) (by decide) rfl ?_
    refine s_aload_n C (pc := 773) dL_law_773 rfl 2 rfl ?_
    refine s_arg C (pc := 774) hX hbl hbA hL3 1 rfl (by omega) rfl rfl dL_law_774 dL_law_775 dL_law_776 dL_law_777 dL_law_778 ?_
    rw [← e1]
    refine s_arg C (pc := 779) hX hbl hbA hL3 2 rfl (by omega) rfl rfl dL_law_779 dL_law_780 dL_law_781 dL_law_782 dL_law_783 ?_
    rw [← e2]
    refine s_arg C (pc := 784) hX hbl hbA hL3 3 rfl (by omega) rfl rfl dL_law_784 dL_law_785 dL_law_786 dL_law_787 dL_law_788 ?_
    rw [← e3]
    refine s_calll C (pc := 789) (wr := pick (LW X b h hp hq tr hp2 hq2 hi sl sf hg hgn mo mp ms mt mq n P Q (nI w) f ll n2 P2 Q2 t1 t2 t3 ha hu hw D hA q ta tu tv E sA SF z F ar0 lf gl al wd wS wo fw M S T SQ q) [0, 1, 2, 3, 4, 5, 6, 7, 8, 9, 10, 11, 12, 13, 14, 15, 16, 17, 18, 19, 20, 21, 22, 23, 24, 25, 26, 27, 28, 29, 30, 31, 32, 35, 36, 37]) (wn := LW X b h hp hq tr hp2 hq2 hi sl sf hg hgn mo mp ms mt mq n P Q (nI w) f ll n2 P2 Q2 t1 t2 t3 ha hu hw D hA q ta tu tv E sA SF z F ar0 lf gl al wd wS wo fw M S T SQ q) (r_V C (As := [.int v1, .int v2, .int v3]) (rest := [.long _]) (kX3_beatNumerator_bad l X mo mp ms mt mq (nI q) al wd wS wo fw M n P Q (nI w) f ll v1 v2 v3 (by first | assumption | omega | decide) (by first | assumption | omega | decide) (by first | assumption | omega | decide)) (cwV 3 C.ts gL_law_X3_beatNumerator rfl rfl rfl (by decide +kernel) ⟨Nat.le_of_ble_eq_true rfl, Nat.le_of_ble_eq_true rfl⟩) (q0 := 33) rfl rfl [33, 34] (by decide) rfl rfl (Nat.le_of_ble_eq_true rfl) rfl dL_law_789 ⟨Nat.le_refl _, Nat.le_refl _⟩) [33, 34] [0, 1, 2, 3, 4, 5, 6, 7, 8, 9, 10, 11, 12, 13, 14, 15, 16, 17, 18, 19, 20, 21, 22, 23, 24, 25, 26, 27, 28, 29, 30, 31, 32, 35, 36, 37] [0, 1, 2, 3, 4, 5, 6, 7, 8, 9, 10, 11, 12, 13, 14, 15, 16, 17, 18, 19, 20, 21, 22, 23, 24, 25, 26, 27, 28, 29, 30, 31, 32, 36, 37, 33, 34, 35] rfl rfl (by decide) (by decide) (by decide) rfl ?_
    refine s_lcmp_eq C (pc := 792) (tgt := 1247) dL_law_792 dL_law_793 (by decide) (fun _ => ?_) (fun hne => absurd (rfl) hne)
    exact law_back C hI7 hL3 ih (J)
set_option maxHeartbeats 8000000 in
theorem lc_18 {p : Program} {l : Launch} {e : Env} {s : State} {m : MethodId} {args : Array Value} {below : List Frame} {meth : Method} {c : Code} {X : XT} {A : Nat → Prop} {Q0 : State → Prop} {g : GT} {b h hp hq tr hp2 hq2 hi sl sf hg hgn mo mp ms mt mq : Nat} {sb L i : Nat} {xs : Nat → Int32} (C : Cx p l e room_1 s m args below meth c cL_law 4 RL wsL_law X A 600000 7302250 Q0 g) (hX : va_X sb L xs s s.heap) (hbl : sb < s.heap.size) (hbA : ¬ A sb) (hL3 : L ≤ 3584) (hI7 : i + 7 ≤ L) (ih : LG g X sb b h hp hq tr hp2 hq2 hi sl sf hg hgn mo mp ms mt mq (i + 7)) {n : Nat} {P Q : Nat → Int32} {w : Nat} {f ll : Int32} {n2 : Nat} {P2 Q2 : Nat → Int32} {t1 t2 t3 : Int32} {ha hu hw : Nat → Nat} {D : Nat → SD} {hA : Nat → Option Nat} {q : Nat} {ta tu tv : Nat → Nat} {E : Nat → SD} {sA : Nat → Option Nat} {SF : Nat → Int32} {z : Nat} {F : Nat → Int32} {ar0 lf gl : Int64} {al : Int32} {wd : Int64} {wS wo fw : Int32} {M S T : Nat → Int32} {SQ : Nat → Int64} (J : JV n P Q w f ll ha D hA q ta E sA SF M S T) : g (LW X b h hp hq tr hp2 hq2 hi sl sf hg hgn mo mp ms mt mq n P Q (nI w) f ll n2 P2 Q2 t1 t2 t3 ha hu hw D hA q ta tu tv E sA SF z F ar0 lf gl al wd wS wo fw M S T SQ q) 798 [(0, .ref sb), (1, .ref b), (2, .ref mo), (3, .int (nI i))] [] := by
  obtain ⟨v1, e1⟩ : ∃ v, v = xs (i + 1) := ⟨_, rfl⟩
  obtain ⟨v2, e2⟩ : ∃ v, v = xs (i + 2) := ⟨_, rfl⟩
  obtain ⟨v3, e3⟩ : ∃ v, v = xs (i + 3) := ⟨_, rfl⟩
  obtain ⟨hn, hV, hw2, hL, hM, hq5, hA5, hJH, sA2, hJT⟩ := id J
  by_cases hb : hpP n v1 v2 ∧ 0 ≤ v3
  · obtain ⟨hp0, hrk⟩ := hb
    obtain ⟨ki, kj, hij, hj, rfl, rfl⟩ := hp_ex hn hp0
    have hki : ki < n := by omega
    have hB := bth_ok SQ hV hki hj hw2
    refine s_aload_n C (pc := 798) dL_law_798 rfl 1 rfl ?_
    refine s_arg C (pc := 799) hX hbl hbA hL3 1 rfl (by omega) rfl rfl dL_law_799 dL_law_800 dL_law_801 dL_law_802 dL_law_803 ?_
    rw [← e1]
    refine s_arg C (pc := 804) hX hbl hbA hL3 2 rfl (by omega) rfl rfl dL_law_804 dL_law_805 dL_law_806 dL_law_807 dL_law_808 ?_
    rw [← e2]
    refine s_arg C (pc := 809) hX hbl hbA hL3 3 rfl (by omega) rfl rfl dL_law_809 dL_law_810 dL_law_811 dL_law_812 dL_law_813 ?_
    rw [← e3]
    refine s_calllX C (pc := 814) (wr := pick (LW X b h hp hq tr hp2 hq2 hi sl sf hg hgn mo mp ms mt mq n P Q (nI w) f ll n2 P2 Q2 t1 t2 t3 ha hu hw D hA q ta tu tv E sA SF z F ar0 lf gl al wd wS wo fw M S T SQ q) [4, 5, 6, 7, 8, 9, 10, 11, 12, 13, 14, 15, 16, 17, 18, 19, 20, 21, 22, 23, 24, 25, 26, 27, 28, 29, 30, 33, 34, 35, 36, 37]) (wn := fun u1 => LW X b h hp hq tr hp2 hq2 hi sl sf hg hgn mo mp ms mt mq n P Q (nI w) f ll n2 P2 Q2 t1 t2 t3 ha hu hw D hA q ta tu tv E sA SF u1.1 u1.2.1 u1.2.2.1 u1.2.2.2.1 u1.2.2.2.2 al wd wS wo fw M S T SQ q) (r_V C (As := [.int (nI ki), .int (nI kj), .int v3]) (rest := []) (kX2_beatDenominator_ok l X b tr hi sl sf (nI q) h hp hq n P Q w f ll hg hgn z F ar0 lf gl ki kj v3 (by first | assumption | omega | decide) (by first | assumption | omega | decide) (by first | assumption | omega | decide) (by first | assumption | omega | decide) (by first | assumption | omega | decide)) (cwV 3 C.ts gL_law_X2_beatDenominator rfl rfl rfl (by decide +kernel) ⟨Nat.le_of_ble_eq_true rfl, Nat.le_of_ble_eq_true rfl⟩) (q0 := 0) rfl rfl [0, 1, 2, 3, 31, 32] (by decide) rfl rfl (Nat.le_of_ble_eq_true rfl) rfl dL_law_814 ⟨Nat.le_refl _, Nat.le_refl _⟩) [0, 1, 2, 3, 31, 32] [4, 5, 6, 7, 8, 9, 10, 11, 12, 13, 14, 15, 16, 17, 18, 19, 20, 21, 22, 23, 24, 25, 26, 27, 28, 29, 30, 33, 34, 35, 36, 37] [32, 33, 34, 35, 0, 1, 2, 3, 4, 5, 6, 7, 8, 9, 10, 11, 12, 13, 14, 15, 16, 17, 18, 19, 20, 21, 22, 23, 24, 25, 26, 36, 37, 27, 28, 29, 30, 31] rfl rfl (by decide) (by decide) (by decide) (fun _ => rfl) (fun u1 _ => ?_)
    refine s_aload_n C (pc := 817) dL_law_817 rfl 2 rfl ?_
    refine s_arg C (pc := 818) hX hbl hbA hL3 1 rfl (by omega) rfl rfl dL_law_818 dL_law_819 dL_law_820 dL_law_821 dL_law_822 ?_
    rw [← e1]
    refine s_arg C (pc := 823) hX hbl hbA hL3 2 rfl (by omega) rfl rfl dL_law_823 dL_law_824 dL_law_825 dL_law_826 dL_law_827 ?_
    rw [← e2]
    refine s_arg C (pc := 828) hX hbl hbA hL3 3 rfl (by omega) rfl rfl dL_law_828 dL_law_829 dL_law_830 dL_law_831 dL_law_832 ?_
    rw [← e3]
    refine s_calllX C (pc := 833) (wr := pick (LW X b h hp hq tr hp2 hq2 hi sl sf hg hgn mo mp ms mt mq n P Q (nI w) f ll n2 P2 Q2 t1 t2 t3 ha hu hw D hA q ta tu tv E sA SF u1.1 u1.2.1 u1.2.2.1 u1.2.2.2.1 u1.2.2.2.2 al wd wS wo fw M S T SQ q) [0, 1, 2, 3, 4, 5, 6, 7, 8, 9, 10, 11, 12, 13, 14, 15, 16, 17, 18, 19, 20, 21, 22, 23, 24, 25, 26, 27, 28, 29, 30, 31, 32, 35, 36]) (wn := fun u2 => LW X b h hp hq tr hp2 hq2 hi sl sf hg hgn mo mp ms mt mq n P Q (nI w) f ll n2 P2 Q2 t1 t2 t3 ha hu hw D hA q ta tu tv E sA SF u1.1 u1.2.1 u1.2.2.1 u1.2.2.2.1 u1.2.2.2.2 u2.1 u2.2.1 u2.2.2.1 u2.2.2.2.1 u2.2.2.2.2.1 M S T u2.2.2.2.2.2 q) (r_V C (As := [.int (nI ki), .int (nI kj), .int v3]) (rest := [.long _]) (kX3_beatDenominator_ok l X mo mp ms mt mq (nI q) wd wS wo fw M n P Q w f ll SQ al ki kj v3 (by first | assumption | omega | decide) (by first | assumption | omega | decide) (by first | assumption | omega | decide) (by first | assumption | omega | decide) (by first | assumption | omega | decide) (by first | assumption | omega | decide) (by first | assumption | omega | decide)) (cwV 3 C.ts gL_law_X3_beatDenominator rfl rfl rfl (by decide +kernel) ⟨Nat.le_of_ble_eq_true rfl, Nat.le_of_ble_eq_true rfl⟩) (q0 := 33) rfl rfl [33, 34, 37] (by decide) rfl rfl (Nat.le_of_ble_eq_true rfl) rfl dL_law_833 ⟨Nat.le_refl _, Nat.le_refl _⟩) [33, 34, 37] [0, 1, 2, 3, 4, 5, 6, 7, 8, 9, 10, 11, 12, 13, 14, 15, 16, 17, 18, 19, 20, 21, 22, 23, 24, 25, 26, 27, 28, 29, 30, 31, 32, 35, 36] [0, 1, 2, 3, 4, 5, 6, 7, 8, 9, 10, 11, 12, 13, 14, 15, 16, 17, 18, 19, 20, 21, 22, 23, 24, 25, 26, 27, 28, 29, 30, 31, 32, 35, 36, 33, 34, 37] rfl rfl (by decide) (by decide) (by decide) (fun _ => rfl) (fun u2 _ => ?_)
    refine s_lcmp_eq C (pc := 836) (tgt := 1247) dL_law_836 dL_law_837 (by decide) (fun _ => ?_) (fun hne => absurd ((beat_ok SQ hV hki hj hw2 hrk).1.2) hne)
    exact law_back C hI7 hL3 ih (J)
  · skip
    refine s_aload_n C (pc := 798) dL_law_798 rfl 1 rfl ?_
    refine s_arg C (pc := 799) hX hbl hbA hL3 1 rfl (by omega) rfl rfl dL_law_799 dL_law_800 dL_law_801 dL_law_802 dL_law_803 ?_
    rw [← e1]
    refine s_arg C (pc := 804) hX hbl hbA hL3 2 rfl (by omega) rfl rfl dL_law_804 dL_law_805 dL_law_806 dL_law_807 dL_law_808 ?_
    rw [← e2]
    refine s_arg C (pc := 809) hX hbl hbA hL3 3 rfl (by omega) rfl rfl dL_law_809 dL_law_810 dL_law_811 dL_law_812 dL_law_813 ?_
    rw [← e3]
    refine s_calll C (pc := 814) (wr := pick (LW X b h hp hq tr hp2 hq2 hi sl sf hg hgn mo mp ms mt mq n P Q (nI w) f ll n2 P2 Q2 t1 t2 t3 ha hu hw D hA q ta tu tv E sA SF z F ar0 lf gl al wd wS wo fw M S T SQ q) [4, 5, 6, 7, 8, 9, 10, 11, 12, 13, 14, 15, 16, 17, 18, 19, 20, 21, 22, 23, 24, 25, 26, 27, 28, 29, 30, 31, 32, 33, 34, 35, 36, 37]) (wn := LW X b h hp hq tr hp2 hq2 hi sl sf hg hgn mo mp ms mt mq n P Q (nI w) f ll n2 P2 Q2 t1 t2 t3 ha hu hw D hA q ta tu tv E sA SF z F ar0 lf gl al wd wS wo fw M S T SQ q) (r_V C (As := [.int v1, .int v2, .int v3]) (rest := []) (kX2_beatDenominator_bad l X b tr hi sl sf hg (nI q) h hp hq n P Q (nI w) f ll v1 v2 v3 (by first | assumption | omega | decide) (by first | assumption | omega | decide)) (cwV 3 C.ts gL_law_X2_beatDenominator rfl rfl rfl (by decide +kernel) ⟨Nat.le_of_ble_eq_true rfl, Nat.le_of_ble_eq_true rfl⟩) (q0 := 0) rfl rfl [0, 1, 2, 3] (by decide) rfl rfl (Nat.le_of_ble_eq_true rfl) rfl dL_law_814 ⟨Nat.le_refl _, Nat.le_refl _⟩) [0, 1, 2, 3] [4, 5, 6, 7, 8, 9, 10, 11, 12, 13, 14, 15, 16, 17, 18, 19, 20, 21, 22, 23, 24, 25, 26, 27, 28, 29, 30, 31, 32, 33, 34, 35, 36, 37] [34, 35, 36, 37, 0, 1, 2, 3, 4, 5, 6, 7, 8, 9, 10, 11, 12, 13, 14, 15, 16, 17, 18, 19, 20, 21, 22, 23, 24, 25, 26, 27, 28, 29, 30, 31, 32, 33] rfl rfl (by decide) (by decide) (by decide) rfl ?_
    refine s_aload_n C (pc := 817) dL_law_817 rfl 2 rfl ?_
    refine s_arg C (pc := 818) hX hbl hbA hL3 1 rfl (by omega) rfl rfl dL_law_818 dL_law_819 dL_law_820 dL_law_821 dL_law_822 ?_
    rw [← e1]
    refine s_arg C (pc := 823) hX hbl hbA hL3 2 rfl (by omega) rfl rfl dL_law_823 dL_law_824 dL_law_825 dL_law_826 dL_law_827 ?_
    rw [← e2]
    refine s_arg C (pc := 828) hX hbl hbA hL3 3 rfl (by omega) rfl rfl dL_law_828 dL_law_829 dL_law_830 dL_law_831 dL_law_832 ?_
    rw [← e3]
    refine s_calll C (pc := 833) (wr := pick (LW X b h hp hq tr hp2 hq2 hi sl sf hg hgn mo mp ms mt mq n P Q (nI w) f ll n2 P2 Q2 t1 t2 t3 ha hu hw D hA q ta tu tv E sA SF z F ar0 lf gl al wd wS wo fw M S T SQ q) [0, 1, 2, 3, 4, 5, 6, 7, 8, 9, 10, 11, 12, 13, 14, 15, 16, 17, 18, 19, 20, 21, 22, 23, 24, 25, 26, 27, 28, 29, 30, 31, 32, 35, 36, 37]) (wn := LW X b h hp hq tr hp2 hq2 hi sl sf hg hgn mo mp ms mt mq n P Q (nI w) f ll n2 P2 Q2 t1 t2 t3 ha hu hw D hA q ta tu tv E sA SF z F ar0 lf gl al wd wS wo fw M S T SQ q) (r_V C (As := [.int v1, .int v2, .int v3]) (rest := [.long _]) (kX3_beatDenominator_bad l X mo mp ms mt mq (nI q) al wd wS wo fw M n P Q (nI w) f ll v1 v2 v3 (by first | assumption | omega | decide) (by first | assumption | omega | decide) (by first | assumption | omega | decide)) (cwV 3 C.ts gL_law_X3_beatDenominator rfl rfl rfl (by decide +kernel) ⟨Nat.le_of_ble_eq_true rfl, Nat.le_of_ble_eq_true rfl⟩) (q0 := 33) rfl rfl [33, 34] (by decide) rfl rfl (Nat.le_of_ble_eq_true rfl) rfl dL_law_833 ⟨Nat.le_refl _, Nat.le_refl _⟩) [33, 34] [0, 1, 2, 3, 4, 5, 6, 7, 8, 9, 10, 11, 12, 13, 14, 15, 16, 17, 18, 19, 20, 21, 22, 23, 24, 25, 26, 27, 28, 29, 30, 31, 32, 35, 36, 37] [0, 1, 2, 3, 4, 5, 6, 7, 8, 9, 10, 11, 12, 13, 14, 15, 16, 17, 18, 19, 20, 21, 22, 23, 24, 25, 26, 27, 28, 29, 30, 31, 32, 36, 37, 33, 34, 35] rfl rfl (by decide) (by decide) (by decide) rfl ?_
    refine s_lcmp_eq C (pc := 836) (tgt := 1247) dL_law_836 dL_law_837 (by decide) (fun _ => ?_) (fun hne => absurd (rfl) hne)
    exact law_back C hI7 hL3 ih (J)
set_option maxHeartbeats 8000000 in
theorem lc_19 {p : Program} {l : Launch} {e : Env} {s : State} {m : MethodId} {args : Array Value} {below : List Frame} {meth : Method} {c : Code} {X : XT} {A : Nat → Prop} {Q0 : State → Prop} {g : GT} {b h hp hq tr hp2 hq2 hi sl sf hg hgn mo mp ms mt mq : Nat} {sb L i : Nat} {xs : Nat → Int32} (C : Cx p l e room_1 s m args below meth c cL_law 4 RL wsL_law X A 600000 7302250 Q0 g) (hX : va_X sb L xs s s.heap) (hbl : sb < s.heap.size) (hbA : ¬ A sb) (hL3 : L ≤ 3584) (hI7 : i + 7 ≤ L) (ih : LG g X sb b h hp hq tr hp2 hq2 hi sl sf hg hgn mo mp ms mt mq (i + 7)) {n : Nat} {P Q : Nat → Int32} {w : Nat} {f ll : Int32} {n2 : Nat} {P2 Q2 : Nat → Int32} {t1 t2 t3 : Int32} {ha hu hw : Nat → Nat} {D : Nat → SD} {hA : Nat → Option Nat} {q : Nat} {ta tu tv : Nat → Nat} {E : Nat → SD} {sA : Nat → Option Nat} {SF : Nat → Int32} {z : Nat} {F : Nat → Int32} {ar0 lf gl : Int64} {al : Int32} {wd : Int64} {wS wo fw : Int32} {M S T : Nat → Int32} {SQ : Nat → Int64} (J : JV n P Q w f ll ha D hA q ta E sA SF M S T) : g (LW X b h hp hq tr hp2 hq2 hi sl sf hg hgn mo mp ms mt mq n P Q (nI w) f ll n2 P2 Q2 t1 t2 t3 ha hu hw D hA q ta tu tv E sA SF z F ar0 lf gl al wd wS wo fw M S T SQ q) 842 [(0, .ref sb), (1, .ref b), (2, .ref mo), (3, .int (nI i))] [] := by
  obtain ⟨v1, e1⟩ : ∃ v, v = xs (i + 1) := ⟨_, rfl⟩
  obtain ⟨v2, e2⟩ : ∃ v, v = xs (i + 2) := ⟨_, rfl⟩
  obtain ⟨v3, e3⟩ : ∃ v, v = xs (i + 3) := ⟨_, rfl⟩
  obtain ⟨hn, hV, hw2, hL, hM, hq5, hA5, hJH, sA2, hJT⟩ := id J
  by_cases hb : hpP n v1 v2 ∧ 0 ≤ v3
  · obtain ⟨hp0, hrk⟩ := hb
    obtain ⟨ki, kj, hij, hj, rfl, rfl⟩ := hp_ex hn hp0
    have hki : ki < n := by omega
    have hB := bth_ok SQ hV hki hj hw2
    refine s_aload_n C (pc := 842) dL_law_842 rfl 1 rfl ?_
    refine s_arg C (pc := 843) hX hbl hbA hL3 1 rfl (by omega) rfl rfl dL_law_843 dL_law_844 dL_law_845 dL_law_846 dL_law_847 ?_
    rw [← e1]
    refine s_arg C (pc := 848) hX hbl hbA hL3 2 rfl (by omega) rfl rfl dL_law_848 dL_law_849 dL_law_850 dL_law_851 dL_law_852 ?_
    rw [← e2]
    refine s_arg C (pc := 853) hX hbl hbA hL3 3 rfl (by omega) rfl rfl dL_law_853 dL_law_854 dL_law_855 dL_law_856 dL_law_857 ?_
    rw [← e3]
    refine s_calliX C (pc := 858) (wr := pick (LW X b h hp hq tr hp2 hq2 hi sl sf hg hgn mo mp ms mt mq n P Q (nI w) f ll n2 P2 Q2 t1 t2 t3 ha hu hw D hA q ta tu tv E sA SF z F ar0 lf gl al wd wS wo fw M S T SQ q) [4, 5, 6, 7, 8, 9, 10, 11, 12, 13, 14, 15, 16, 17, 18, 19, 20, 21, 22, 23, 24, 25, 26, 27, 28, 29, 30, 33, 34, 35, 36, 37]) (wn := fun u1 => LW X b h hp hq tr hp2 hq2 hi sl sf hg hgn mo mp ms mt mq n P Q (nI w) f ll n2 P2 Q2 t1 t2 t3 ha hu hw D hA q ta tu tv E sA SF u1.1 u1.2.1 u1.2.2.1 u1.2.2.2.1 u1.2.2.2.2 al wd wS wo fw M S T SQ q) (r_V C (As := [.int (nI ki), .int (nI kj), .int v3]) (rest := []) (kX2_beatFrequency_ok l X b tr hi sl sf (nI q) h hp hq n P Q w f ll hg hgn z F ar0 lf gl ki kj v3 (by first | assumption | omega | decide) (by first | assumption | omega | decide) (by first | assumption | omega | decide) (by first | assumption | omega | decide) (by first | assumption | omega | decide)) (cwV 3 C.ts gL_law_X2_beatFrequency rfl rfl rfl (by decide +kernel) ⟨Nat.le_of_ble_eq_true rfl, Nat.le_of_ble_eq_true rfl⟩) (q0 := 0) rfl rfl [0, 1, 2, 3, 31, 32] (by decide) rfl rfl (Nat.le_of_ble_eq_true rfl) rfl dL_law_858 ⟨Nat.le_refl _, Nat.le_refl _⟩) [0, 1, 2, 3, 31, 32] [4, 5, 6, 7, 8, 9, 10, 11, 12, 13, 14, 15, 16, 17, 18, 19, 20, 21, 22, 23, 24, 25, 26, 27, 28, 29, 30, 33, 34, 35, 36, 37] [32, 33, 34, 35, 0, 1, 2, 3, 4, 5, 6, 7, 8, 9, 10, 11, 12, 13, 14, 15, 16, 17, 18, 19, 20, 21, 22, 23, 24, 25, 26, 36, 37, 27, 28, 29, 30, 31] rfl rfl (by decide) (by decide) (by decide) (fun _ => rfl) (fun u1 _ => ?_)
    refine s_aload_n C (pc := 861) dL_law_861 rfl 2 rfl ?_
    refine s_arg C (pc := 862) hX hbl hbA hL3 1 rfl (by omega) rfl rfl dL_law_862 dL_law_863 dL_law_864 dL_law_865 dL_law_866 ?_
    rw [← e1]
    refine s_arg C (pc := 867) hX hbl hbA hL3 2 rfl (by omega) rfl rfl dL_law_867 dL_law_868 dL_law_869 dL_law_870 dL_law_871 ?_
    rw [← e2]
    refine s_arg C (pc := 872) hX hbl hbA hL3 3 rfl (by omega) rfl rfl dL_law_872 dL_law_873 dL_law_874 dL_law_875 dL_law_876 ?_
    rw [← e3]
    refine s_calliX C (pc := 877) (wr := pick (LW X b h hp hq tr hp2 hq2 hi sl sf hg hgn mo mp ms mt mq n P Q (nI w) f ll n2 P2 Q2 t1 t2 t3 ha hu hw D hA q ta tu tv E sA SF u1.1 u1.2.1 u1.2.2.1 u1.2.2.2.1 u1.2.2.2.2 al wd wS wo fw M S T SQ q) [0, 1, 2, 3, 4, 5, 6, 7, 8, 9, 10, 11, 12, 13, 14, 15, 16, 17, 18, 19, 20, 21, 22, 23, 24, 25, 26, 27, 28, 29, 30, 31, 32, 35, 36]) (wn := fun u2 => LW X b h hp hq tr hp2 hq2 hi sl sf hg hgn mo mp ms mt mq n P Q (nI w) f ll n2 P2 Q2 t1 t2 t3 ha hu hw D hA q ta tu tv E sA SF u1.1 u1.2.1 u1.2.2.1 u1.2.2.2.1 u1.2.2.2.2 u2.1 u2.2.1 u2.2.2.1 u2.2.2.2.1 u2.2.2.2.2.1 M S T u2.2.2.2.2.2 q) (r_V C (As := [.int (nI ki), .int (nI kj), .int v3]) (rest := [.int _]) (kX3_beatFrequency_ok l X mo mp ms mt mq (nI q) wd wS wo fw M n P Q w f ll SQ al ki kj v3 (by first | assumption | omega | decide) (by first | assumption | omega | decide) (by first | assumption | omega | decide) (by first | assumption | omega | decide) (by first | assumption | omega | decide) (by first | assumption | omega | decide) (by first | assumption | omega | decide)) (cwV 3 C.ts gL_law_X3_beatFrequency rfl rfl rfl (by decide +kernel) ⟨Nat.le_of_ble_eq_true rfl, Nat.le_of_ble_eq_true rfl⟩) (q0 := 33) rfl rfl [33, 34, 37] (by decide) rfl rfl (Nat.le_of_ble_eq_true rfl) rfl dL_law_877 ⟨Nat.le_refl _, Nat.le_refl _⟩) [33, 34, 37] [0, 1, 2, 3, 4, 5, 6, 7, 8, 9, 10, 11, 12, 13, 14, 15, 16, 17, 18, 19, 20, 21, 22, 23, 24, 25, 26, 27, 28, 29, 30, 31, 32, 35, 36] [0, 1, 2, 3, 4, 5, 6, 7, 8, 9, 10, 11, 12, 13, 14, 15, 16, 17, 18, 19, 20, 21, 22, 23, 24, 25, 26, 27, 28, 29, 30, 31, 32, 35, 36, 33, 34, 37] rfl rfl (by decide) (by decide) (by decide) (fun _ => rfl) (fun u2 _ => ?_)
    refine s_icmp_eq C (pc := 880) (tgt := 1247) dL_law_880 (by decide) (fun _ => ?_) (fun hne => absurd ((beat_ok SQ hV hki hj hw2 hrk).2.1) hne)
    exact law_back C hI7 hL3 ih (J)
  · skip
    refine s_aload_n C (pc := 842) dL_law_842 rfl 1 rfl ?_
    refine s_arg C (pc := 843) hX hbl hbA hL3 1 rfl (by omega) rfl rfl dL_law_843 dL_law_844 dL_law_845 dL_law_846 dL_law_847 ?_
    rw [← e1]
    refine s_arg C (pc := 848) hX hbl hbA hL3 2 rfl (by omega) rfl rfl dL_law_848 dL_law_849 dL_law_850 dL_law_851 dL_law_852 ?_
    rw [← e2]
    refine s_arg C (pc := 853) hX hbl hbA hL3 3 rfl (by omega) rfl rfl dL_law_853 dL_law_854 dL_law_855 dL_law_856 dL_law_857 ?_
    rw [← e3]
    refine s_calli C (pc := 858) (wr := pick (LW X b h hp hq tr hp2 hq2 hi sl sf hg hgn mo mp ms mt mq n P Q (nI w) f ll n2 P2 Q2 t1 t2 t3 ha hu hw D hA q ta tu tv E sA SF z F ar0 lf gl al wd wS wo fw M S T SQ q) [4, 5, 6, 7, 8, 9, 10, 11, 12, 13, 14, 15, 16, 17, 18, 19, 20, 21, 22, 23, 24, 25, 26, 27, 28, 29, 30, 31, 32, 33, 34, 35, 36, 37]) (wn := LW X b h hp hq tr hp2 hq2 hi sl sf hg hgn mo mp ms mt mq n P Q (nI w) f ll n2 P2 Q2 t1 t2 t3 ha hu hw D hA q ta tu tv E sA SF z F ar0 lf gl al wd wS wo fw M S T SQ q) (r_V C (As := [.int v1, .int v2, .int v3]) (rest := []) (kX2_beatFrequency_bad l X b tr hi sl sf hg (nI q) h hp hq n P Q (nI w) f ll v1 v2 v3 (by first | assumption | omega | decide) (by first | assumption | omega | decide)) (cwV 3 C.ts gL_law_X2_beatFrequency rfl rfl rfl (by decide +kernel) ⟨Nat.le_of_ble_eq_true rfl, Nat.le_of_ble_eq_true rfl⟩) (q0 := 0) rfl rfl [0, 1, 2, 3] (by decide) rfl rfl (Nat.le_of_ble_eq_true rfl) rfl dL_law_858 ⟨Nat.le_refl _, Nat.le_refl _⟩) [0, 1, 2, 3] [4, 5, 6, 7, 8, 9, 10, 11, 12, 13, 14, 15, 16, 17, 18, 19, 20, 21, 22, 23, 24, 25, 26, 27, 28, 29, 30, 31, 32, 33, 34, 35, 36, 37] [34, 35, 36, 37, 0, 1, 2, 3, 4, 5, 6, 7, 8, 9, 10, 11, 12, 13, 14, 15, 16, 17, 18, 19, 20, 21, 22, 23, 24, 25, 26, 27, 28, 29, 30, 31, 32, 33] rfl rfl (by decide) (by decide) (by decide) rfl ?_
    refine s_aload_n C (pc := 861) dL_law_861 rfl 2 rfl ?_
    refine s_arg C (pc := 862) hX hbl hbA hL3 1 rfl (by omega) rfl rfl dL_law_862 dL_law_863 dL_law_864 dL_law_865 dL_law_866 ?_
    rw [← e1]
    refine s_arg C (pc := 867) hX hbl hbA hL3 2 rfl (by omega) rfl rfl dL_law_867 dL_law_868 dL_law_869 dL_law_870 dL_law_871 ?_
    rw [← e2]
    refine s_arg C (pc := 872) hX hbl hbA hL3 3 rfl (by omega) rfl rfl dL_law_872 dL_law_873 dL_law_874 dL_law_875 dL_law_876 ?_
    rw [← e3]
    refine s_calli C (pc := 877) (wr := pick (LW X b h hp hq tr hp2 hq2 hi sl sf hg hgn mo mp ms mt mq n P Q (nI w) f ll n2 P2 Q2 t1 t2 t3 ha hu hw D hA q ta tu tv E sA SF z F ar0 lf gl al wd wS wo fw M S T SQ q) [0, 1, 2, 3, 4, 5, 6, 7, 8, 9, 10, 11, 12, 13, 14, 15, 16, 17, 18, 19, 20, 21, 22, 23, 24, 25, 26, 27, 28, 29, 30, 31, 32, 35, 36, 37]) (wn := LW X b h hp hq tr hp2 hq2 hi sl sf hg hgn mo mp ms mt mq n P Q (nI w) f ll n2 P2 Q2 t1 t2 t3 ha hu hw D hA q ta tu tv E sA SF z F ar0 lf gl al wd wS wo fw M S T SQ q) (r_V C (As := [.int v1, .int v2, .int v3]) (rest := [.int _]) (kX3_beatFrequency_bad l X mo mp ms mt mq (nI q) al wd wS wo fw M n P Q (nI w) f ll v1 v2 v3 (by first | assumption | omega | decide) (by first | assumption | omega | decide) (by first | assumption | omega | decide)) (cwV 3 C.ts gL_law_X3_beatFrequency rfl rfl rfl (by decide +kernel) ⟨Nat.le_of_ble_eq_true rfl, Nat.le_of_ble_eq_true rfl⟩) (q0 := 33) rfl rfl [33, 34] (by decide) rfl rfl (Nat.le_of_ble_eq_true rfl) rfl dL_law_877 ⟨Nat.le_refl _, Nat.le_refl _⟩) [33, 34] [0, 1, 2, 3, 4, 5, 6, 7, 8, 9, 10, 11, 12, 13, 14, 15, 16, 17, 18, 19, 20, 21, 22, 23, 24, 25, 26, 27, 28, 29, 30, 31, 32, 35, 36, 37] [0, 1, 2, 3, 4, 5, 6, 7, 8, 9, 10, 11, 12, 13, 14, 15, 16, 17, 18, 19, 20, 21, 22, 23, 24, 25, 26, 27, 28, 29, 30, 31, 32, 36, 37, 33, 34, 35] rfl rfl (by decide) (by decide) (by decide) rfl ?_
    refine s_icmp_eq C (pc := 880) (tgt := 1247) dL_law_880 (by decide) (fun _ => ?_) (fun hne => absurd (rfl) hne)
    exact law_back C hI7 hL3 ih (J)

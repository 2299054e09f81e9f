/-! the claim -/
def R_law : String := "PlateBeatsLaw"
def lw_P (b : Addr) (xs : List Int32) (args : Array Value) (s : State) : Prop := args = #[.ref b] ∧ s.IntsAt b xs ∧ xs.length ≤ 260 ∧ (Jvm.Cond.and given_1 narrow_1).before args s = true
def lw_Q (_ : Array Value) (s : State) (o : Outcome) (t : State) : Prop := o = .returned (some (.int 1)) ∧ Framed s o t [] 600000 7302250
def lw_Z (below : List Frame) (a : Array Value) (s : State) : State → Prop := fun t => ∃ o, t.status = .running ∧ Ended t below o ∧ lw_Q a s o t
/-- the law's own end, with 1 on the stack, nothing written that was there before, its room as the claim has it -/
theorem lw_ret {p : Program} {l : Launch} {e : Env} {s : State} {m : MethodId} {below : List Frame} {meth : Method} {c : Code} {b : Nat} (hx : p.tables.exec = Jvm.exec) (hb : c.code = code) (hr : meth.sig.returnType = ret) (hlocks : meth.locks = false) {pc : Nat} {H : Heap} {ls : Array Slot} (hdg : decode code pc = .ok (.ireturn, 1)) : W p l e room_1 s m #[Value.ref b] below meth c H [] 600000 7302250 (lw_Z below #[Value.ref b] s) (F0 m pc ls [.int 1]) := by
  intro T hT X
  obtain ⟨fs, hret, hrun, hended, hW, hframe⟩ := X.leave (v := some (.int 1)) (hlocks := hlocks) (fun h => by rw [hr] at h; cases h)
  have hmeth' : T.vm.method? m = some meth := X.method'
  refine ⟨T.setFrames fs, ?_, .returned (some (.int 1)), hrun, hended, rfl, ⟨_, rfl⟩, hW, hframe⟩
  jvm_step X.here [X.here.top, hx, hb, hdg, hmeth', hr, ret, narrow_b1]
  (try refine ⟨rfl, ?_⟩); (try refine ⟨rfl, ?_⟩)
  first | (intro acts; rw [hret _ acts rfl rfl rfl]) | rw [hret _ _ rfl rfl rfl]
  exact Steps.refl _
/-- what holds at the law's entry: the machine, the code, the tables' words (any of lw_tbl by 'hts w (by decide +kernel)'), the script of L ints xs at the cell b, what the Statement gives of the start (any of its parts by flat_of_before) -/
def lw_At (p : Program) (s : State) (m : MethodId) (meth : Method) (c : Code) (b L : Nat) (xs : Nat → Int32) : Prop :=
  p.tables.exec = Jvm.exec ∧ c.code = code ∧ meth.sig.returnType = ret ∧ c.maxLocals = 9 ∧ s.vm.findClass R_law = some m.cls ∧ (∀ w ∈ lw_tbl, w.before #[Value.ref b] s = true) ∧ va_X b L xs s s.heap ∧ b < s.heap.size ∧ meth.locks = false ∧ (Jvm.Cond.and given_1 narrow_1).before #[Value.ref b] s = true
set_option maxRecDepth 20000 in
theorem gs_start {s : State} {b : Nat} (hts : ∀ w ∈ lw_tbl, w.before #[Value.ref b] s = true) (hgv : (Jvm.Cond.and given_1 narrow_1).before #[Value.ref b] s = true) : GS (fun q : Nat => s.heap.size ≤ q) s := by
  have hs := flat_of_before _ hgv
  have hlow : ∀ a : Nat, a < s.heap.size → ¬ (fun q : Nat => s.heap.size ≤ q) a := fun a h => Nat.not_le.mpr h
  have h0 : (Cond.arrayOf (.static "PlateBeats" "GROUPS" "[I") .int).before #[Value.ref b] s = true := hs _ (by decide +kernel)
  have h1 : (Term.length (.static "PlateBeats" "GROUPS" "[I")).eval #[Value.ref b] s none [] s = some (.int (Int32.ofNat 10)) := va_eqt (z := 10) (hs _ (by decide +kernel))
  have e0 : (Term.elem (.static "PlateBeats" "GROUPS" "[I") (.int (Int32.ofNat 0))).eval #[Value.ref b] s none [] s = some (.int (gN 0)) := va_eqt (z := 3) (hs (Cond.eq (.elem (.static "PlateBeats" "GROUPS" "[I") (.int 0)) (.int 3)) (by decide +kernel))
  have e1 : (Term.elem (.static "PlateBeats" "GROUPS" "[I") (.int (Int32.ofNat 1))).eval #[Value.ref b] s none [] s = some (.int (gN 1)) := va_eqt (z := 5) (hs (Cond.eq (.elem (.static "PlateBeats" "GROUPS" "[I") (.int 1)) (.int 5)) (by decide +kernel))
  have e2 : (Term.elem (.static "PlateBeats" "GROUPS" "[I") (.int (Int32.ofNat 2))).eval #[Value.ref b] s none [] s = some (.int (gN 2)) := va_eqt (z := 9) (hs (Cond.eq (.elem (.static "PlateBeats" "GROUPS" "[I") (.int 2)) (.int 9)) (by decide +kernel))
  have e3 : (Term.elem (.static "PlateBeats" "GROUPS" "[I") (.int (Int32.ofNat 3))).eval #[Value.ref b] s none [] s = some (.int (gN 3)) := va_eqt (z := 6) (hs (Cond.eq (.elem (.static "PlateBeats" "GROUPS" "[I") (.int 3)) (.int 6)) (by decide +kernel))
  have e4 : (Term.elem (.static "PlateBeats" "GROUPS" "[I") (.int (Int32.ofNat 4))).eval #[Value.ref b] s none [] s = some (.int (gN 4)) := va_eqt (z := 10) (hs (Cond.eq (.elem (.static "PlateBeats" "GROUPS" "[I") (.int 4)) (.int 10)) (by decide +kernel))
  have e5 : (Term.elem (.static "PlateBeats" "GROUPS" "[I") (.int (Int32.ofNat 5))).eval #[Value.ref b] s none [] s = some (.int (gN 5)) := va_eqt (z := 12) (hs (Cond.eq (.elem (.static "PlateBeats" "GROUPS" "[I") (.int 5)) (.int 12)) (by decide +kernel))
  have e6 : (Term.elem (.static "PlateBeats" "GROUPS" "[I") (.int (Int32.ofNat 6))).eval #[Value.ref b] s none [] s = some (.int (gN 6)) := va_eqt (z := 7) (hs (Cond.eq (.elem (.static "PlateBeats" "GROUPS" "[I") (.int 6)) (.int 7)) (by decide +kernel))
  have e7 : (Term.elem (.static "PlateBeats" "GROUPS" "[I") (.int (Int32.ofNat 7))).eval #[Value.ref b] s none [] s = some (.int (gN 7)) := va_eqt (z := 11) (hs (Cond.eq (.elem (.static "PlateBeats" "GROUPS" "[I") (.int 7)) (.int 11)) (by decide +kernel))
  have e8 : (Term.elem (.static "PlateBeats" "GROUPS" "[I") (.int (Int32.ofNat 8))).eval #[Value.ref b] s none [] s = some (.int (gN 8)) := va_eqt (z := 13) (hs (Cond.eq (.elem (.static "PlateBeats" "GROUPS" "[I") (.int 8)) (.int 13)) (by decide +kernel))
  have e9 : (Term.elem (.static "PlateBeats" "GROUPS" "[I") (.int (Int32.ofNat 9))).eval #[Value.ref b] s none [] s = some (.int (gN 9)) := va_eqt (z := 14) (hs (Cond.eq (.elem (.static "PlateBeats" "GROUPS" "[I") (.int 9)) (.int 14)) (by decide +kernel))
  obtain ⟨tG, ht, hT⟩ := va_Tof (tm := .static "PlateBeats" "GROUPS" "[I") (ty := .int) (N := 10) (f := fun k => .int (gN k)) (A := fun q : Nat => s.heap.size ≤ q) (by decide) h0 h1 (fun j hj => by
    rcases (show j = 0 ∨ j = 1 ∨ j = 2 ∨ j = 3 ∨ j = 4 ∨ j = 5 ∨ j = 6 ∨ j = 7 ∨ j = 8 ∨ j = 9 by omega) with rfl | rfl | rfl | rfl | rfl | rfl | rfl | rfl | rfl | rfl
    · exact e0
    · exact e1
    · exact e2
    · exact e3
    · exact e4
    · exact e5
    · exact e6
    · exact e7
    · exact e8
    · exact e9) hlow
  exact ⟨tG, va_Zof (hts (.laysStatic "PlateBeats" "GROUPS" "[I") (List.mem_append_right _ (List.mem_of_getElem? (i := 328) (by decide +kernel)))) (hts (.initialized "PlateBeats") (List.mem_append_right _ (List.mem_of_getElem? (i := 1) (by decide +kernel)))) ht hlow, hT⟩
set_option maxHeartbeats 4000000 in
set_option maxRecDepth 100000 in
theorem whole_start {p : Program} {e : Env} {s : State} {m : MethodId} {below : List Frame} {meth : Method} {c : Code} (l : Launch) (hflags : l.flags = flags0) {b L : Nat} {xs : Nat → Int32} (hL : L ≤ 260) (C0 : lw_At p s m meth c b L xs) : W p l e room_1 s m #[Value.ref b] below meth c s.heap [] 0 0 (lw_Z below #[Value.ref b] s) (entryFrame m ([Value.ref b] : List Value).toArray 9) := by
  obtain ⟨hx, hb, hr, hml, hown, hts, hX, hbl, hlocks, hgv⟩ := id C0
  have hA : ∀ q : Nat, s.heap.size ≤ q → (fun q : Nat => s.heap.size ≤ q) q := fun _ h => h
  have hbA : ¬ (fun q : Nat => s.heap.size ≤ q) b := Nat.not_le.mpr hbl
  obtain ⟨c0, iS0, hKn0⟩ := u_known (C := RX0) (T := TX0) (N := 5) (n := 5) hts in_wsX00 (hts (.instantiable RX0 5) (List.mem_append_right _ (List.mem_of_getElem? (i := 50) (by decide +kernel))))
  obtain ⟨c1, iS1, hKn1⟩ := u_known (C := RX1) (T := TX1) (N := 6) (n := 6) hts in_wsX10 (hts (.instantiable RX1 6) (List.mem_append_right _ (List.mem_of_getElem? (i := 14) (by decide +kernel))))
  obtain ⟨c2, iS2, hKn2⟩ := u_known (C := RX2) (T := TX2) (N := 7) (n := 7) hts in_wsX20 (hts (.instantiable RX2 7) (List.mem_append_right _ (List.mem_of_getElem? (i := 6) (by decide +kernel))))
  obtain ⟨cI, kI, pI, aI1, aI2, aI3⟩ := Cond.arrayClass_spec (hts (.arrayClass .int) (List.mem_append_right _ (List.mem_of_getElem? (i := 47) (by decide +kernel))))
  obtain ⟨cB, kB, pB, aB1, aB2, aB3⟩ := Cond.arrayClass_spec (hts (.arrayClass .boolean) (List.mem_append_right _ (List.mem_of_getElem? (i := 71) (by decide +kernel))))
  have hAO : (Cond.arrayOver (.object RX1)).before #[Value.ref b] s = true := hts (.arrayOver (.object RX1)) (List.mem_append_right _ (List.mem_of_getElem? (i := 48) (by decide +kernel)))
  obtain ⟨pO, cO, kO, o1, o2, o3, o4, o5⟩ := Cond.arrayOver_spec hAO
  obtain ⟨X, hXd⟩ : ∃ X : XT, X = (((fun k => if k = 0 then c0 else if k = 1 then c1 else c2, fun k => if k = 0 then iS0 else if k = 1 then iS1 else iS2), cI, cI, cB, cO) : XT) := ⟨_, rfl⟩
  have hK : va_K X.1 vwCl (Ty X) s := by
    subst hXd
    refine ⟨fun k q hq => ?_, fun k q hq => ?_⟩
    · match k, hq with
      | 0, hq => cases hq; exact hKn0
      | 1, hq => cases hq; exact hKn1
      | 2, hq => cases hq; exact hKn2
      | k + 3, hq => simp [vwCl] at hq
    · match k, hq with
      | 0, hq => cases hq; exact ⟨fun N z => ⟨(fun k h => by cases h), kI, aI2, pI, aI3⟩, aI1⟩
      | 1, hq => cases hq; exact ⟨fun N z => ⟨(fun k h => by cases h), kI, aI2, pI, aI3⟩, aI1⟩
      | 2, hq => cases hq; exact ⟨fun N z => ⟨(fun k h => by cases h), kB, aB2, pB, aB3⟩, aB1⟩
      | 3, hq => cases hq; exact ⟨fun N z => ⟨(fun k h => by cases h), kO, o3, pO, o4⟩, kO, pO, o3, o4, o1, o5⟩
      | k + 4, hq => simp [Ty] at hq
  have hN : NW s := ⟨fun q hq => va_Nw.of rfl (hts _ (nin_F q hq)), fun q hq => va_Nw.of rfl (hts _ (nin_M q hq))⟩
  have hl := lv_entry ([.ref b]) (n := 9) (Nat.le_of_ble_eq_true rfl)
  rw [lg_entry_eq]
  have C : Cx p l e room_1 s m #[Value.ref b] below meth c cL_law 9 RL wsL_law X (fun q : Nat => s.heap.size ≤ q) 0 0 (lw_Z below #[Value.ref b] s) _ := ⟨rfl, hx, hb, hml, hown, fun w h => hts w (wsL_law_in w h), hK, hA, hN, gs_start hts hgv⟩
  refine C.un (law_in C hX hbl hbA hL (va_AO.of hAO) (fun g1 C1 b1 ws v2 v4 => ?_)) s.heap [] _ (fun k q h => by simp at h) ⟨fun i j p q h => by simp at h, fun k q h => by simp at h⟩ va_S.rf hl
  exact C1.go fun H locs la hP hD hS hl => lv_iload_n C1.x C1.b dL_law_246 rfl (lv_at hl 3 rfl) (va_forget (fun q hq => hS.2.2 q hq) (lw_ret hx hb hr hlocks dL_law_247))
set_option maxHeartbeats 4000000 in
theorem lw_walk (l : Launch) (hflags : l.flags = flags0) (b : Addr) (xs : List Int32) : MetFree l x (headSpec (Jvm.Cond.code x code maxLocals ret :: tables_1) room_1) (lw_P b xs) (fun _ _ _ _ _ => True) lw_Q := by
  refine MetFree.of_bodyS (code := code) (maxLocals := maxLocals) (ret := ret) (by decide) ?_ ?_
  · intro args s m h hn
    obtain ⟨meth, c, h1, h2, h3, h4, h5, h6, -, -⟩ := Cond.code_spec hn (atoms_spec (ws := Jvm.Cond.code x code maxLocals ret :: tables_1) h _ List.mem_cons_self)
    exact ⟨meth, c, h1, h2, h3, h4, h5, h6⟩
  · intro p e s m args below meth c s₁ B hml0 hP _
    obtain ⟨rfl, hx, hbd, hgv⟩ := hP
    obtain ⟨scr, harrAt, hlist, hof, hsmall⟩ := hx
    obtain ⟨hcb, hkn, -, -⟩ := State.arrayAt?_spec harrAt
    have hown : s.vm.findClass R_law = some m.cls := findClass_of_methodNamed B.named
    have hts0 : ∀ c ∈ (Jvm.Cond.code x code maxLocals ret :: tables_1), c.before #[Value.ref b] s = true := atoms_spec (ws := Jvm.Cond.code x code maxLocals ret :: tables_1) B.pre
    have hts : ∀ w ∈ lw_tbl, w.before #[Value.ref b] s = true := k2_hts_sels lw_privs (fun w hw => hts0 w (List.mem_cons_of_mem _ hw)) lw_privs_ok
    have hml : c.maxLocals = 9 := B.maxLocals_eq (hts0 _ List.mem_cons_self)
    have X₀ : Stand p l e room_1 s m #[Value.ref b] below meth c s₁ [] 0 0 := Stand.of_body B
    have hh0 : s₁.heap = s.heap := by rw [B.state]; rfl
    have hsz : scr.slots.size = xs.length := by rw [← Array.length_toList, hlist, List.length_map]
    have hval : ∀ j : Nat, j < xs.length → scr.slots[j]? = some (.int (xs.getD j 0)) := fun j hj => by
      rw [← Array.getElem?_toList, hlist]
      simp [hj]
    have hbl : b < s.heap.size := (Array.getElem?_eq_some_iff.mp hcb).1
    have hX : va_X b xs.length (fun j => xs.getD j 0) s s.heap := ⟨scr, hcb, hof, hkn, hsz, hval⟩
    have K : W p l e room_1 s m #[Value.ref b] below meth c s₁.heap [] 0 0 (lw_Z below #[Value.ref b] s) (entryFrame m ([Value.ref b] : List Value).toArray 9) := by
      rw [hh0]
      exact whole_start l hflags hbd ⟨B.exec, B.bytes, B.returns, hml, hown, hts, hX, hbl, B.notSynchronized, hgv⟩
    obtain ⟨t, a1, o, b1, b2, b3⟩ := K s₁ rfl X₀
    exact ⟨t, o, a1, b1, b2, b3⟩
theorem lw_pre_spec {args : Array Value} {s : State} (h : (Jvm.Cond.and given_1 narrow_1).before args s = true) (hr : rest_1_c.before args s = true) : ∃ (b : Addr) (xs : List Int32), lw_P b xs args s := by
  have hs := flat_of_before _ h
  have hq := flat_of_before _ hr
  have hc : (Cond.count 1).before args s = true := hs _ (by decide +kernel)
  have harr : (Cond.arrayOf (.arg 0) .int).before args s = true := hs _ (by decide +kernel)
  have hle : (Cond.le (.length (.arg 0)) (.int 260)).before args s = true := hs _ (by decide +kernel)
  have hlen : (Cond.isInt (.length (.arg 0))).before args s = true := hq _ (by decide +kernel)
  have hall : (Cond.all (.arg 0) (.isInt (.elem (.arg 0) (.index 0)))).before args s = true := hq _ (by decide +kernel)
  obtain ⟨b, xs, hb, hx⟩ := State.ints_of_pre rfl harr hlen hall
  have hsm : xs.length < 2 ^ 31 := hx.choose_spec.2.2.2
  have hev : (Term.length (.arg 0)).eval args s none [] s = some (.int xs.length.toInt32) := hx.length_eval hb
  have hv := Cond.le_ints hev (show (Term.int 260).eval args s none [] s = some (.int 260) from rfl)
  have hd : xs.length.toInt32 ≤ 260 := by
    simpa [Cond.before, Cond.holds, hv] using hle
  have hN : xs.length ≤ 260 := (Int32.ofNat_le_ofNat hsm (by decide)).mp (show Int32.ofNat xs.length ≤ Int32.ofNat 260 from hd)
  exact ⟨b, xs, Cond.one_arg hc (show args[0]? = some (.ref b) from hb), hx, hN, h⟩
theorem lw_comes (l : Launch) (hflags : l.flags = flags0) : Comes l x (Jvm.Cond.code x code maxLocals ret :: tables_1) room_1 (fun tb e args s => Calls_1 tb e args s ∧ rest_1 tb e args s ∧ Pre_1 tb e args s)
    (fun _ _ args s o t => lw_Q args s o t) := by
  intro p e ha hc hk s m args below hf hfit hheap happ hpre
  obtain ⟨b, xs, hP⟩ := lw_pre_spec hpre.2.2 hpre.2.1
  obtain ⟨k, o, h1, h2, h3, hQ⟩ := lw_walk l hflags b xs p e ha hc hk s m args below hf ((Spec.applies_iff_loose hf).mp happ).1 hP trivial
  exact ⟨k, o, h1, h2, h3, hQ⟩
theorem lw_frame {s t : State} {o : Outcome} {args : Array Value} (h : Framed s o t [] 600000 7302250) :
    Framed s o t (fieldLocs frame_1_writes args s ++ arrayLocs frame_1_arrays args s ++ staticLocs frame_1_statics s) 600000 7302250 := h
theorem lw_limb (L : Cond) (hL : ∀ (args : Array Value) (s t : State), L.after args s (.returned (some (.int 1))) t = true) :
    ArmFor flags0 classFile x code maxLocals ret World_1 tables_1 room_1 Calls_1 rest_1 Pre_1
      (fun tb e a s o t => postC L tb e a s o t ∧ Framed s o t (fieldLocs frame_1_writes a s ++ arrayLocs frame_1_arrays a s ++ staticLocs frame_1_statics s) 600000 7302250) := by
  intro l hflags _ _ p e ha hc hk s m args below hf hfit hheap happ hpre
  obtain ⟨k, o, h1, h2, h3, rfl, hF⟩ := lw_comes l hflags p e ha hc hk s m args below hf hfit hheap happ hpre
  exact ⟨k, _, h1, h2, h3, hL args s _, lw_frame hF⟩
theorem i_vc : Claimed_1_1 ∧ Claimed_1_2 := ⟨lw_limb limb_1_1 (fun args s t => by simp [limb_1_1, Cond.after, Cond.holds, Cond.value]), lw_limb limb_1_2 (fun args s t => Cond.after_iff.mpr (by
  first | (rw [show limb_1_2 = Cond.eq .result (.int 1) from rfl, Cond.eq_ints (x := 1) (y := 1) rfl rfl]; simp; done) | (simp [limb_1_2, Cond.value, Term.eval]; done)))⟩

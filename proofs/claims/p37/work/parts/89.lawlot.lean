/-! the script: its length, its numbers, what lot answers -/
theorem s_slen {p : Program} {l : Launch} {e : Env} {R : Room} {s : State} {m : MethodId} {args : Array Value} {below : List Frame} {meth : Method} {c : Code} {cc : ByteArray} {nL : Nat} {own : String} {Ts : List Cond} {X : XT} {A : Nat → Prop} {cells slots : Nat} {Q : State → Prop} {g : GT} {ws : va_W} {pc : Nat} {ls : LT} {st : List Value} (C : Cx p l e R s m args below meth c cc nL own Ts X A cells slots Q g) {sb L : Nat} {xs : Nat → Int32} (hX : va_X sb L xs s s.heap) (hbl : sb < s.heap.size) (hbA : ¬ A sb) (hd : decode cc pc = .ok (.arraylength, 1)) (kk : g ws (pc + 1) ls (.int (nI L) :: st)) : g ws pc ls (.ref sb :: st) := C.go fun H locs la hP hD hS hl => va_slen C.x C.b hX hbl hbA hS hd (C.un kk H locs la hP hD hS hl)
theorem s_sld {p : Program} {l : Launch} {e : Env} {R : Room} {s : State} {m : MethodId} {args : Array Value} {below : List Frame} {meth : Method} {c : Code} {cc : ByteArray} {nL : Nat} {own : String} {Ts : List Cond} {X : XT} {A : Nat → Prop} {cells slots : Nat} {Q : State → Prop} {g : GT} {ws : va_W} {pc : Nat} {ls : LT} {st : List Value} (C : Cx p l e R s m args below meth c cc nL own Ts X A cells slots Q g) {sb L : Nat} {xs : Nat → Int32} (hX : va_X sb L xs s s.heap) (hbl : sb < s.heap.size) (hbA : ¬ A sb) (k : Nat) (hk : k < L) (hL : L ≤ 260) (hd : decode cc pc = .ok (.iaload, 1)) (kk : g ws (pc + 1) ls (.int (xs k) :: st)) : g ws pc ls (.int (nI k) :: .ref sb :: st) := C.go fun H locs la hP hD hS hl => va_sld C.x C.b hX hbl hbA hS (vp_in_nI hk (by omega)) hd (by
  rw [nI_clamp (by omega)]
  exact C.un kk H locs la hP hD hS hl)
def PcS (X : XT) (av : List Value) (ws : va_W) (sb L : Nat) (xs : Nat → Int32) (sz : Nat) : Array Value → State → Prop := fun v U => PcX X av ws sz v U ∧ va_X sb L xs U U.heap
theorem PcS.blind {X : XT} {av : List Value} {ws : va_W} {sb L sz : Nat} {xs : Nat → Int32} : FrameBlind (PcS X av ws sb L xs sz) := fun a U g mk q => ⟨PcX.blind a U g mk q.1, va_X.moved (u := U) (U := U.calling g mk a) (Vm.Alike.refl U.vm) q.2⟩
theorem r_SX {p : Program} {l : Launch} {e : Env} {R : Room} {s : State} {m : MethodId} {args : Array Value} {below : List Frame} {meth : Method} {c : Code} {cc : ByteArray} {nL : Nat} {own : String} {Ts : List Cond} {X : XT} {A : Nat → Prop} {cells slots : Nat} {Q : State → Prop} {g : GT} {ws : va_W} {pc : Nat} {ls : LT} {st : List Value} (C : Cx p l e R s m args below meth c cc nL own Ts X A cells slots Q g) {sb L : Nat} {xs : Nat → Int32} (hX : va_X sb L xs s s.heap) (hbl : sb < s.heap.size) (hbA : ¬ A sb) {y : MethodName} {bytes : ByteArray} {maxL n index : Nat} {ret : Option FieldType} {wy : List Cond} {rm : Room} {Qc : Nat → Array Value → State → Outcome → State → Prop} {wc : va_W} {As rest : List Value} (hM : ∀ sz, sb < sz → Met l y wy rm (PcS X As wc sb L xs sz) (Qc sz) 0 0 (va_A wc sz)) (cw : CallB R s args own index y bytes maxL ret wy rm 0 0 n ∧ (Cond.static y).before args s = true) (iC : List Nat) (hnC : va_nd iC = true) (hC : iC.map (fun i => ws[i]?) = wc.map some) (hn : As.length = n) (hcat : (rest.map fun v => v.category).sum ≤ 8) (hst : st = As.reverse ++ rest) (hd : decode cc pc = .ok (.invokestatic index, 3)) (hf : cells ≤ R.cells ∧ slots ≤ R.slots) : ∀ (H : Heap) (locs : List Loc) (la : Array Slot), va_P X.1 vwCl ws H → va_D A ws → va_S A s.heap H locs → lv_has la nL ls → va_Run p l e R s m args below meth c H locs cells slots 0 0 (F0 m pc la st) rest (Qc H.size As.toArray) (va_A wc H.size) := fun H locs la hP hD hS hl => va_runS (cells := cells) (slots := slots) ⟨C.x, C.b, C.ml, C.ow, C.ts⟩ (hM H.size (Nat.lt_of_lt_of_le hbl hS.1)) cw ⟨PcS.blind, fun U hU hW => ⟨pcx_of C hP hD hS iC hnC hC U hU hW, by
  rw [hU]
  exact (va_X.moved hW.alike hX).kept (hS.2.1 sb hbl hbA)⟩⟩ rfl hn hl.1 hst (lv_room hcat) hd hf
theorem k_ofS {l : Launch} {cc : ByteArray} {own : String} {X : XT} {sb L : Nat} {xs : Nat → Int32} {y : MethodName} {wy w0 : List Cond} {rm : Room} {av : List Value} {r : Int32} {maxL : Nat} {ret : Option FieldType} {ls0 : LT} (hy : plainName y.cls = true) (hw : wy = Cond.code y cc maxL ret :: w0) (ho : y.cls = own) (hle : (lg_sl av).length ≤ maxL) (hls : lv_args 0 av = ls0)
    (body : ∀ (p : Program) (e : Env) (s : State) (m : MethodId) (args : Array Value) (below : List Frame) (meth : Method) (c : Code) (A : Nat → Prop) (g : GT), Cx p l e rm s m args below meth c cc maxL own wy X A 0 0 (MQ below (QI X [] A r) args s 0 0 A) g → meth.sig.returnType = ret → meth.locks = false → va_X sb L xs s s.heap → sb < s.heap.size → ¬ A sb → g [] 0 ls0 []) : ∀ sz : Nat, sb < sz → Met l y wy rm (PcS X av [] sb L xs sz) (QI X [] (va_A [] sz) r) 0 0 (va_A [] sz) := by
  intro sz hsb
  refine Met.ofW (cc := cc) (maxL := maxL) (ret := ret) hy hw ?_
  intro p e s m args below meth c s₁ B hml hv
  obtain ⟨⟨rfl, hsz, hP, hK, hD0, hN, hG⟩, hX⟩ := hv
  have hown : s.vm.findClass own = some m.cls := by rw [← ho]; exact findClass_of_methodNamed B.named
  subst hsz
  have hD := hD0.self (sz := s.heap.size)
  have hA : ∀ q : Nat, s.heap.size ≤ q → va_A [] s.heap.size q := fun q h => Or.inr h
  have hbA : ¬ va_A [] s.heap.size sb := fun q => by
    rcases q with ⟨k, e, h⟩ | h
    · simp at h
    · omega
  generalize va_A [] s.heap.size = A at hD hA hG hbA ⊢
  have hl := lv_entry av (n := maxL) hle
  rw [hls] at hl
  rw [lg_entry_eq]
  exact body p e s m _ below meth c A _ ⟨rfl, B.exec, B.bytes, hml, hown, atoms_spec (ws := wy) B.pre, hK, hA, hN, hG⟩ B.returns B.notSynchronized hX hsb hbA s.heap [] _ hP hD va_S.rf hl
def ltV (xs : Nat → Int32) (L k : Nat) : Int32 := if L ≤ k then -1749300403 * (nI k + 2539) + 2311 else xs k
theorem kL_lot (l : Launch) (X : XT) (sb L : Nat) (xs : Nat → Int32) (k : Nat) (hk : k < 1000) (hL : L ≤ 260) : ∀ sz : Nat, sb < sz → Met l yL_lot wsL_lot ({ frames := 0, cells := 0, slots := 0, locals := 0 }) (PcS X [.ref sb, .int (nI k)] [] sb L xs sz) (QI X [] (va_A [] sz) (ltV xs L k)) 0 0 (va_A [] sz) := by
  refine k_ofS (cc := cL_lot) (own := RL) (maxL := 2) (ret := (some .int)) (ls0 := [(0, .ref sb), (1, .int (nI k))]) (by decide) rfl rfl (Nat.le_of_ble_eq_true rfl) rfl ?_
  intro p e s m args below meth c A g C hr hlk hX hbl hbA
  refine s_iload_n C (pc := 0) dL_lot_0 rfl 1 rfl ?_
  refine s_aload_n C (pc := 1) dL_lot_1 rfl 0 rfl ?_
  refine s_slen C (pc := 2) hX hbl hbA dL_lot_2 ?_
  refine s_icmp_ge C (pc := 3) (tgt := 12) dL_lot_3 (by decide) (fun c3 => ?_) (fun c3 => ?_)
  · have e3 : L ≤ k := nat_le (by omega) (by omega) c3
    refine s_ldc C (pc := 12) (v := -1749300403) (List.mem_of_getElem? (i := 1) rfl) dL_lot_12 ?_
    refine s_iload_n C (pc := 14) dL_lot_14 rfl 1 rfl ?_
    refine s_sipush C (pc := 15) (v := 2539) dL_lot_15 (by decide) ?_
    refine s_iadd C (pc := 18) dL_lot_18 ?_
    refine s_imul C (pc := 19) dL_lot_19 ?_
    refine s_sipush C (pc := 20) (v := 2311) dL_lot_20 (by decide) ?_
    refine s_iadd C (pc := 23) dL_lot_23 ?_
    exact s_iret C (pc := 24) hr hlk [] (by decide) rfl (if_pos e3).symm dL_lot_24
  · have e3 : k < L := nat_nle (by omega) (by omega) c3
    refine s_aload_n C (pc := 6) dL_lot_6 rfl 0 rfl ?_
    refine s_iload_n C (pc := 7) dL_lot_7 rfl 1 rfl ?_
    refine s_sld C (pc := 8) hX hbl hbA k e3 hL dL_lot_8 ?_
    refine s_goto C (pc := 9) (tgt := 24) dL_lot_9 (by decide) ?_
    exact s_iret C (pc := 24) hr hlk [] (by decide) rfl (if_neg (by omega)).symm dL_lot_24

/-! contracts whose last cells hold something unsaid -/
abbrev QIx {α : Type} (X : XT) (ws' : α → va_W) (ok : α → Prop) (A : Nat → Prop) (r : Int32) : Array Value → State → Outcome → State → Prop := va_Qi (fun (r' : Int32) (u : α) => r' = r ∧ ok u) (fun u t => va_P X.1 vwCl (ws' u) t.heap ∧ va_D A (ws' u)) A
abbrev QLx {α : Type} (X : XT) (ws' : α → va_W) (ok : α → Prop) (A : Nat → Prop) (r : Int64) : Array Value → State → Outcome → State → Prop := va_Ql (fun (r' : Int64) (u : α) => r' = r ∧ ok u) (fun u t => va_P X.1 vwCl (ws' u) t.heap ∧ va_D A (ws' u)) A
abbrev QVx {α : Type} (X : XT) (ws' : α → va_W) (ok : α → Prop) (A : Nat → Prop) : Array Value → State → Outcome → State → Prop := va_Qv (fun (u : α) => ok u) (fun u t => va_P X.1 vwCl (ws' u) t.heap ∧ va_D A (ws' u)) A
def KIx {α : Type} (l : Launch) (y : MethodName) (wy : List Cond) (rm : Room) (X : XT) (av : List Value) (ws : va_W) (ws' : α → va_W) (ok : α → Prop) (r : Int32) : Prop := ∀ sz : Nat, Met l y wy rm (PcX X av ws sz) (QIx X ws' ok (va_A ws sz) r) 0 0 (va_A ws sz)
def KLx {α : Type} (l : Launch) (y : MethodName) (wy : List Cond) (rm : Room) (X : XT) (av : List Value) (ws : va_W) (ws' : α → va_W) (ok : α → Prop) (r : Int64) : Prop := ∀ sz : Nat, Met l y wy rm (PcX X av ws sz) (QLx X ws' ok (va_A ws sz) r) 0 0 (va_A ws sz)
def KVx {α : Type} (l : Launch) (y : MethodName) (wy : List Cond) (rm : Room) (X : XT) (av : List Value) (ws : va_W) (ws' : α → va_W) (ok : α → Prop) : Prop := ∀ sz : Nat, Met l y wy rm (PcX X av ws sz) (QVx X ws' ok (va_A ws sz)) 0 0 (va_A ws sz)
section KIT3
variable {p : Program} {l : Launch} {e : Env} {R : Room} {s : State} {m : MethodId} {args : Array Value} {below : List Frame} {meth : Method} {c : Code} {cc : ByteArray} {nL : Nat} {own : String} {Ts : List Cond} {X : XT} {A : Nat → Prop} {cells slots : Nat} {Q : State → Prop} {g : GT} {ws : va_W} {pc : Nat} {ls ls' : LT} {st : List Value}
theorem s_calliX (C : Cx p l e R s m args below meth c cc nL own Ts X A cells slots Q g) {r : Int32} {α : Type} {ok : α → Prop} {a : Array Value} {wc : va_W} {wc' : α → va_W} {wr : va_W} {wn : α → va_W} {rest : List Value} (hr : ∀ (H : Heap) (locs : List Loc) (la : Array Slot), va_P X.1 vwCl ws H → va_D A ws → va_S A s.heap H locs → lv_has la nL ls → va_Run p l e R s m args below meth c H locs cells slots 0 0 (F0 m pc la st) rest (QIx X wc' ok (va_A wc H.size) r a) (va_A wc H.size)) (iC iR pm : List Nat) (hC : iC.map (fun i => ws[i]?) = wc.map some) (hR : iR.map (fun i => ws[i]?) = wr.map some) (hnd : va_nd iR = true) (hdis : ∀ i ∈ iR, i ∉ iC) (hpn : va_nd pm = true) (hpm : ∀ u, pm.map (fun i => (wr ++ wc' u)[i]?) = (wn u).map some) (k : ∀ u, ok u → g (wn u) (pc + 3) ls (.int r :: rest)) : g ws pc ls st := C.go fun H locs la hP hD hS hl => by
  have hF := va_free hD hS C.hA iC hC
  refine va_calli (hr H locs la hP hD hS hl) hS (fun q _ h => hF q h) hF (fun r1 u t H1 locs1 ht hvm hr1 hB hz1 hk1 hS1 => ?_)
  obtain ⟨hr2, hok⟩ := hr1
  subst hr2
  obtain ⟨hP1, hD1⟩ := hB
  rw [ht] at hP1
  obtain ⟨hP2, hD2⟩ := va_join (wr := wr) (w1 := wc' u) hP hD iC iR hC hR hnd hdis hk1 hF hP1 hD1
  exact C.un (k u hok) H1 locs1 la (hP2.sub pm (fm_of (hpm u))) (hD2.sub pm hpn (hpm u)) hS1 hl
theorem s_calllX (C : Cx p l e R s m args below meth c cc nL own Ts X A cells slots Q g) {r : Int64} {α : Type} {ok : α → Prop} {a : Array Value} {wc : va_W} {wc' : α → va_W} {wr : va_W} {wn : α → va_W} {rest : List Value} (hr : ∀ (H : Heap) (locs : List Loc) (la : Array Slot), va_P X.1 vwCl ws H → va_D A ws → va_S A s.heap H locs → lv_has la nL ls → va_Run p l e R s m args below meth c H locs cells slots 0 0 (F0 m pc la st) rest (QLx X wc' ok (va_A wc H.size) r a) (va_A wc H.size)) (iC iR pm : List Nat) (hC : iC.map (fun i => ws[i]?) = wc.map some) (hR : iR.map (fun i => ws[i]?) = wr.map some) (hnd : va_nd iR = true) (hdis : ∀ i ∈ iR, i ∉ iC) (hpn : va_nd pm = true) (hpm : ∀ u, pm.map (fun i => (wr ++ wc' u)[i]?) = (wn u).map some) (k : ∀ u, ok u → g (wn u) (pc + 3) ls (.long r :: rest)) : g ws pc ls st := C.go fun H locs la hP hD hS hl => by
  have hF := va_free hD hS C.hA iC hC
  refine va_calll (hr H locs la hP hD hS hl) hS (fun q _ h => hF q h) hF (fun r1 u t H1 locs1 ht hvm hr1 hB hz1 hk1 hS1 => ?_)
  obtain ⟨hr2, hok⟩ := hr1
  subst hr2
  obtain ⟨hP1, hD1⟩ := hB
  rw [ht] at hP1
  obtain ⟨hP2, hD2⟩ := va_join (wr := wr) (w1 := wc' u) hP hD iC iR hC hR hnd hdis hk1 hF hP1 hD1
  exact C.un (k u hok) H1 locs1 la (hP2.sub pm (fm_of (hpm u))) (hD2.sub pm hpn (hpm u)) hS1 hl
theorem s_callvX (C : Cx p l e R s m args below meth c cc nL own Ts X A cells slots Q g) {α : Type} {ok : α → Prop} {a : Array Value} {wc : va_W} {wc' : α → va_W} {wr : va_W} {wn : α → va_W} {rest : List Value} (hr : ∀ (H : Heap) (locs : List Loc) (la : Array Slot), va_P X.1 vwCl ws H → va_D A ws → va_S A s.heap H locs → lv_has la nL ls → va_Run p l e R s m args below meth c H locs cells slots 0 0 (F0 m pc la st) rest (QVx X wc' ok (va_A wc H.size) a) (va_A wc H.size)) (iC iR pm : List Nat) (hC : iC.map (fun i => ws[i]?) = wc.map some) (hR : iR.map (fun i => ws[i]?) = wr.map some) (hnd : va_nd iR = true) (hdis : ∀ i ∈ iR, i ∉ iC) (hpn : va_nd pm = true) (hpm : ∀ u, pm.map (fun i => (wr ++ wc' u)[i]?) = (wn u).map some) (k : ∀ u, ok u → g (wn u) (pc + 3) ls (rest)) : g ws pc ls st := C.go fun H locs la hP hD hS hl => by
  have hF := va_free hD hS C.hA iC hC
  refine va_callv (hr H locs la hP hD hS hl) hS (fun q _ h => hF q h) hF (fun u t H1 locs1 ht hvm hr1 hB hz1 hk1 hS1 => ?_)
  have hok := hr1
  obtain ⟨hP1, hD1⟩ := hB
  rw [ht] at hP1
  obtain ⟨hP2, hD2⟩ := va_join (wr := wr) (w1 := wc' u) hP hD iC iR hC hR hnd hdis hk1 hF hP1 hD1
  exact C.un (k u hok) H1 locs1 la (hP2.sub pm (fm_of (hpm u))) (hD2.sub pm hpn (hpm u)) hS1 hl
theorem s_iretX {α : Type} {ws' : α → va_W} {ok : α → Prop} {A : Nat → Prop} {r v : Int32} (C : Cx p l e R s m args below meth c cc nL own Ts X A 0 0 (MQ below (QIx X ws' ok A r) args s 0 0 A) g) (hr : meth.sig.returnType = some .int) (hlk : meth.locks = false) (u : α) (hok : ok u) (pm : List Nat) (hn : va_nd pm = true) (hp : pm.map (fun i => ws[i]?) = (ws' u).map some) (hv : v = r) (hd : decode cc pc = .ok (.ireturn, 1)) : g ws pc ls [.int v] := C.go fun H locs la hP hD hS hl => W.iret (v := v) C.x C.b hr (fun t ht hW => ⟨⟨v, u, rfl, ⟨hv, hok⟩, by rw [ht]; exact hP.sub pm (fm_of hp), hD.sub pm hn hp⟩, hS.F ht⟩) hS.2.2 hd hlk
theorem s_zretX {α : Type} {ws' : α → va_W} {ok : α → Prop} {A : Nat → Prop} {r v : Int32} (C : Cx p l e R s m args below meth c cc nL own Ts X A 0 0 (MQ below (QIx X ws' ok A r) args s 0 0 A) g) (hr : meth.sig.returnType = some .boolean) (hlk : meth.locks = false) (u : α) (hok : ok u) (pm : List Nat) (hn : va_nd pm = true) (hp : pm.map (fun i => ws[i]?) = (ws' u).map some) (hz : narrow .boolean (.int v) = .int v) (hv : v = r) (hd : decode cc pc = .ok (.ireturn, 1)) : g ws pc ls [.int v] := C.go fun H locs la hP hD hS hl => W.zret (v := v) C.x C.b hr hz (fun t ht hW => ⟨⟨v, u, rfl, ⟨hv, hok⟩, by rw [ht]; exact hP.sub pm (fm_of hp), hD.sub pm hn hp⟩, hS.F ht⟩) hS.2.2 hd hlk
theorem s_lretX {α : Type} {ws' : α → va_W} {ok : α → Prop} {A : Nat → Prop} {r v : Int64} (C : Cx p l e R s m args below meth c cc nL own Ts X A 0 0 (MQ below (QLx X ws' ok A r) args s 0 0 A) g) (hr : meth.sig.returnType = some .long) (hlk : meth.locks = false) (u : α) (hok : ok u) (pm : List Nat) (hn : va_nd pm = true) (hp : pm.map (fun i => ws[i]?) = (ws' u).map some) (hv : v = r) (hd : decode cc pc = .ok (.lreturn, 1)) : g ws pc ls [.long v] := C.go fun H locs la hP hD hS hl => W.lret (v := v) C.x C.b hr (fun t ht hW => ⟨⟨v, u, rfl, ⟨hv, hok⟩, by rw [ht]; exact hP.sub pm (fm_of hp), hD.sub pm hn hp⟩, hS.F ht⟩) hS.2.2 hd hlk
theorem s_vretX {α : Type} {ws' : α → va_W} {ok : α → Prop} {A : Nat → Prop} (C : Cx p l e R s m args below meth c cc nL own Ts X A 0 0 (MQ below (QVx X ws' ok A) args s 0 0 A) g) (hr : meth.sig.returnType = none) (hlk : meth.locks = false) (u : α) (hok : ok u) (pm : List Nat) (hn : va_nd pm = true) (hp : pm.map (fun i => ws[i]?) = (ws' u).map some) (hd : decode cc pc = .ok (.return_, 1)) : g ws pc ls [] := C.go fun H locs la hP hD hS hl => W.vret C.x C.b hr (fun t ht hW => ⟨⟨u, rfl, hok, by rw [ht]; exact hP.sub pm (fm_of hp), hD.sub pm hn hp⟩, hS.F ht⟩) hS.2.2 hd hlk
theorem k_ofIx {α : Type} {ws' : α → va_W} {ok : α → Prop} {y : MethodName} {wy w0 : List Cond} {rm : Room} {av : List Value} {r : Int32} {maxL : Nat} {ret : Option FieldType} {ls0 : LT} (hy : plainName y.cls = true) (hw : wy = Cond.code y cc maxL ret :: w0) (ho : y.cls = own) (hle : (lg_sl av).length ≤ maxL) (hls : lv_args 0 av = ls0)
    (body : ∀ (p : Program) (e : Env) (s : State) (m : MethodId) (args : Array Value) (below : List Frame) (meth : Method) (c : Code) (A : Nat → Prop) (g : GT), Cx p l e rm s m args below meth c cc maxL own wy X A 0 0 (MQ below (QIx X ws' ok A r) args s 0 0 A) g → meth.sig.returnType = ret → meth.locks = false → g ws 0 ls0 []) : KIx l y wy rm X av ws ws' ok r := by
  intro sz
  refine Met.ofW (cc := cc) (maxL := maxL) (ret := ret) hy hw ?_
  intro p e s m args below meth c s₁ B hml hv
  obtain ⟨rfl, hsz, hP, hK, hD0, hN, hG⟩ := hv
  have hown : s.vm.findClass own = some m.cls := by rw [← ho]; exact findClass_of_methodNamed B.named
  subst hsz
  have hD := hD0.self (sz := s.heap.size)
  have hA : ∀ q : Nat, s.heap.size ≤ q → va_A ws s.heap.size q := fun q h => Or.inr h
  generalize va_A ws s.heap.size = A at hD hA hG ⊢
  have hl := lv_entry av (n := maxL) hle
  rw [hls] at hl
  rw [lg_entry_eq]
  exact body p e s m _ below meth c A _ ⟨rfl, B.exec, B.bytes, hml, hown, atoms_spec (ws := wy) B.pre, hK, hA, hN, hG⟩ B.returns B.notSynchronized s.heap [] _ hP hD va_S.rf hl
theorem k_ofLx {α : Type} {ws' : α → va_W} {ok : α → Prop} {y : MethodName} {wy w0 : List Cond} {rm : Room} {av : List Value} {r : Int64} {maxL : Nat} {ret : Option FieldType} {ls0 : LT} (hy : plainName y.cls = true) (hw : wy = Cond.code y cc maxL ret :: w0) (ho : y.cls = own) (hle : (lg_sl av).length ≤ maxL) (hls : lv_args 0 av = ls0)
    (body : ∀ (p : Program) (e : Env) (s : State) (m : MethodId) (args : Array Value) (below : List Frame) (meth : Method) (c : Code) (A : Nat → Prop) (g : GT), Cx p l e rm s m args below meth c cc maxL own wy X A 0 0 (MQ below (QLx X ws' ok A r) args s 0 0 A) g → meth.sig.returnType = ret → meth.locks = false → g ws 0 ls0 []) : KLx l y wy rm X av ws ws' ok r := by
  intro sz
  refine Met.ofW (cc := cc) (maxL := maxL) (ret := ret) hy hw ?_
  intro p e s m args below meth c s₁ B hml hv
  obtain ⟨rfl, hsz, hP, hK, hD0, hN, hG⟩ := hv
  have hown : s.vm.findClass own = some m.cls := by rw [← ho]; exact findClass_of_methodNamed B.named
  subst hsz
  have hD := hD0.self (sz := s.heap.size)
  have hA : ∀ q : Nat, s.heap.size ≤ q → va_A ws s.heap.size q := fun q h => Or.inr h
  generalize va_A ws s.heap.size = A at hD hA hG ⊢
  have hl := lv_entry av (n := maxL) hle
  rw [hls] at hl
  rw [lg_entry_eq]
  exact body p e s m _ below meth c A _ ⟨rfl, B.exec, B.bytes, hml, hown, atoms_spec (ws := wy) B.pre, hK, hA, hN, hG⟩ B.returns B.notSynchronized s.heap [] _ hP hD va_S.rf hl
theorem k_ofVx {α : Type} {ws' : α → va_W} {ok : α → Prop} {y : MethodName} {wy w0 : List Cond} {rm : Room} {av : List Value} {maxL : Nat} {ret : Option FieldType} {ls0 : LT} (hy : plainName y.cls = true) (hw : wy = Cond.code y cc maxL ret :: w0) (ho : y.cls = own) (hle : (lg_sl av).length ≤ maxL) (hls : lv_args 0 av = ls0)
    (body : ∀ (p : Program) (e : Env) (s : State) (m : MethodId) (args : Array Value) (below : List Frame) (meth : Method) (c : Code) (A : Nat → Prop) (g : GT), Cx p l e rm s m args below meth c cc maxL own wy X A 0 0 (MQ below (QVx X ws' ok A) args s 0 0 A) g → meth.sig.returnType = ret → meth.locks = false → g ws 0 ls0 []) : KVx l y wy rm X av ws ws' ok := by
  intro sz
  refine Met.ofW (cc := cc) (maxL := maxL) (ret := ret) hy hw ?_
  intro p e s m args below meth c s₁ B hml hv
  obtain ⟨rfl, hsz, hP, hK, hD0, hN, hG⟩ := hv
  have hown : s.vm.findClass own = some m.cls := by rw [← ho]; exact findClass_of_methodNamed B.named
  subst hsz
  have hD := hD0.self (sz := s.heap.size)
  have hA : ∀ q : Nat, s.heap.size ≤ q → va_A ws s.heap.size q := fun q h => Or.inr h
  generalize va_A ws s.heap.size = A at hD hA hG ⊢
  have hl := lv_entry av (n := maxL) hle
  rw [hls] at hl
  rw [lg_entry_eq]
  exact body p e s m _ below meth c A _ ⟨rfl, B.exec, B.bytes, hml, hown, atoms_spec (ws := wy) B.pre, hK, hA, hN, hG⟩ B.returns B.notSynchronized s.heap [] _ hP hD va_S.rf hl
end KIT3
/-! rows that hold the same up to their length are the same row -/
theorem arrV_congr {cI : ClassId} {N : Nat} {f f' : Nat → Value} (h : ∀ j, j < N → f j = f' j) : arrV cI N f = arrV cI N f' := by
  unfold arrV
  have e : (fun j : Fin N => f j.val) = (fun j : Fin N => f' j.val) := funext (fun j => h j.val j.isLt)
  rw [e]
theorem set_P {D : va_G} {cl : List vw_C} {ws ws' : va_W} {H : Heap} (hP : va_P D cl ws H) {q0 a : Nat} {x y : ClassId × vp_A} (ha : ws[q0]? = some (a, .inl x)) (he : vp_cell x.1 x.2 = vp_cell y.1 y.2) (hw : ws.set q0 (a, .inl y) = ws') : va_P D cl ws' H := by
  intro k q hk
  rw [← hw] at hk
  by_cases h : k = q0
  · subst h
    rw [List.getElem?_set_self (by
      rcases Nat.lt_or_ge k ws.length with h2 | h2
      · exact h2
      · rw [List.getElem?_eq_none h2] at ha; cases ha)] at hk
    cases hk
    have h2 := hP k _ ha
    show H[a]? = some (vp_cell y.1 y.2)
    rw [← he]
    exact h2
  · rw [List.getElem?_set_ne (fun h2 => h h2.symm)] at hk
    exact hP k q hk
theorem set_D {A : Nat → Prop} {ws ws' : va_W} (hD : va_D A ws) {q0 a : Nat} {x y : va_E} (ha : ws[q0]? = some (a, x)) (hw : ws.set q0 (a, y) = ws') : va_D A ws' := by
  have key : ∀ (k : Nat) (q : Nat × va_E), ws'[k]? = some q → ∃ z, ws[k]? = some (q.1, z) := by
    intro k q hk
    rw [← hw] at hk
    by_cases h : k = q0
    · subst h
      rw [List.getElem?_set_self (by
        rcases Nat.lt_or_ge k ws.length with h2 | h2
        · exact h2
        · rw [List.getElem?_eq_none h2] at ha; cases ha)] at hk
      cases hk
      exact ⟨x, ha⟩
    · rw [List.getElem?_set_ne (fun h2 => h h2.symm)] at hk
      exact ⟨q.2, hk⟩
  refine ⟨fun i j p q hi hj e => ?_, fun k q hk => ?_⟩
  · obtain ⟨z1, h1⟩ := key i p hi
    obtain ⟨z2, h2⟩ := key j q hj
    exact hD.1 i j (p.1, z1) (q.1, z2) h1 h2 e
  · obtain ⟨z1, h1⟩ := key k q hk
    exact hD.2 k (q.1, z1) h1
section KIT4
variable {p : Program} {l : Launch} {e : Env} {R : Room} {s : State} {m : MethodId} {args : Array Value} {below : List Frame} {meth : Method} {c : Code} {cc : ByteArray} {nL : Nat} {own : String} {Ts : List Cond} {X : XT} {A : Nat → Prop} {cells slots : Nat} {Q : State → Prop} {g : GT} {ws ws' : va_W} {pc : Nat} {ls ls' : LT} {st : List Value}
theorem s_arrI (C : Cx p l e R s m args below meth c cc nL own Ts X A cells slots Q g) (q0 : Nat) {a n : Nat} {cA : ClassId} {f f' : Nat → Int32} (ha : ws[q0]? = some (a, .inl (cA, n, .inl f))) (h : ∀ j, j < n → f j = f' j) (hw : ws.set q0 (a, .inl (cA, n, .inl f')) = ws') (k : g ws' pc ls st) : g ws pc ls st := C.go fun H locs la hP hD hS hl => C.un k H locs la (set_P hP (x := (cA, n, .inl f)) (y := (cA, n, .inl f')) ha (show arrV cA n (fun j => .int (f j)) = arrV cA n (fun j => .int (f' j)) from arrV_congr (fun j hj => by rw [h j hj])) hw) (set_D hD ha hw) hS hl
theorem s_arrL (C : Cx p l e R s m args below meth c cc nL own Ts X A cells slots Q g) (q0 : Nat) {a n : Nat} {cA : ClassId} {f f' : Nat → Int64} (ha : ws[q0]? = some (a, .inl (cA, n, .inr (.inl f)))) (h : ∀ j, j < n → f j = f' j) (hw : ws.set q0 (a, .inl (cA, n, .inr (.inl f'))) = ws') (k : g ws' pc ls st) : g ws pc ls st := C.go fun H locs la hP hD hS hl => C.un k H locs la (set_P hP (x := (cA, n, .inr (.inl f))) (y := (cA, n, .inr (.inl f'))) ha (show arrV cA n (fun j => .long (f j)) = arrV cA n (fun j => .long (f' j)) from arrV_congr (fun j hj => by rw [h j hj])) hw) (set_D hD ha hw) hS hl
theorem s_arrO (C : Cx p l e R s m args below meth c cc nL own Ts X A cells slots Q g) (q0 : Nat) {a n : Nat} {cA : ClassId} {f f' : Nat → Option Nat} (ha : ws[q0]? = some (a, .inl (cA, n, .inr (.inr (.inr (.inr f)))))) (h : ∀ j, j < n → f j = f' j) (hw : ws.set q0 (a, .inl (cA, n, .inr (.inr (.inr (.inr f'))))) = ws') (k : g ws' pc ls st) : g ws pc ls st := C.go fun H locs la hP hD hS hl => C.un k H locs la (set_P hP (x := (cA, n, .inr (.inr (.inr (.inr f))))) (y := (cA, n, .inr (.inr (.inr (.inr f'))))) ha (show arrV cA n (fun j => va_rf (f j)) = arrV cA n (fun j => va_rf (f' j)) from arrV_congr (fun j hj => by rw [h j hj])) hw) (set_D hD ha hw) hS hl
end KIT4
/-! what a fill left is read off the list -/
def lsF (L : List Int32) (k : Nat) : Int32 := L.getD k 0
theorem appF_lo : ∀ (L : List Int32) (F : Nat → Int32) (z k : Nat), k < z → appF F z L k = F k
  | [], _, _, _, _ => rfl
  | v :: L, F, z, k, h => by
    show appF (upd F z v) (z + 1) L k = F k
    rw [appF_lo L (upd F z v) (z + 1) k (by omega), pk_un (by omega)]
theorem appF_at : ∀ (L : List Int32) (F : Nat → Int32) (z k : Nat), k < L.length → appF F z L (z + k) = lsF L k
  | [], _, _, _, h => absurd h (Nat.not_lt_zero _)
  | v :: L, F, z, 0, _ => by
    show appF (upd F z v) (z + 1) L z = v
    rw [appF_lo L (upd F z v) (z + 1) z (by omega), pk_us]
  | v :: L, F, z, k + 1, h => by
    show appF (upd F z v) (z + 1) L (z + (k + 1)) = lsF L k
    rw [show z + (k + 1) = z + 1 + k by omega]
    exact appF_at L (upd F z v) (z + 1) k (by simpa using h)
theorem appF_0 (L : List Int32) (F : Nat → Int32) (k : Nat) (h : k < L.length) : appF F 0 L k = lsF L k := by
  have h2 := appF_at L F 0 k h
  rwa [Nat.zero_add] at h2
theorem bcF_congr {F G : Nat → Int32} (lf gl : Int64) : ∀ z : Nat, (∀ k, k < z → F k = G k) → bcF F lf gl z = bcF G lf gl z
  | 0, _ => rfl
  | z + 1, h => by
    show (if kdI (F z) lf gl = 3 then bcF F lf gl z + 4 else bcF F lf gl z) = (if kdI (G z) lf gl = 3 then bcF G lf gl z + 4 else bcF G lf gl z)
    rw [bcF_congr lf gl z (fun k hk => h k (by omega)), h z (by omega)]
theorem wlF_congr {F G : Nat → Int32} (lf gl : Int64) : ∀ z : Nat, (∀ k, k < z → F k = G k) → wlF F lf gl z = wlF G lf gl z
  | 0, _ => rfl
  | z + 1, h => by
    show (if kdI (F z) lf gl = 3 then (if wlF F lf gl z = 0 then F z else if wlF F lf gl z ≤ F z then wlF F lf gl z else F z) else wlF F lf gl z) = (if kdI (G z) lf gl = 3 then (if wlF G lf gl z = 0 then G z else if wlF G lf gl z ≤ G z then wlF G lf gl z else G z) else wlF G lf gl z)
    rw [wlF_congr lf gl z (fun k hk => h k (by omega)), h z (by omega)]
theorem cwF_congr {F G : Nat → Int32} (v : Int32) : ∀ z : Nat, (∀ k, k < z → F k = G k) → cwF F v z = cwF G v z
  | 0, _ => rfl
  | z + 1, h => by
    show (if F z = v then cwF F v z + 4 else cwF F v z) = (if G z = v then cwF G v z + 4 else cwF G v z)
    rw [cwF_congr v z (fun k hk => h k (by omega)), h z (by omega)]
theorem dnF_congr {F G : Nat → Int32} : ∀ z : Nat, (∀ k, k < z → F k = G k) → dnF F z = dnF G z
  | 0, _ => rfl
  | z + 1, h => by
    show (if z ≠ 0 ∧ F z = F (z - 1) then dnF F z else dnF F z + 1) = (if z ≠ 0 ∧ G z = G (z - 1) then dnF G z else dnF G z + 1)
    rw [dnF_congr z (fun k hk => h k (by omega)), h z (by omega), h (z - 1) (by omega)]
theorem naF_congr {F G : Nat → Int32} (rk : Int32) {z : Nat} (h : ∀ k, k < z → F k = G k) : ∀ (u k : Nat) (nx : Int32), k + u = z → naF F rk u k nx = naF G rk u k nx
  | 0, _, _, _ => rfl
  | u + 1, k, nx, e => by
    show (if k ≠ 0 ∧ F k = F (k - 1) then naF F rk u (k + 1) nx else if nx = rk then F k else naF F rk u (k + 1) (nx + 1)) = (if k ≠ 0 ∧ G k = G (k - 1) then naF G rk u (k + 1) nx else if nx = rk then G k else naF G rk u (k + 1) (nx + 1))
    rw [naF_congr rk h u (k + 1) nx (by omega), naF_congr rk h u (k + 1) (nx + 1) (by omega), h k (by omega), h (k - 1) (by omega)]
theorem insW_congr {z : Nat} (v : Int32) : ∀ (q : Nat) (F G : Nat → Int32), q < z → (∀ k, k < z → F k = G k) → ∀ k, k < z → insW F v q k = insW G v q k
  | 0, F, G, _, h, k, hk => by
    show upd F 0 v k = upd G 0 v k
    unfold upd
    rw [h k hk]
  | q + 1, F, G, hq, h, k, hk => by
    show (if F q ≤ v then upd F (q + 1) v else insW (upd F (q + 1) (F q)) v q) k = (if G q ≤ v then upd G (q + 1) v else insW (upd G (q + 1) (G q)) v q) k
    rw [h q (by omega)]
    by_cases hc : G q ≤ v
    · rw [if_pos hc, if_pos hc]; unfold upd; rw [h k hk]
    · rw [if_neg hc, if_neg hc]
      exact insW_congr v q _ _ (by omega) (fun j hj => by unfold upd; rw [h j hj]) k hk
theorem srF_congr {F G : Nat → Int32} {z : Nat} (h : ∀ k, k < z → F k = G k) : ∀ (j : Nat), j < z → ∀ k, k < z → srF F j k = srF G j k
  | 0, _, k, hk => h k hk
  | j + 1, hj, k, hk => by
    show insW (srF F j) (srF F j (j + 1)) (j + 1) k = insW (srF G j) (srF G j (j + 1)) (j + 1) k
    rw [srF_congr h j (by omega) (j + 1) hj]
    exact insW_congr _ (j + 1) _ _ hj (srF_congr h j (by omega)) k hk

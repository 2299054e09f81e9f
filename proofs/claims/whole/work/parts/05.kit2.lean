/-! truth values as ints, numbers of the walk -/
def bI (q : Prop) [Decidable q] : Int32 := if q then 1 else 0
theorem bI_pos {q : Prop} [Decidable q] (h : q) : bI q = 1 := if_pos h
theorem bI_neg {q : Prop} [Decidable q] (h : ¬ q) : bI q = 0 := if_neg h
def absI (x : Int32) : Int32 := if 0 ≤ x then x else 0 - x
def iI (z : Int) : Int32 := Int32.ofInt z
abbrev hv (n : Nat) (i : Int32) : Prop := 0 ≤ i ∧ i < nI n
theorem hv_of {n k : Nat} (hk : k < n) (hn : n ≤ 100) : hv n (nI k) := ⟨nI_pos' (by omega), nI_lt hk (by omega)⟩
theorem nat_le {a b : Nat} (ha : a < 2 ^ 31) (hb : b < 2 ^ 31) (h : nI a ≤ nI b) : a ≤ b := (nI_leI ha hb).mp h
theorem nat_nle {a b : Nat} (ha : a < 2 ^ 31) (hb : b < 2 ^ 31) (h : ¬ nI a ≤ nI b) : b < a := Nat.lt_of_not_le (fun q => h ((nI_leI ha hb).mpr q))
theorem nat_lt {a b : Nat} (ha : a < 2 ^ 31) (hb : b < 2 ^ 31) (h : nI a < nI b) : a < b := (nI_ltI ha hb).mp h
theorem nat_nlt {a b : Nat} (ha : a < 2 ^ 31) (hb : b < 2 ^ 31) (h : ¬ nI a < nI b) : b ≤ a := Nat.le_of_not_lt (fun q => h ((nI_ltI ha hb).mpr q))
theorem nat_eq {a b : Nat} (ha : a < 2 ^ 31) (hb : b < 2 ^ 31) (h : nI a = nI b) : a = b := (nI_eq ha hb).mp h
theorem nat_ne {a b : Nat} (ha : a < 2 ^ 31) (hb : b < 2 ^ 31) (h : ¬ nI a = nI b) : a ≠ b := fun q => h (by rw [q])
theorem i_z (z : Int) (h1 : -1000000000 ≤ z) (h2 : z ≤ 1000000000) : (iI z).toInt = z := Int32.toInt_ofInt_of_le (by omega) (by omega)
theorem iI_1 (z : Int) : iI z + 1 = iI (z + 1) := (Int32.ofInt_add z 1).symm
theorem iI_le {x y : Int} (h1 : -1000000000 ≤ x) (h2 : x ≤ 1000000000) (h3 : -1000000000 ≤ y) (h4 : y ≤ 1000000000) : iI x ≤ iI y ↔ x ≤ y := by rw [Int32.le_iff_toInt_le, i_z x h1 h2, i_z y h3 h4]
theorem iI_lt {x y : Int} (h1 : -1000000000 ≤ x) (h2 : x ≤ 1000000000) (h3 : -1000000000 ≤ y) (h4 : y ≤ 1000000000) : iI x < iI y ↔ x < y := by rw [Int32.lt_iff_toInt_lt, i_z x h1 h2, i_z y h3 h4]
theorem iI_nI (n : Nat) : iI (n : Int) = nI n := Int32.ofInt_eq_ofNat
section KIT2
variable {p : Program} {l : Launch} {e : Env} {R : Room} {s : State} {m : MethodId} {args : Array Value} {below : List Frame} {meth : Method} {c : Code} {cc : ByteArray} {nL : Nat} {own : String} {Ts : List Cond} {X : XT} {A : Nat → Prop} {cells slots : Nat} {Q : State → Prop} {g : GT} {ws ws' : va_W} {pc : Nat} {ls ls' : LT} {st : List Value}
theorem s_bif_eq (C : Cx p l e R s m args below meth c cc nL own Ts X A cells slots Q g) {q : Prop} [Decidable q] {off : Int} {tgt : Nat} (hd : decode cc pc = .ok (.ifCond .eq off, 3)) (ht : (pc : Int) + off = (tgt : Int)) (kt : ¬ q → g ws tgt ls st) (kf : q → g ws (pc + 3) ls st) : g ws pc ls (.int (bI q) :: st) := s_if_eq C hd ht (fun h => kt (fun hq => by rw [bI_pos hq] at h; exact absurd h (by decide))) (fun h => kf (by
  by_cases hq : q
  · exact hq
  · exact absurd (bI_neg hq) h))
theorem s_bif_ne (C : Cx p l e R s m args below meth c cc nL own Ts X A cells slots Q g) {q : Prop} [Decidable q] {off : Int} {tgt : Nat} (hd : decode cc pc = .ok (.ifCond .ne off, 3)) (ht : (pc : Int) + off = (tgt : Int)) (kt : q → g ws tgt ls st) (kf : ¬ q → g ws (pc + 3) ls st) : g ws pc ls (.int (bI q) :: st) := s_if_ne C hd ht (fun h => kt (by
  by_cases hq : q
  · exact hq
  · exact absurd (bI_neg hq) h)) (fun h => kf (fun hq => by rw [bI_pos hq] at h; exact absurd h (by decide)))
theorem s_top (C : Cx p l e R s m args below meth c cc nL own Ts X A cells slots Q g) {x y : Int32} (h : x = y) (k : g ws pc ls (.int y :: st)) : g ws pc ls (.int x :: st) := by rw [h]; exact k
theorem s_topl (C : Cx p l e R s m args below meth c cc nL own Ts X A cells slots Q g) {x y : Int64} (h : x = y) (k : g ws pc ls (.long y :: st)) : g ws pc ls (.long x :: st) := by rw [h]; exact k
theorem s_ws (C : Cx p l e R s m args below meth c cc nL own Ts X A cells slots Q g) (h : ws = ws') (k : g ws' pc ls st) : g ws pc ls st := by rw [h]; exact k
theorem s_ls (C : Cx p l e R s m args below meth c cc nL own Ts X A cells slots Q g) (h : ls = ls') (k : g ws pc ls' st) : g ws pc ls st := by rw [h]; exact k
theorem s_abs (C : Cx p l e R s m args below meth c cc nL own Ts X A cells slots Q g) {index : Nat} {x : Int32} (h1 : Cond.methodLink own index Lib.Math.abs.name ∈ Ts) (h2 : Cond.static Lib.Math.abs.name ∈ Ts) (h3 : Cond.initialized "java/lang/Math" ∈ Ts) (h4 : Cond.code Lib.Math.abs.name Lib.Math.abs.code 1 (some .int) ∈ Ts) (hcs : cells ≤ R.cells ∧ slots ≤ R.slots) (hf : 1 ≤ R.frames) (hlo : (st.map fun v => v.category).sum + 13 ≤ R.locals) (hd : decode cc pc = .ok (.invokestatic index, 3)) (k : g ws (pc + 3) ls (.int (absI x) :: st)) : g ws pc ls (.int x :: st) := C.go fun H locs la hP hD hS hl => va_mabs C.x C.b (by rw [C.ml, hl.1]) C.ow (C.ts _ h1) (C.ts _ h2) (C.ts _ h3) (C.ts _ h4) hf hlo hcs.1 hcs.2 hd (C.un k H locs la hP hD hS hl)
end KIT2

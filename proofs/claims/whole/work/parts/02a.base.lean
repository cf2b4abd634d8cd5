/-! the walk's own judgement: an environment E, a world w (a list of cells), a place pc, locals lv, operand stack -/
abbrev zE : Type := Program × Launch × Env × Room × State × MethodId × Array Value × List Frame × Method × Code × va_G × (Nat → Prop) × (State → Prop)
def ze_p (E : zE) : Program := E.1
def ze_l (E : zE) : Launch := E.2.1
def ze_e (E : zE) : Env := E.2.2.1
def ze_R (E : zE) : Room := E.2.2.2.1
def ze_s (E : zE) : State := E.2.2.2.2.1
def ze_m (E : zE) : MethodId := E.2.2.2.2.2.1
def ze_a (E : zE) : Array Value := E.2.2.2.2.2.2.1
def ze_b (E : zE) : List Frame := E.2.2.2.2.2.2.2.1
def ze_h (E : zE) : Method := E.2.2.2.2.2.2.2.2.1
def ze_c (E : zE) : Code := E.2.2.2.2.2.2.2.2.2.1
def ze_D (E : zE) : va_G := E.2.2.2.2.2.2.2.2.2.2.1
def ze_A (E : zE) : Nat → Prop := E.2.2.2.2.2.2.2.2.2.2.2.1
def ze_Q (E : zE) : State → Prop := E.2.2.2.2.2.2.2.2.2.2.2.2
abbrev zTy : Type := ClassId × ClassId × ClassId
abbrev zty (t : zTy) : List (ClassId × FieldType) := [(t.1, .int), (t.2.1, .long), (t.2.2, .boolean)]
def zG (E : zE) (nL ce sl : Nat) (w : va_W) (pc : Nat) (lv : List (Nat × Value)) (stk : List Value) : Prop :=
  ∀ (H : Heap) (locs : List Loc) (ls : Array Slot), va_P (ze_D E) vwCl w H → va_D (ze_A E) w → va_S (ze_A E) (ze_s E).heap H locs → lv_has ls nL lv →
    W (ze_p E) (ze_l E) (ze_e E) (ze_R E) (ze_s E) (ze_m E) (ze_a E) (ze_b E) (ze_h E) (ze_c E) H locs ce sl (ze_Q E) (F0 (ze_m E) pc ls stk)
/-- the links to private methods of a nest mate -/
def zNl : List (String × Nat × MethodName × String) := [(RX11, 9, yX7_init, RX11), (RX11, 18, yX8_init, RX11), (RX11, 32, yX10_init, RX11), (RX11, 39, yX6_init, RX11), (RX11, 46, yX0_init, RX11), (RX11, 53, yX2_init, RX11), (RX11, 60, yX3_init, RX11), (RX11, 67, yX1_init, RX11), (RX11, 74, yX5_init, RX11), (RX11, 81, yX4_init, RX11), (RX8, 21, yX11_isSheet, RX11), (RX8, 25, yX11_isLane, RX11), (RX8, 35, yX11_within, RX11), (RX7, 15, yX11_within, RX11), (RX9, 51, yX11_cut, RX11), (RX10, 36, yX11_cut, RX11), (RX10, 48, yX11_held, RX11), (RX2, 36, yX11_held, RX11), (RX6, 39, yX11_cut, RX11), (RX1, 28, yX11_within, RX11)]
def zN (U : State) : Prop := ∀ q ∈ zNl, va_Nw (.methodLinkNest q.1 q.2.1 q.2.2.1 q.2.2.2) U
theorem zN.warm {s U : State} (hW : s.WarmedH U.vm) (h : zN s) : zN U := fun q hq => va_Nw.warmM hW (h q hq)
theorem zN.same {u U : State} (hv : u.vm = U.vm) (h : zN u) : zN U := fun q hq => va_Nw.same rfl hv (h q hq)
def zlow (j : Nat) : Int32 := ([0, 1, 0, 0, 1, 0, 1] : List Int32).getD j 0
def zhigh (j : Nat) : Int32 := ([255, 4080, 8, 200, 60, 120, 8] : List Int32).getD j 0
/-- the two constant arrays of the settings -/
def zT (A : Nat → Prop) (U : State) (H : Heap) : Prop := ∃ t1 t2 : Nat, va_Z RX7 "LOW" "[I" (.ref t1) A U H ∧ va_T .int t1 7 (fun j => .int (zlow j)) A U H ∧ va_Z RX7 "HIGH" "[I" (.ref t2) A U H ∧ va_T .int t2 7 (fun j => .int (zhigh j)) A U H
theorem zT.moved {A : Nat → Prop} {u U : State} {H : Heap} (hvm : u.vm.Alike U.vm) (h : zT A u H) : zT A U H := by
  obtain ⟨t1, t2, h1, h2, h3, h4⟩ := h
  exact ⟨t1, t2, h1.moved hvm, h2.moved hvm, h3.moved hvm, h4.moved hvm⟩
theorem zT.kept {A : Nat → Prop} {U : State} {H H1 : Heap} (h : zT A U H) (hq : ∀ a : Nat, a < H.size → ¬ A a → H1[a]? = H[a]?) : zT A U H1 := by
  obtain ⟨t1, t2, h1, h2, h3, h4⟩ := h
  exact ⟨t1, t2, h1.kept hq, h2.kept hq, h3.kept hq, h4.kept hq⟩
theorem zT.narrow {A B : Nat → Prop} {U : State} {H : Heap} (h : zT A U H) (hAB : ∀ q, B q → A q) : zT B U H := by
  obtain ⟨t1, t2, h1, h2, h3, h4⟩ := h
  exact ⟨t1, t2, h1.narrow hAB, h2.narrow hAB, h3.narrow hAB, h4.narrow hAB⟩
/-- what holds all along a method's walk -/
def zC (E : zE) (cc : ByteArray) (nL : Nat) (own : String) (Ts : List Cond) (rm : Room) (t : zTy) : Prop :=
  (ze_p E).tables.exec = Jvm.exec ∧ (ze_c E).code = cc ∧ (ze_c E).maxLocals = nL ∧ (ze_s E).vm.findClass own = some (ze_m E).cls ∧ (∀ w ∈ Ts, w.before (ze_a E) (ze_s E) = true) ∧ va_K (ze_D E) vwCl (zty t) (ze_s E) ∧ (∀ q, (ze_s E).heap.size ≤ q → ze_A E q) ∧ zN (ze_s E) ∧ zT (ze_A E) (ze_s E) (ze_s E).heap ∧ ze_R E = rm
theorem zC.ex {E : zE} {cc : ByteArray} {nL : Nat} {own : String} {Ts : List Cond} {rm : Room} {t : zTy} (C : zC E cc nL own Ts rm t) : (ze_p E).tables.exec = Jvm.exec := C.1
theorem zC.cd {E : zE} {cc : ByteArray} {nL : Nat} {own : String} {Ts : List Cond} {rm : Room} {t : zTy} (C : zC E cc nL own Ts rm t) : (ze_c E).code = cc := C.2.1
theorem zC.ml {E : zE} {cc : ByteArray} {nL : Nat} {own : String} {Ts : List Cond} {rm : Room} {t : zTy} (C : zC E cc nL own Ts rm t) : (ze_c E).maxLocals = nL := C.2.2.1
theorem zC.ow {E : zE} {cc : ByteArray} {nL : Nat} {own : String} {Ts : List Cond} {rm : Room} {t : zTy} (C : zC E cc nL own Ts rm t) : (ze_s E).vm.findClass own = some (ze_m E).cls := C.2.2.2.1
theorem zC.ts {E : zE} {cc : ByteArray} {nL : Nat} {own : String} {Ts : List Cond} {rm : Room} {t : zTy} (C : zC E cc nL own Ts rm t) : ∀ w ∈ Ts, w.before (ze_a E) (ze_s E) = true := C.2.2.2.2.1
theorem zC.k {E : zE} {cc : ByteArray} {nL : Nat} {own : String} {Ts : List Cond} {rm : Room} {t : zTy} (C : zC E cc nL own Ts rm t) : va_K (ze_D E) vwCl (zty t) (ze_s E) := C.2.2.2.2.2.1
theorem zC.hA {E : zE} {cc : ByteArray} {nL : Nat} {own : String} {Ts : List Cond} {rm : Room} {t : zTy} (C : zC E cc nL own Ts rm t) : ∀ q, (ze_s E).heap.size ≤ q → ze_A E q := C.2.2.2.2.2.2.1
theorem zC.n {E : zE} {cc : ByteArray} {nL : Nat} {own : String} {Ts : List Cond} {rm : Room} {t : zTy} (C : zC E cc nL own Ts rm t) : zN (ze_s E) := C.2.2.2.2.2.2.2.1
theorem zC.tt {E : zE} {cc : ByteArray} {nL : Nat} {own : String} {Ts : List Cond} {rm : Room} {t : zTy} (C : zC E cc nL own Ts rm t) : zT (ze_A E) (ze_s E) (ze_s E).heap := C.2.2.2.2.2.2.2.2.1
theorem zC.rm {E : zE} {cc : ByteArray} {nL : Nat} {own : String} {Ts : List Cond} {rm : Room} {t : zTy} (C : zC E cc nL own Ts rm t) : ze_R E = rm := C.2.2.2.2.2.2.2.2.2
/-- an index is in its row -/
def ixok (i : Int32) (n : Nat) : Bool := decide (¬ (i < 0 ∨ n ≤ i.toNatClampNeg))
theorem ixok_in {i : Int32} {n : Nat} (h : ixok i n = true) : vp_in i n := (of_decide_eq_true h : ¬ (i < 0 ∨ n ≤ i.toNatClampNeg))
theorem ixok_of {i : Int32} {n : Nat} (h : vp_in i n) : ixok i n = true := decide_eq_true (h : ¬ (i < 0 ∨ n ≤ i.toNatClampNeg))
theorem z_some {α : Type} {c : Bool} {x : Option α} {y : α} (h : (if c = true then x else none) = some y) : c = true ∧ x = some y := by
  cases c with
  | false => simp at h
  | true => exact ⟨rfl, by simpa using h⟩
theorem z_div {α : Type} {c : Prop} [Decidable c] {x : Option α} {y : α} (h : (if c then none else x) = some y) : ¬ c ∧ x = some y := by
  by_cases hc : c
  · rw [if_pos hc] at h; cases h
  · rw [if_neg hc] at h; exact ⟨hc, h⟩
theorem z_ift {α : Type} {c : Prop} [Decidable c] {x y o : α} (hc : c) (h : (if c then x else y) = o) : x = o := by rw [if_pos hc] at h; exact h
theorem z_iff {α : Type} {c : Prop} [Decidable c] {x y o : α} (hc : ¬ c) (h : (if c then x else y) = o) : y = o := by rw [if_neg hc] at h; exact h
/-- a copy of n places from sp on to dp on lies within both rows -/
def cpok (sp dp n : Int32) (n0 n1 : Nat) : Bool := decide (¬ sp < 0) && (decide (¬ dp < 0) && (decide (¬ n < 0) && (decide (sp.toNatClampNeg + n.toNatClampNeg ≤ n0) && decide (dp.toNatClampNeg + n.toNatClampNeg ≤ n1))))
theorem cpok_all {sp dp n : Int32} {n0 n1 : Nat} (h : cpok sp dp n n0 n1 = true) : ¬ sp < 0 ∧ ¬ dp < 0 ∧ ¬ n < 0 ∧ sp.toNatClampNeg + n.toNatClampNeg ≤ n0 ∧ dp.toNatClampNeg + n.toNatClampNeg ≤ n1 := by
  simpa only [cpok, Bool.and_eq_true, decide_eq_true_eq] using h
theorem cpok_1 {sp dp n : Int32} {n0 n1 : Nat} (h : cpok sp dp n n0 n1 = true) : ¬ sp < 0 := (cpok_all h).1
theorem cpok_2 {sp dp n : Int32} {n0 n1 : Nat} (h : cpok sp dp n n0 n1 = true) : ¬ dp < 0 := (cpok_all h).2.1
theorem cpok_3 {sp dp n : Int32} {n0 n1 : Nat} (h : cpok sp dp n n0 n1 = true) : ¬ n < 0 := (cpok_all h).2.2.1
theorem cpok_4 {sp dp n : Int32} {n0 n1 : Nat} (h : cpok sp dp n n0 n1 = true) : sp.toNatClampNeg + n.toNatClampNeg ≤ n0 := (cpok_all h).2.2.2.1
theorem cpok_5 {sp dp n : Int32} {n0 n1 : Nat} (h : cpok sp dp n n0 n1 = true) : dp.toNatClampNeg + n.toNatClampNeg ≤ n1 := (cpok_all h).2.2.2.2
theorem z_bind {α β : Type} {x : Option α} {f : α → Option β} {y : β} (h : x.bind f = some y) : ∃ a, x = some a ∧ f a = some y := by
  cases x with
  | none => cases h
  | some a => exact ⟨a, rfl, h⟩
/-- a number that a boolean may be -/
def zb01 (v : Int32) : Bool := decide (v = 0 ∨ v = 1)
theorem zb01_n {v : Int32} (h : zb01 v = true) : narrow .boolean (.int v) = .int v := by
  rcases of_decide_eq_true h with rfl | rfl <;> decide
section ZR
variable {E : zE} {cc : ByteArray} {nL : Nat} {own : String} {Ts : List Cond} {rm : Room} {t : zTy} {ce sl pc : Nat} {w : va_W} {lv : List (Nat × Value)} {stk : List Value}
theorem z_sub (ks : List Nat) {lv' : List (Nat × Value)} (hs : lv_pick lv ks = lv') (kk : zG E nL ce sl w pc lv' stk) : zG E nL ce sl w pc lv stk := fun H locs ls hP hD hS hl => kk H locs ls hP hD hS (lv_sub hl ks hs)
theorem z_pc {pc' : Nat} (h : pc' = pc) (kk : zG E nL ce sl w pc lv stk) : zG E nL ce sl w pc' lv stk := h ▸ kk
theorem z_w {w' : va_W} (h : w = w') (kk : zG E nL ce sl w' pc lv stk) : zG E nL ce sl w pc lv stk := h ▸ kk
theorem z_iconst (C : zC E cc nL own Ts rm t) {n : Int} (hdg : decode cc pc = .ok (.iconst n, 1)) (v : Int32) (hv : Int32.ofInt n = v) (kk : zG E nL ce sl w (pc + 1) lv (.int v :: stk)) : zG E nL ce sl w pc lv stk := fun H locs ls hP hD hS hl => lv_iconst C.ex C.cd hdg hv (kk H locs ls hP hD hS hl)
theorem z_bipush (C : zC E cc nL own Ts rm t) {n : Int} (hdg : decode cc pc = .ok (.bipush n, 2)) (v : Int32) (hv : (Int8.ofInt n).toInt32 = v) (kk : zG E nL ce sl w (pc + 2) lv (.int v :: stk)) : zG E nL ce sl w pc lv stk := fun H locs ls hP hD hS hl => lv_bipush C.ex C.cd hdg hv (kk H locs ls hP hD hS hl)
theorem z_sipush (C : zC E cc nL own Ts rm t) {n : Int} (hdg : decode cc pc = .ok (.sipush n, 3)) (v : Int32) (hv : (Int16.ofInt n).toInt32 = v) (kk : zG E nL ce sl w (pc + 3) lv (.int v :: stk)) : zG E nL ce sl w pc lv stk := fun H locs ls hP hD hS hl => lv_sipush C.ex C.cd hdg hv (kk H locs ls hP hD hS hl)
theorem z_lconst (C : zC E cc nL own Ts rm t) {n : Fin 2} (hdg : decode cc pc = .ok (.lconst n, 1)) (v : Int64) (hv : Int64.ofNat (n : Nat) = v) (kk : zG E nL ce sl w (pc + 1) lv (.long v :: stk)) : zG E nL ce sl w pc lv stk := fun H locs ls hP hD hS hl => lv_lconst C.ex C.cd hdg hv (kk H locs ls hP hD hS hl)
theorem z_ldc2 (C : zC E cc nL own Ts rm t) {index : Nat} (v : Int64) (hm : Cond.constantLong own index v ∈ Ts) (hdg : decode cc pc = .ok (.ldc2_w index, 3)) (kk : zG E nL ce sl w (pc + 3) lv (.long v :: stk)) : zG E nL ce sl w pc lv stk := fun H locs ls hP hD hS hl => lv_ldc2 C.ex C.cd C.ow (C.ts _ hm) hdg (kk H locs ls hP hD hS hl)
theorem z_ldcw (C : zC E cc nL own Ts rm t) {index : Nat} (v : Int32) (hm : Cond.constant own index v ∈ Ts) (hdg : decode cc pc = .ok (.ldc_w index, 3)) (kk : zG E nL ce sl w (pc + 3) lv (.int v :: stk)) : zG E nL ce sl w pc lv stk := fun H locs ls hP hD hS hl => lv_ldcw C.ex C.cd C.ow (C.ts _ hm) hdg (kk H locs ls hP hD hS hl)
theorem z_iload_n (C : zC E cc nL own Ts rm t) {n : Fin 4} {i : Nat} {x : Int32} (hdg : decode cc pc = .ok (.iload_n n, 1)) (hi : (n : Nat) = i) (k : Nat) (hk : lv[k]? = some (i, .int x)) (kk : zG E nL ce sl w (pc + 1) lv (.int x :: stk)) : zG E nL ce sl w pc lv stk := fun H locs ls hP hD hS hl => lv_iload_n C.ex C.cd hdg hi (lv_at hl k hk) (kk H locs ls hP hD hS hl)
theorem z_iload (C : zC E cc nL own Ts rm t) {i : Nat} {x : Int32} (hdg : decode cc pc = .ok (.iload i, 2)) (k : Nat) (hk : lv[k]? = some (i, .int x)) (kk : zG E nL ce sl w (pc + 2) lv (.int x :: stk)) : zG E nL ce sl w pc lv stk := fun H locs ls hP hD hS hl => lv_iload C.ex C.cd hdg (lv_at hl k hk) (kk H locs ls hP hD hS hl)
theorem z_lload_n (C : zC E cc nL own Ts rm t) {n : Fin 4} {i : Nat} {x : Int64} (hdg : decode cc pc = .ok (.lload_n n, 1)) (hi : (n : Nat) = i) (k : Nat) (hk : lv[k]? = some (i, .long x)) (kk : zG E nL ce sl w (pc + 1) lv (.long x :: stk)) : zG E nL ce sl w pc lv stk := fun H locs ls hP hD hS hl => lv_lload_n C.ex C.cd hdg hi (lv_at hl k hk) (kk H locs ls hP hD hS hl)
theorem z_lload (C : zC E cc nL own Ts rm t) {i : Nat} {x : Int64} (hdg : decode cc pc = .ok (.lload i, 2)) (k : Nat) (hk : lv[k]? = some (i, .long x)) (kk : zG E nL ce sl w (pc + 2) lv (.long x :: stk)) : zG E nL ce sl w pc lv stk := fun H locs ls hP hD hS hl => lv_lload C.ex C.cd hdg (lv_at hl k hk) (kk H locs ls hP hD hS hl)
theorem z_aload_n (C : zC E cc nL own Ts rm t) {n : Fin 4} {i : Nat} {x : Nat} (hdg : decode cc pc = .ok (.aload_n n, 1)) (hi : (n : Nat) = i) (k : Nat) (hk : lv[k]? = some (i, .ref x)) (kk : zG E nL ce sl w (pc + 1) lv (.ref x :: stk)) : zG E nL ce sl w pc lv stk := fun H locs ls hP hD hS hl => lv_aload_n C.ex C.cd hdg hi (lv_at hl k hk) (kk H locs ls hP hD hS hl)
theorem z_aload (C : zC E cc nL own Ts rm t) {i : Nat} {x : Nat} (hdg : decode cc pc = .ok (.aload i, 2)) (k : Nat) (hk : lv[k]? = some (i, .ref x)) (kk : zG E nL ce sl w (pc + 2) lv (.ref x :: stk)) : zG E nL ce sl w pc lv stk := fun H locs ls hP hD hS hl => lv_aload C.ex C.cd hdg (lv_at hl k hk) (kk H locs ls hP hD hS hl)
theorem z_istore_n (C : zC E cc nL own Ts rm t) {n : Fin 4} {i : Nat} {x : Int32} (lv' : List (Nat × Value)) (hdg : decode cc pc = .ok (.istore_n n, 1)) (hi : (n : Nat) = i) (hn : i < nL) (hl' : (i, Value.int x) :: lv.filter (fun q => !(q.1 == i) && !(q.1 + 1 == i && q.2.category == 2)) = lv') (kk : zG E nL ce sl w (pc + 1) lv' stk) : zG E nL ce sl w pc lv (.int x :: stk) := fun H locs ls hP hD hS hl => lv_istore_n C.ex C.cd hdg hi hl hn hl' (fun ls' hl2 => kk H locs ls' hP hD hS hl2)
theorem z_istore (C : zC E cc nL own Ts rm t) {i : Nat} {x : Int32} (lv' : List (Nat × Value)) (hdg : decode cc pc = .ok (.istore i, 2)) (hn : i < nL) (hl' : (i, Value.int x) :: lv.filter (fun q => !(q.1 == i) && !(q.1 + 1 == i && q.2.category == 2)) = lv') (kk : zG E nL ce sl w (pc + 2) lv' stk) : zG E nL ce sl w pc lv (.int x :: stk) := fun H locs ls hP hD hS hl => lv_istore C.ex C.cd hdg hl hn hl' (fun ls' hl2 => kk H locs ls' hP hD hS hl2)
theorem z_lstore_n (C : zC E cc nL own Ts rm t) {n : Fin 4} {i : Nat} {x : Int64} (lv' : List (Nat × Value)) (hdg : decode cc pc = .ok (.lstore_n n, 1)) (hi : (n : Nat) = i) (hn : i + 1 < nL) (hl' : (i, Value.long x) :: lv.filter (fun q => !(q.1 == i) && (!(q.1 == i + 1) && !(q.1 + 1 == i && q.2.category == 2))) = lv') (kk : zG E nL ce sl w (pc + 1) lv' stk) : zG E nL ce sl w pc lv (.long x :: stk) := fun H locs ls hP hD hS hl => lv_lstore_n C.ex C.cd hdg hi hl hn hl' (fun ls' hl2 => kk H locs ls' hP hD hS hl2)
theorem z_lstore (C : zC E cc nL own Ts rm t) {i : Nat} {x : Int64} (lv' : List (Nat × Value)) (hdg : decode cc pc = .ok (.lstore i, 2)) (hn : i + 1 < nL) (hl' : (i, Value.long x) :: lv.filter (fun q => !(q.1 == i) && (!(q.1 == i + 1) && !(q.1 + 1 == i && q.2.category == 2))) = lv') (kk : zG E nL ce sl w (pc + 2) lv' stk) : zG E nL ce sl w pc lv (.long x :: stk) := fun H locs ls hP hD hS hl => lv_lstore C.ex C.cd hdg hl hn hl' (fun ls' hl2 => kk H locs ls' hP hD hS hl2)
theorem z_astore_n (C : zC E cc nL own Ts rm t) {n : Fin 4} {i : Nat} {x : Nat} (lv' : List (Nat × Value)) (hdg : decode cc pc = .ok (.astore_n n, 1)) (hi : (n : Nat) = i) (hn : i < nL) (hl' : (i, Value.ref x) :: lv.filter (fun q => !(q.1 == i) && !(q.1 + 1 == i && q.2.category == 2)) = lv') (kk : zG E nL ce sl w (pc + 1) lv' stk) : zG E nL ce sl w pc lv (.ref x :: stk) := fun H locs ls hP hD hS hl => lv_astore_n C.ex C.cd hdg hi hl hn hl' (fun ls' hl2 => kk H locs ls' hP hD hS hl2)
theorem z_astore (C : zC E cc nL own Ts rm t) {i : Nat} {x : Nat} (lv' : List (Nat × Value)) (hdg : decode cc pc = .ok (.astore i, 2)) (hn : i < nL) (hl' : (i, Value.ref x) :: lv.filter (fun q => !(q.1 == i) && !(q.1 + 1 == i && q.2.category == 2)) = lv') (kk : zG E nL ce sl w (pc + 2) lv' stk) : zG E nL ce sl w pc lv (.ref x :: stk) := fun H locs ls hP hD hS hl => lv_astore C.ex C.cd hdg hl hn hl' (fun ls' hl2 => kk H locs ls' hP hD hS hl2)
theorem z_iinc (C : zC E cc nL own Ts rm t) {i : Nat} {n : Int} {x : Int32} (v : Int32) (lv' : List (Nat × Value)) (hdg : decode cc pc = .ok (.iinc i n, 3)) (k : Nat) (hk : lv[k]? = some (i, .int x)) (hv : x + Int32.ofInt n = v) (hn : i < nL) (hl' : (i, Value.int v) :: lv.filter (fun q => !(q.1 == i) && !(q.1 + 1 == i && q.2.category == 2)) = lv') (kk : zG E nL ce sl w (pc + 3) lv' stk) : zG E nL ce sl w pc lv stk := fun H locs ls hP hD hS hl => lv_iinc C.ex C.cd hdg hl hk hv hn hl' (fun ls' hl2 => kk H locs ls' hP hD hS hl2)
theorem z_iadd (C : zC E cc nL own Ts rm t) {x y : Int32} (hdg : decode cc pc = .ok (.iadd, 1)) (kk : zG E nL ce sl w (pc + 1) lv (.int (x + y) :: stk)) : zG E nL ce sl w pc lv (.int y :: .int x :: stk) := fun H locs ls hP hD hS hl => lv_iadd C.ex C.cd hdg (kk H locs ls hP hD hS hl)
theorem z_isub (C : zC E cc nL own Ts rm t) {x y : Int32} (hdg : decode cc pc = .ok (.isub, 1)) (kk : zG E nL ce sl w (pc + 1) lv (.int (x - y) :: stk)) : zG E nL ce sl w pc lv (.int y :: .int x :: stk) := fun H locs ls hP hD hS hl => lv_isub C.ex C.cd hdg (kk H locs ls hP hD hS hl)
theorem z_imul (C : zC E cc nL own Ts rm t) {x y : Int32} (hdg : decode cc pc = .ok (.imul, 1)) (kk : zG E nL ce sl w (pc + 1) lv (.int (x * y) :: stk)) : zG E nL ce sl w pc lv (.int y :: .int x :: stk) := fun H locs ls hP hD hS hl => lv_imul C.ex C.cd hdg (kk H locs ls hP hD hS hl)
theorem z_iand (C : zC E cc nL own Ts rm t) {x y : Int32} (hdg : decode cc pc = .ok (.iand, 1)) (kk : zG E nL ce sl w (pc + 1) lv (.int (x &&& y) :: stk)) : zG E nL ce sl w pc lv (.int y :: .int x :: stk) := fun H locs ls hP hD hS hl => lv_iand C.ex C.cd hdg (kk H locs ls hP hD hS hl)
theorem z_ior (C : zC E cc nL own Ts rm t) {x y : Int32} (hdg : decode cc pc = .ok (.ior, 1)) (kk : zG E nL ce sl w (pc + 1) lv (.int (x ||| y) :: stk)) : zG E nL ce sl w pc lv (.int y :: .int x :: stk) := fun H locs ls hP hD hS hl => lv_ior C.ex C.cd hdg (kk H locs ls hP hD hS hl)
theorem z_ixor (C : zC E cc nL own Ts rm t) {x y : Int32} (hdg : decode cc pc = .ok (.ixor, 1)) (kk : zG E nL ce sl w (pc + 1) lv (.int (x ^^^ y) :: stk)) : zG E nL ce sl w pc lv (.int y :: .int x :: stk) := fun H locs ls hP hD hS hl => lv_ixor C.ex C.cd hdg (kk H locs ls hP hD hS hl)
theorem z_ladd (C : zC E cc nL own Ts rm t) {x y : Int64} (hdg : decode cc pc = .ok (.ladd, 1)) (kk : zG E nL ce sl w (pc + 1) lv (.long (x + y) :: stk)) : zG E nL ce sl w pc lv (.long y :: .long x :: stk) := fun H locs ls hP hD hS hl => lv_ladd C.ex C.cd hdg (kk H locs ls hP hD hS hl)
theorem z_lsub (C : zC E cc nL own Ts rm t) {x y : Int64} (hdg : decode cc pc = .ok (.lsub, 1)) (kk : zG E nL ce sl w (pc + 1) lv (.long (x - y) :: stk)) : zG E nL ce sl w pc lv (.long y :: .long x :: stk) := fun H locs ls hP hD hS hl => lv_lsub C.ex C.cd hdg (kk H locs ls hP hD hS hl)
theorem z_lmul (C : zC E cc nL own Ts rm t) {x y : Int64} (hdg : decode cc pc = .ok (.lmul, 1)) (kk : zG E nL ce sl w (pc + 1) lv (.long (x * y) :: stk)) : zG E nL ce sl w pc lv (.long y :: .long x :: stk) := fun H locs ls hP hD hS hl => lv_lmul C.ex C.cd hdg (kk H locs ls hP hD hS hl)
theorem z_idiv (C : zC E cc nL own Ts rm t) {x y : Int32} (hne : ¬ y = 0) (hdg : decode cc pc = .ok (.idiv, 1)) (kk : zG E nL ce sl w (pc + 1) lv (.int (x / y) :: stk)) : zG E nL ce sl w pc lv (.int y :: .int x :: stk) := fun H locs ls hP hD hS hl => lv_idiv C.ex C.cd hdg hne (kk H locs ls hP hD hS hl)
theorem z_irem (C : zC E cc nL own Ts rm t) {x y : Int32} (hne : ¬ y = 0) (hdg : decode cc pc = .ok (.irem, 1)) (kk : zG E nL ce sl w (pc + 1) lv (.int (x - x / y * y) :: stk)) : zG E nL ce sl w pc lv (.int y :: .int x :: stk) := fun H locs ls hP hD hS hl => lv_irem C.ex C.cd hdg hne (kk H locs ls hP hD hS hl)
theorem z_ineg (C : zC E cc nL own Ts rm t) {x : Int32} (hdg : decode cc pc = .ok (.ineg, 1)) (kk : zG E nL ce sl w (pc + 1) lv (.int (-x) :: stk)) : zG E nL ce sl w pc lv (.int x :: stk) := fun H locs ls hP hD hS hl => lv_ineg C.ex C.cd hdg (kk H locs ls hP hD hS hl)
theorem z_ldiv (C : zC E cc nL own Ts rm t) {x y : Int64} (hne : ¬ y = 0) (hdg : decode cc pc = .ok (.ldiv, 1)) (kk : zG E nL ce sl w (pc + 1) lv (.long (x / y) :: stk)) : zG E nL ce sl w pc lv (.long y :: .long x :: stk) := fun H locs ls hP hD hS hl => lv_ldiv C.ex C.cd hdg hne (kk H locs ls hP hD hS hl)
theorem z_lrem (C : zC E cc nL own Ts rm t) {x y : Int64} (hne : ¬ y = 0) (hdg : decode cc pc = .ok (.lrem, 1)) (kk : zG E nL ce sl w (pc + 1) lv (.long (x - x / y * y) :: stk)) : zG E nL ce sl w pc lv (.long y :: .long x :: stk) := fun H locs ls hP hD hS hl => lv_lrem C.ex C.cd hdg hne (kk H locs ls hP hD hS hl)
theorem z_lneg (C : zC E cc nL own Ts rm t) {x : Int64} (hdg : decode cc pc = .ok (.lneg, 1)) (kk : zG E nL ce sl w (pc + 1) lv (.long (-x) :: stk)) : zG E nL ce sl w pc lv (.long x :: stk) := fun H locs ls hP hD hS hl => lv_lneg C.ex C.cd hdg (kk H locs ls hP hD hS hl)
theorem z_ishl (C : zC E cc nL own Ts rm t) {x y : Int32} (hdg : decode cc pc = .ok (.ishl, 1)) (kk : zG E nL ce sl w (pc + 1) lv (.int (x <<< (y &&& 31)) :: stk)) : zG E nL ce sl w pc lv (.int y :: .int x :: stk) := fun H locs ls hP hD hS hl => lv_ishl C.ex C.cd hdg (kk H locs ls hP hD hS hl)
theorem z_ishr (C : zC E cc nL own Ts rm t) {x y : Int32} (hdg : decode cc pc = .ok (.ishr, 1)) (kk : zG E nL ce sl w (pc + 1) lv (.int (x >>> (y &&& 31)) :: stk)) : zG E nL ce sl w pc lv (.int y :: .int x :: stk) := fun H locs ls hP hD hS hl => lv_ishr C.ex C.cd hdg (kk H locs ls hP hD hS hl)
theorem z_iushr (C : zC E cc nL own Ts rm t) {x y : Int32} (hdg : decode cc pc = .ok (.iushr, 1)) (kk : zG E nL ce sl w (pc + 1) lv (.int ((x.toUInt32 >>> (y.toUInt32 &&& Int32.toUInt32 31)).toInt32) :: stk)) : zG E nL ce sl w pc lv (.int y :: .int x :: stk) := fun H locs ls hP hD hS hl => lv_iushr C.ex C.cd hdg rfl (kk H locs ls hP hD hS hl)
theorem z_i2l (C : zC E cc nL own Ts rm t) {x : Int32} (hdg : decode cc pc = .ok (.i2l, 1)) (kk : zG E nL ce sl w (pc + 1) lv (.long x.toInt64 :: stk)) : zG E nL ce sl w pc lv (.int x :: stk) := fun H locs ls hP hD hS hl => lv_i2l C.ex C.cd hdg rfl (kk H locs ls hP hD hS hl)
theorem z_l2i (C : zC E cc nL own Ts rm t) {x : Int64} (hdg : decode cc pc = .ok (.l2i, 1)) (kk : zG E nL ce sl w (pc + 1) lv (.int x.toInt32 :: stk)) : zG E nL ce sl w pc lv (.long x :: stk) := fun H locs ls hP hD hS hl => lv_l2i C.ex C.cd hdg rfl (kk H locs ls hP hD hS hl)
theorem z_i2b (C : zC E cc nL own Ts rm t) {x : Int32} (hdg : decode cc pc = .ok (.i2b, 1)) (kk : zG E nL ce sl w (pc + 1) lv (.int x.toInt8.toInt32 :: stk)) : zG E nL ce sl w pc lv (.int x :: stk) := fun H locs ls hP hD hS hl => lv_i2b C.ex C.cd hdg rfl (kk H locs ls hP hD hS hl)
theorem z_i2s (C : zC E cc nL own Ts rm t) {x : Int32} (hdg : decode cc pc = .ok (.i2s, 1)) (kk : zG E nL ce sl w (pc + 1) lv (.int x.toInt16.toInt32 :: stk)) : zG E nL ce sl w pc lv (.int x :: stk) := fun H locs ls hP hD hS hl => lv_i2s C.ex C.cd hdg rfl (kk H locs ls hP hD hS hl)
theorem z_dup (C : zC E cc nL own Ts rm t) {va : Value} (hdg : decode cc pc = .ok (.dup, 1)) (hva : va.category = 1) (kk : zG E nL ce sl w (pc + 1) lv (va :: va :: stk)) : zG E nL ce sl w pc lv (va :: stk) := fun H locs ls hP hD hS hl => lv_dup C.ex C.cd hdg hva (kk H locs ls hP hD hS hl)
theorem z_pop (C : zC E cc nL own Ts rm t) {va : Value} (hdg : decode cc pc = .ok (.pop, 1)) (hva : va.category = 1) (kk : zG E nL ce sl w (pc + 1) lv stk) : zG E nL ce sl w pc lv (va :: stk) := fun H locs ls hP hD hS hl => lv_pop C.ex C.cd hdg hva (kk H locs ls hP hD hS hl)
theorem z_dup2 (C : zC E cc nL own Ts rm t) {va vb : Value} (hdg : decode cc pc = .ok (.dup2, 1)) (hva : va.category = 1) (hvb : vb.category = 1) (kk : zG E nL ce sl w (pc + 1) lv (va :: vb :: va :: vb :: stk)) : zG E nL ce sl w pc lv (va :: vb :: stk) := fun H locs ls hP hD hS hl => lv_dup2_11 C.ex C.cd hdg hva hvb (kk H locs ls hP hD hS hl)
theorem z_dup_x1 (C : zC E cc nL own Ts rm t) {va vb : Value} (hdg : decode cc pc = .ok (.dup_x1, 1)) (hva : va.category = 1) (hvb : vb.category = 1) (kk : zG E nL ce sl w (pc + 1) lv (va :: vb :: va :: stk)) : zG E nL ce sl w pc lv (va :: vb :: stk) := fun H locs ls hP hD hS hl => lv_dup_x1 C.ex C.cd hdg hva hvb (kk H locs ls hP hD hS hl)
theorem z_goto (C : zC E cc nL own Ts rm t) {off : Int} (tgt : Nat) (hdg : decode cc pc = .ok (.goto off, 3)) (ht : (pc : Int) + off = (tgt : Int)) (kk : zG E nL ce sl w tgt lv stk) : zG E nL ce sl w pc lv stk := fun H locs ls hP hD hS hl => lv_goto C.ex C.cd hdg ht (kk H locs ls hP hD hS hl)
theorem z_if_eq (C : zC E cc nL own Ts rm t) {x : Int32} {off : Int} (tgt : Nat) (hdg : decode cc pc = .ok (.ifCond .eq off, 3)) (ht : (pc : Int) + off = (tgt : Int)) (kt : x = 0 → zG E nL ce sl w tgt lv stk) (kf : ¬ x = 0 → zG E nL ce sl w (pc + 3) lv stk) : zG E nL ce sl w pc lv (.int x :: stk) := fun H locs ls hP hD hS hl => lv_if_eq C.ex C.cd hdg ht (fun q => kt q H locs ls hP hD hS hl) (fun q => kf q H locs ls hP hD hS hl)
theorem z_icmp_eq (C : zC E cc nL own Ts rm t) {x y : Int32} {off : Int} (tgt : Nat) (hdg : decode cc pc = .ok (.if_icmp .eq off, 3)) (ht : (pc : Int) + off = (tgt : Int)) (kt : x = y → zG E nL ce sl w tgt lv stk) (kf : ¬ x = y → zG E nL ce sl w (pc + 3) lv stk) : zG E nL ce sl w pc lv (.int y :: .int x :: stk) := fun H locs ls hP hD hS hl => lv_icmp_eq C.ex C.cd hdg ht (fun q => kt q H locs ls hP hD hS hl) (fun q => kf q H locs ls hP hD hS hl)
theorem z_lcmp_eq (C : zC E cc nL own Ts rm t) {x y : Int64} {off : Int} (tgt : Nat) (hdc : decode cc pc = .ok (.lcmp, 1)) (hdg : decode cc (pc + 1) = .ok (.ifCond .eq off, 3)) (ht : ((pc + 1 : Nat) : Int) + off = (tgt : Int)) (kt : x = y → zG E nL ce sl w tgt lv stk) (kf : ¬ x = y → zG E nL ce sl w (pc + 1 + 3) lv stk) : zG E nL ce sl w pc lv (.long y :: .long x :: stk) := fun H locs ls hP hD hS hl => W.lcmp C.ex C.cd hdc (lv_if_eq C.ex C.cd hdg ht (fun q => kt ((lg_cmp_eq x y).mp q) H locs ls hP hD hS hl) (fun q => kf (fun z => q ((lg_cmp_eq x y).mpr z)) H locs ls hP hD hS hl))
theorem z_if_ne (C : zC E cc nL own Ts rm t) {x : Int32} {off : Int} (tgt : Nat) (hdg : decode cc pc = .ok (.ifCond .ne off, 3)) (ht : (pc : Int) + off = (tgt : Int)) (kt : ¬ x = 0 → zG E nL ce sl w tgt lv stk) (kf : x = 0 → zG E nL ce sl w (pc + 3) lv stk) : zG E nL ce sl w pc lv (.int x :: stk) := fun H locs ls hP hD hS hl => lv_if_ne C.ex C.cd hdg ht (fun q => kt q H locs ls hP hD hS hl) (fun q => kf q H locs ls hP hD hS hl)
theorem z_icmp_ne (C : zC E cc nL own Ts rm t) {x y : Int32} {off : Int} (tgt : Nat) (hdg : decode cc pc = .ok (.if_icmp .ne off, 3)) (ht : (pc : Int) + off = (tgt : Int)) (kt : ¬ x = y → zG E nL ce sl w tgt lv stk) (kf : x = y → zG E nL ce sl w (pc + 3) lv stk) : zG E nL ce sl w pc lv (.int y :: .int x :: stk) := fun H locs ls hP hD hS hl => lv_icmp_ne C.ex C.cd hdg ht (fun q => kt q H locs ls hP hD hS hl) (fun q => kf q H locs ls hP hD hS hl)
theorem z_lcmp_ne (C : zC E cc nL own Ts rm t) {x y : Int64} {off : Int} (tgt : Nat) (hdc : decode cc pc = .ok (.lcmp, 1)) (hdg : decode cc (pc + 1) = .ok (.ifCond .ne off, 3)) (ht : ((pc + 1 : Nat) : Int) + off = (tgt : Int)) (kt : ¬ x = y → zG E nL ce sl w tgt lv stk) (kf : x = y → zG E nL ce sl w (pc + 1 + 3) lv stk) : zG E nL ce sl w pc lv (.long y :: .long x :: stk) := fun H locs ls hP hD hS hl => W.lcmp C.ex C.cd hdc (lv_if_ne C.ex C.cd hdg ht (fun q => kt (fun z => q ((lg_cmp_eq x y).mpr z)) H locs ls hP hD hS hl) (fun q => kf ((lg_cmp_eq x y).mp q) H locs ls hP hD hS hl))
theorem z_if_lt (C : zC E cc nL own Ts rm t) {x : Int32} {off : Int} (tgt : Nat) (hdg : decode cc pc = .ok (.ifCond .lt off, 3)) (ht : (pc : Int) + off = (tgt : Int)) (kt : x < 0 → zG E nL ce sl w tgt lv stk) (kf : ¬ x < 0 → zG E nL ce sl w (pc + 3) lv stk) : zG E nL ce sl w pc lv (.int x :: stk) := fun H locs ls hP hD hS hl => lv_if_lt C.ex C.cd hdg ht (fun q => kt q H locs ls hP hD hS hl) (fun q => kf q H locs ls hP hD hS hl)
theorem z_icmp_lt (C : zC E cc nL own Ts rm t) {x y : Int32} {off : Int} (tgt : Nat) (hdg : decode cc pc = .ok (.if_icmp .lt off, 3)) (ht : (pc : Int) + off = (tgt : Int)) (kt : x < y → zG E nL ce sl w tgt lv stk) (kf : ¬ x < y → zG E nL ce sl w (pc + 3) lv stk) : zG E nL ce sl w pc lv (.int y :: .int x :: stk) := fun H locs ls hP hD hS hl => lv_icmp_lt C.ex C.cd hdg ht (fun q => kt q H locs ls hP hD hS hl) (fun q => kf q H locs ls hP hD hS hl)
theorem z_lcmp_lt (C : zC E cc nL own Ts rm t) {x y : Int64} {off : Int} (tgt : Nat) (hdc : decode cc pc = .ok (.lcmp, 1)) (hdg : decode cc (pc + 1) = .ok (.ifCond .lt off, 3)) (ht : ((pc + 1 : Nat) : Int) + off = (tgt : Int)) (kt : x < y → zG E nL ce sl w tgt lv stk) (kf : ¬ x < y → zG E nL ce sl w (pc + 1 + 3) lv stk) : zG E nL ce sl w pc lv (.long y :: .long x :: stk) := fun H locs ls hP hD hS hl => W.lcmp C.ex C.cd hdc (lv_if_lt C.ex C.cd hdg ht (fun q => kt ((lg_cmp_lt x y).mp q) H locs ls hP hD hS hl) (fun q => kf (fun z => q ((lg_cmp_lt x y).mpr z)) H locs ls hP hD hS hl))
theorem z_if_ge (C : zC E cc nL own Ts rm t) {x : Int32} {off : Int} (tgt : Nat) (hdg : decode cc pc = .ok (.ifCond .ge off, 3)) (ht : (pc : Int) + off = (tgt : Int)) (kt : 0 ≤ x → zG E nL ce sl w tgt lv stk) (kf : ¬ 0 ≤ x → zG E nL ce sl w (pc + 3) lv stk) : zG E nL ce sl w pc lv (.int x :: stk) := fun H locs ls hP hD hS hl => lv_if_ge C.ex C.cd hdg ht (fun q => kt q H locs ls hP hD hS hl) (fun q => kf q H locs ls hP hD hS hl)
theorem z_icmp_ge (C : zC E cc nL own Ts rm t) {x y : Int32} {off : Int} (tgt : Nat) (hdg : decode cc pc = .ok (.if_icmp .ge off, 3)) (ht : (pc : Int) + off = (tgt : Int)) (kt : y ≤ x → zG E nL ce sl w tgt lv stk) (kf : ¬ y ≤ x → zG E nL ce sl w (pc + 3) lv stk) : zG E nL ce sl w pc lv (.int y :: .int x :: stk) := fun H locs ls hP hD hS hl => lv_icmp_ge C.ex C.cd hdg ht (fun q => kt q H locs ls hP hD hS hl) (fun q => kf q H locs ls hP hD hS hl)
theorem z_lcmp_ge (C : zC E cc nL own Ts rm t) {x y : Int64} {off : Int} (tgt : Nat) (hdc : decode cc pc = .ok (.lcmp, 1)) (hdg : decode cc (pc + 1) = .ok (.ifCond .ge off, 3)) (ht : ((pc + 1 : Nat) : Int) + off = (tgt : Int)) (kt : y ≤ x → zG E nL ce sl w tgt lv stk) (kf : ¬ y ≤ x → zG E nL ce sl w (pc + 1 + 3) lv stk) : zG E nL ce sl w pc lv (.long y :: .long x :: stk) := fun H locs ls hP hD hS hl => W.lcmp C.ex C.cd hdc (lv_if_ge C.ex C.cd hdg ht (fun q => kt ((lg_cmp_ge x y).mp q) H locs ls hP hD hS hl) (fun q => kf (fun z => q ((lg_cmp_ge x y).mpr z)) H locs ls hP hD hS hl))
theorem z_if_gt (C : zC E cc nL own Ts rm t) {x : Int32} {off : Int} (tgt : Nat) (hdg : decode cc pc = .ok (.ifCond .gt off, 3)) (ht : (pc : Int) + off = (tgt : Int)) (kt : 0 < x → zG E nL ce sl w tgt lv stk) (kf : ¬ 0 < x → zG E nL ce sl w (pc + 3) lv stk) : zG E nL ce sl w pc lv (.int x :: stk) := fun H locs ls hP hD hS hl => lv_if_gt C.ex C.cd hdg ht (fun q => kt q H locs ls hP hD hS hl) (fun q => kf q H locs ls hP hD hS hl)
theorem z_icmp_gt (C : zC E cc nL own Ts rm t) {x y : Int32} {off : Int} (tgt : Nat) (hdg : decode cc pc = .ok (.if_icmp .gt off, 3)) (ht : (pc : Int) + off = (tgt : Int)) (kt : y < x → zG E nL ce sl w tgt lv stk) (kf : ¬ y < x → zG E nL ce sl w (pc + 3) lv stk) : zG E nL ce sl w pc lv (.int y :: .int x :: stk) := fun H locs ls hP hD hS hl => lv_icmp_gt C.ex C.cd hdg ht (fun q => kt q H locs ls hP hD hS hl) (fun q => kf q H locs ls hP hD hS hl)
theorem z_lcmp_gt (C : zC E cc nL own Ts rm t) {x y : Int64} {off : Int} (tgt : Nat) (hdc : decode cc pc = .ok (.lcmp, 1)) (hdg : decode cc (pc + 1) = .ok (.ifCond .gt off, 3)) (ht : ((pc + 1 : Nat) : Int) + off = (tgt : Int)) (kt : y < x → zG E nL ce sl w tgt lv stk) (kf : ¬ y < x → zG E nL ce sl w (pc + 1 + 3) lv stk) : zG E nL ce sl w pc lv (.long y :: .long x :: stk) := fun H locs ls hP hD hS hl => W.lcmp C.ex C.cd hdc (lv_if_gt C.ex C.cd hdg ht (fun q => kt ((lg_cmp_gt x y).mp q) H locs ls hP hD hS hl) (fun q => kf (fun z => q ((lg_cmp_gt x y).mpr z)) H locs ls hP hD hS hl))
theorem z_if_le (C : zC E cc nL own Ts rm t) {x : Int32} {off : Int} (tgt : Nat) (hdg : decode cc pc = .ok (.ifCond .le off, 3)) (ht : (pc : Int) + off = (tgt : Int)) (kt : x ≤ 0 → zG E nL ce sl w tgt lv stk) (kf : ¬ x ≤ 0 → zG E nL ce sl w (pc + 3) lv stk) : zG E nL ce sl w pc lv (.int x :: stk) := fun H locs ls hP hD hS hl => lv_if_le C.ex C.cd hdg ht (fun q => kt q H locs ls hP hD hS hl) (fun q => kf q H locs ls hP hD hS hl)
theorem z_icmp_le (C : zC E cc nL own Ts rm t) {x y : Int32} {off : Int} (tgt : Nat) (hdg : decode cc pc = .ok (.if_icmp .le off, 3)) (ht : (pc : Int) + off = (tgt : Int)) (kt : x ≤ y → zG E nL ce sl w tgt lv stk) (kf : ¬ x ≤ y → zG E nL ce sl w (pc + 3) lv stk) : zG E nL ce sl w pc lv (.int y :: .int x :: stk) := fun H locs ls hP hD hS hl => lv_icmp_le C.ex C.cd hdg ht (fun q => kt q H locs ls hP hD hS hl) (fun q => kf q H locs ls hP hD hS hl)
theorem z_lcmp_le (C : zC E cc nL own Ts rm t) {x y : Int64} {off : Int} (tgt : Nat) (hdc : decode cc pc = .ok (.lcmp, 1)) (hdg : decode cc (pc + 1) = .ok (.ifCond .le off, 3)) (ht : ((pc + 1 : Nat) : Int) + off = (tgt : Int)) (kt : x ≤ y → zG E nL ce sl w tgt lv stk) (kf : ¬ x ≤ y → zG E nL ce sl w (pc + 1 + 3) lv stk) : zG E nL ce sl w pc lv (.long y :: .long x :: stk) := fun H locs ls hP hD hS hl => W.lcmp C.ex C.cd hdc (lv_if_le C.ex C.cd hdg ht (fun q => kt ((lg_cmp_le x y).mp q) H locs ls hP hD hS hl) (fun q => kf (fun z => q ((lg_cmp_le x y).mpr z)) H locs ls hP hD hS hl))
theorem z_swIn (C : zC E cc nL own Ts rm t) {dflt lo hi : Int} {offs : Array Int} {len : Nat} {x : Int32} {off : Int} (v : Int32) (tgt : Nat) (hdg : decode cc pc = .ok (.tableswitch dflt lo hi offs, len)) (hx : x = v) (h1 : ¬ v.toInt < lo) (h2 : ¬ hi < v.toInt) (ho : offs[(v.toInt - lo).toNat]? = some off) (ht : (pc : Int) + off = (tgt : Int)) (kk : zG E nL ce sl w tgt lv stk) : zG E nL ce sl w pc lv (.int x :: stk) := fun H locs ls hP hD hS hl => by
  subst hx
  exact lv_tableIn C.ex C.cd hdg h1 h2 ho ht (kk H locs ls hP hD hS hl)
theorem z_swOut (C : zC E cc nL own Ts rm t) {dflt lo hi : Int} {offs : Array Int} {len : Nat} {x : Int32} (tgt : Nat) (hdg : decode cc pc = .ok (.tableswitch dflt lo hi offs, len)) (h : ∀ k : Int, lo ≤ k → k ≤ hi → ¬ x = Int32.ofInt k) (ht : (pc : Int) + dflt = (tgt : Int)) (kk : zG E nL ce sl w tgt lv stk) : zG E nL ce sl w pc lv (.int x :: stk) := fun H locs ls hP hD hS hl => by
  refine lv_tableOut C.ex C.cd hdg ?_ ht (kk H locs ls hP hD hS hl)
  rcases (show x.toInt < lo ∨ lo ≤ x.toInt by omega) with q | q
  · exact Or.inl q
  · rcases (show hi < x.toInt ∨ x.toInt ≤ hi by omega) with q2 | q2
    · exact Or.inr q2
    · exact absurd (by rw [Int32.ofInt_toInt]) (h x.toInt q q2)
-- fields
theorem z_get (C : zC E cc nL own Ts rm t) {Cn : String} {T : u_T} {N ci index b : Nat} (hin : ∀ w ∈ u_ws Cn T N, w ∈ Ts) (q0 : Nat) {fs : List Value} (he : w[q0]? = some (b, .inr (ci, fs))) (hc : vwCl[ci]? = some (Cn, T, N)) (k : Nat) (hk : k < N) (hm : Cond.fieldLink own index (T k).1 (T k).2.1 (T k).2.2.1 ∈ Ts) {v : Value} (hv : fs[k]? = some v) (hdg : decode cc pc = .ok (.getfield index, 3)) (kk : zG E nL ce sl w (pc + 3) lv (v :: stk)) : zG E nL ce sl w pc lv (.ref b :: stk) := fun H locs ls hP hD hS hl => va_get C.ex C.cd C.ts hin C.ow C.k hP q0 he hc k hk (C.ts _ hm) (fun _ h9 => h9) hv hdg (kk H locs ls hP hD hS hl)
theorem z_put (C : zC E cc nL own Ts rm t) {Cn : String} {T : u_T} {N ci index b : Nat} (hin : ∀ w ∈ u_ws Cn T N, w ∈ Ts) (ty0 : Nat → FieldType) (hty : ∀ k, k < N → parseFieldDescriptor (T k).2.2.1 = some (ty0 k)) (hnm : ∀ a, a < N → ∀ b, b < N → a ≠ b → (T a).2.1 ≠ (T b).2.1) (q0 : Nat) {fs : List Value} (he : w[q0]? = some (b, .inr (ci, fs))) (hc : vwCl[ci]? = some (Cn, T, N)) (k : Nat) (hk : k < N) (hm : Cond.fieldLink own index (T k).1 (T k).2.1 (T k).2.2.1 ∈ Ts) (hfin : (T k).2.2.2 = false) {v : Value} (hn : narrow (ty0 k) v = v) (hfit : fits (ty0 k) v = true) (hl : k < fs.length) {w' : va_W} (hw : w.set q0 (b, .inr (ci, fs.set k v)) = w') (hdg : decode cc pc = .ok (.putfield index, 3)) (kk : zG E nL ce sl w' (pc + 3) lv stk) : zG E nL ce sl w pc lv (v :: .ref b :: stk) := by
  subst hw
  exact fun H locs ls hP hD hS hl2 => va_put C.ex C.cd C.ts hin ty0 hty hnm C.ow C.k hP hD hS q0 he hc k hk (C.ts _ hm) (fun _ h9 => h9) hfin (hty k hk) hn hfit hl hdg (fun H1 locs1 hP hD hS => kk H1 locs1 ls hP hD hS hl2)
-- arrays
theorem z_iald (C : zC E cc nL own Ts rm t) {b n : Nat} {f : Nat → Int32} (q0 : Nat) (ha : w[q0]? = some (b, .inl (t.1, n, .inl f))) {i : Int32} (hin : ixok i n = true) (hdg : decode cc pc = .ok (.iaload, 1)) (kk : zG E nL ce sl w (pc + 1) lv (.int (f i.toNatClampNeg) :: stk)) : zG E nL ce sl w pc lv (.int i :: .ref b :: stk) := fun H locs ls hP hD hS hl => va_iald C.ex C.cd C.k hP q0 0 ha rfl (ixok_in hin) hdg (kk H locs ls hP hD hS hl)
theorem z_lald (C : zC E cc nL own Ts rm t) {b n : Nat} {f : Nat → Int64} (q0 : Nat) (ha : w[q0]? = some (b, .inl (t.2.1, n, .inr (.inl f)))) {i : Int32} (hin : ixok i n = true) (hdg : decode cc pc = .ok (.laload, 1)) (kk : zG E nL ce sl w (pc + 1) lv (.long (f i.toNatClampNeg) :: stk)) : zG E nL ce sl w pc lv (.int i :: .ref b :: stk) := fun H locs ls hP hD hS hl => va_lald C.ex C.cd C.k hP q0 1 ha rfl (ixok_in hin) hdg (kk H locs ls hP hD hS hl)
theorem z_zald (C : zC E cc nL own Ts rm t) {b n : Nat} {f : Nat → Int32} (q0 : Nat) (ha : w[q0]? = some (b, .inl (t.2.2, n, .inl f))) {i : Int32} (hin : ixok i n = true) (hdg : decode cc pc = .ok (.baload, 1)) (kk : zG E nL ce sl w (pc + 1) lv (.int (f i.toNatClampNeg) :: stk)) : zG E nL ce sl w pc lv (.int i :: .ref b :: stk) := fun H locs ls hP hD hS hl => va_zald C.ex C.cd C.k hP q0 2 ha rfl (ixok_in hin) hdg (kk H locs ls hP hD hS hl)
theorem z_iast (C : zC E cc nL own Ts rm t) {b n : Nat} {f : Nat → Int32} (q0 : Nat) (ha : w[q0]? = some (b, .inl (t.1, n, .inl f))) {i x : Int32} (hin : ixok i n = true) {w' : va_W} (hw : w.set q0 (b, .inl (t.1, n, .inl (upd f i.toNatClampNeg x))) = w') (hdg : decode cc pc = .ok (.iastore, 1)) (kk : zG E nL ce sl w' (pc + 1) lv stk) : zG E nL ce sl w pc lv (.int x :: .int i :: .ref b :: stk) := by
  subst hw
  exact fun H locs ls hP hD hS hl => va_iast C.ex C.cd C.k hP hD hS q0 0 ha rfl (ixok_in hin) hdg (fun H1 locs1 hP hD hS => kk H1 locs1 ls hP hD hS hl)
theorem z_last (C : zC E cc nL own Ts rm t) {b n : Nat} {f : Nat → Int64} (q0 : Nat) (ha : w[q0]? = some (b, .inl (t.2.1, n, .inr (.inl f)))) {i : Int32} {x : Int64} (hin : ixok i n = true) {w' : va_W} (hw : w.set q0 (b, .inl (t.2.1, n, .inr (.inl (vp_updL f i.toNatClampNeg x)))) = w') (hdg : decode cc pc = .ok (.lastore, 1)) (kk : zG E nL ce sl w' (pc + 1) lv stk) : zG E nL ce sl w pc lv (.long x :: .int i :: .ref b :: stk) := by
  subst hw
  exact fun H locs ls hP hD hS hl => va_last C.ex C.cd C.k hP hD hS q0 1 ha rfl (ixok_in hin) hdg (fun H1 locs1 hP hD hS => kk H1 locs1 ls hP hD hS hl)
theorem z_zast (C : zC E cc nL own Ts rm t) {b n : Nat} {f : Nat → Int32} (q0 : Nat) (ha : w[q0]? = some (b, .inl (t.2.2, n, .inl f))) {i x : Int32} (hin : ixok i n = true) {w' : va_W} (hw : w.set q0 (b, .inl (t.2.2, n, .inl (upd f i.toNatClampNeg (vp_nar .boolean x)))) = w') (hdg : decode cc pc = .ok (.bastore, 1)) (kk : zG E nL ce sl w' (pc + 1) lv stk) : zG E nL ce sl w pc lv (.int x :: .int i :: .ref b :: stk) := by
  subst hw
  exact fun H locs ls hP hD hS hl => va_zast C.ex C.cd C.k hP hD hS q0 2 ha rfl (ixok_in hin) hdg (fun H1 locs1 hP hD hS => kk H1 locs1 ls hP hD hS hl)
theorem z_alen (C : zC E cc nL own Ts rm t) {b : Nat} (q0 t0 : Nat) {cA : ClassId} {x : vp_A} (ha : w[q0]? = some (b, .inl (cA, x))) {ty : FieldType} (ht : (zty t)[t0]? = some (cA, ty)) (v : Int32) (hv : Int32.ofNat x.1 = v) (hdg : decode cc pc = .ok (.arraylength, 1)) (kk : zG E nL ce sl w (pc + 1) lv (.int v :: stk)) : zG E nL ce sl w pc lv (.ref b :: stk) := fun H locs ls hP hD hS hl => va_alen C.ex C.cd C.k hP q0 t0 ha ht hv hdg (kk H locs ls hP hD hS hl)
-- the machine's own Math
theorem z_mmax (C : zC E cc nL own Ts rm t) {index : Nat} (h1 : Cond.methodLink own index Lib.Math.max.name ∈ Ts) (h2 : Cond.static Lib.Math.max.name ∈ Ts) (h3 : Cond.initialized "java/lang/Math" ∈ Ts) (h4 : Cond.code Lib.Math.max.name Lib.Math.max.code 2 (some .int) ∈ Ts) (hf : 1 ≤ rm.frames) (hlo : (stk.map fun v => v.category).sum + 13 ≤ rm.locals) (hc : ce ≤ rm.cells) (hs : sl ≤ rm.slots) {x y : Int32} (hdg : decode cc pc = .ok (.invokestatic index, 3)) (kk : zG E nL ce sl w (pc + 3) lv (.int (if x < y then y else x) :: stk)) : zG E nL ce sl w pc lv (.int y :: .int x :: stk) := fun H locs ls hP hD hS hl => va_mmax C.ex C.cd (by rw [C.ml]; exact hl.1.symm) C.ow (C.ts _ h1) (C.ts _ h2) (C.ts _ h3) (C.ts _ h4) (by rw [C.rm]; exact hf) (by rw [C.rm]; exact hlo) (by rw [C.rm]; exact hc) (by rw [C.rm]; exact hs) hdg (kk H locs ls hP hD hS hl)
theorem z_mmin (C : zC E cc nL own Ts rm t) {index : Nat} (h1 : Cond.methodLink own index Lib.Math.min.name ∈ Ts) (h2 : Cond.static Lib.Math.min.name ∈ Ts) (h3 : Cond.initialized "java/lang/Math" ∈ Ts) (h4 : Cond.code Lib.Math.min.name Lib.Math.min.code 2 (some .int) ∈ Ts) (hf : 1 ≤ rm.frames) (hlo : (stk.map fun v => v.category).sum + 13 ≤ rm.locals) (hc : ce ≤ rm.cells) (hs : sl ≤ rm.slots) {x y : Int32} (hdg : decode cc pc = .ok (.invokestatic index, 3)) (kk : zG E nL ce sl w (pc + 3) lv (.int (if y < x then y else x) :: stk)) : zG E nL ce sl w pc lv (.int y :: .int x :: stk) := fun H locs ls hP hD hS hl => va_mmin C.ex C.cd (by rw [C.ml]; exact hl.1.symm) C.ow (C.ts _ h1) (C.ts _ h2) (C.ts _ h3) (C.ts _ h4) (by rw [C.rm]; exact hf) (by rw [C.rm]; exact hlo) (by rw [C.rm]; exact hc) (by rw [C.rm]; exact hs) hdg (kk H locs ls hP hD hS hl)
theorem z_mabsl (C : zC E cc nL own Ts rm t) {index : Nat} (h1 : Cond.methodLink own index Lib.MathLoose.abs_long.x ∈ Ts) (h2 : Cond.static Lib.MathLoose.abs_long.x ∈ Ts) (h3 : Cond.initialized "java/lang/Math" ∈ Ts) (h4 : Cond.code Lib.MathLoose.abs_long.x Lib.MathLoose.abs_long.code 2 (some .long) ∈ Ts) (hf : 1 ≤ rm.frames) (hlo : (stk.map fun v => v.category).sum + 13 ≤ rm.locals) (hc : ce ≤ rm.cells) (hs : sl ≤ rm.slots) {x : Int64} (hdg : decode cc pc = .ok (.invokestatic index, 3)) (kk : zG E nL ce sl w (pc + 3) lv (.long (if 0 < x then x else -x) :: stk)) : zG E nL ce sl w pc lv (.long x :: stk) := fun H locs ls hP hD hS hl => va_mabs_long C.ex C.cd (by rw [C.ml]; exact hl.1.symm) C.ow (C.ts _ h1) (C.ts _ h2) (C.ts _ h3) (C.ts _ h4) (by rw [C.rm]; exact hf) (by rw [C.rm]; exact hlo) (by rw [C.rm]; exact hc) (by rw [C.rm]; exact hs) hdg (kk H locs ls hP hD hS hl)
theorem z_mminl (C : zC E cc nL own Ts rm t) {index : Nat} (h1 : Cond.methodLink own index Lib.MathLoose.min_long.x ∈ Ts) (h2 : Cond.static Lib.MathLoose.min_long.x ∈ Ts) (h3 : Cond.initialized "java/lang/Math" ∈ Ts) (h4 : Cond.code Lib.MathLoose.min_long.x Lib.MathLoose.min_long.code 4 (some .long) ∈ Ts) (hf : 1 ≤ rm.frames) (hlo : (stk.map fun v => v.category).sum + 15 ≤ rm.locals) (hc : ce ≤ rm.cells) (hs : sl ≤ rm.slots) {x y : Int64} (hdg : decode cc pc = .ok (.invokestatic index, 3)) (kk : zG E nL ce sl w (pc + 3) lv (.long (if y < x then y else x) :: stk)) : zG E nL ce sl w pc lv (.long y :: .long x :: stk) := fun H locs ls hP hD hS hl => va_mmin_long C.ex C.cd (by rw [C.ml]; exact hl.1.symm) C.ow (C.ts _ h1) (C.ts _ h2) (C.ts _ h3) (C.ts _ h4) (by rw [C.rm]; exact hf) (by rw [C.rm]; exact hlo) (by rw [C.rm]; exact hc) (by rw [C.rm]; exact hs) hdg (kk H locs ls hP hD hS hl)
theorem z_copyl (C : zC E cc nL own Ts rm t) {index : Nat} (h1 : Cond.methodLink own index arraycopyName ∈ Ts) (h2 : Cond.native arraycopyName ∈ Ts) (h3 : Cond.static arraycopyName ∈ Ts) (h4 : Cond.initialized "java/lang/System" ∈ Ts) (q0 q1 : Nat) {b0 b n0 n1 : Nat} {f g : Nat → Int64} (ha0 : w[q0]? = some (b0, .inl (t.2.1, n0, .inr (.inl f)))) (ha1 : w[q1]? = some (b, .inl (t.2.1, n1, .inr (.inl g)))) {sp dp n : Int32} (hs1 : ¬ sp < 0) (hs2 : ¬ dp < 0) (hs3 : ¬ n < 0) (hs4 : sp.toNatClampNeg + n.toNatClampNeg ≤ n0) (hs5 : dp.toNatClampNeg + n.toNatClampNeg ≤ n1) (hf : 1 ≤ rm.frames) (hlo : (stk.map fun v => v.category).sum + (nativeFrameWords "java/lang/System" "arraycopy" 5 + 11) ≤ rm.locals) {w' : va_W} (hw : w.set q1 (b, .inl (t.2.1, n1, .inr (.inl (va_cpy f g sp.toNatClampNeg dp.toNatClampNeg n.toNatClampNeg)))) = w') (hdg : decode cc pc = .ok (.invokestatic index, 3)) (kk : zG E nL ce sl w' (pc + 3) lv stk) : zG E nL ce sl w pc lv (.int n :: .int dp :: .ref b :: .int sp :: .ref b0 :: stk) := by
  subst hw
  exact fun H locs ls hP hD hS hl => va_copyl C.ex C.cd (by rw [C.ml]; exact hl.1.symm) C.ow (C.ts _ h1) (C.ts _ h2) (C.ts _ h3) (C.ts _ h4) C.k hP hD hS q0 q1 1 1 ha0 ha1 rfl rfl rfl hs1 hs2 hs3 hs4 hs5 (fun _ _ => rfl) (by rw [C.rm]; exact hf) (by rw [C.rm]; exact hlo) hdg (fun H1 locs1 hP hD hS => kk H1 locs1 ls hP hD hS hl)
-- the constant arrays
theorem z_low (C : zC E cc nL own Ts rm t) {i1 : Nat} (hm : Cond.fieldLink own i1 RX7 "LOW" "[I" ∈ Ts) (hdg : decode cc pc = .ok (.getstatic i1, 3)) (kk : ∀ t1 : Nat, va_T .int t1 7 (fun j => .int (zlow j)) (ze_A E) (ze_s E) (ze_s E).heap → zG E nL ce sl w (pc + 3) lv (.ref t1 :: stk)) : zG E nL ce sl w pc lv stk := fun H locs ls hP hD hS hl => by
  obtain ⟨t1, t2, h1, h2, h3, h4⟩ := C.tt
  exact va_gets C.ex C.cd h1 hS C.ow (C.ts _ hm) (fun _ h9 => h9) hdg (kk t1 h2 H locs ls hP hD hS hl)
theorem z_high (C : zC E cc nL own Ts rm t) {i1 : Nat} (hm : Cond.fieldLink own i1 RX7 "HIGH" "[I" ∈ Ts) (hdg : decode cc pc = .ok (.getstatic i1, 3)) (kk : ∀ t1 : Nat, va_T .int t1 7 (fun j => .int (zhigh j)) (ze_A E) (ze_s E) (ze_s E).heap → zG E nL ce sl w (pc + 3) lv (.ref t1 :: stk)) : zG E nL ce sl w pc lv stk := fun H locs ls hP hD hS hl => by
  obtain ⟨t1, t2, h1, h2, h3, h4⟩ := C.tt
  exact va_gets C.ex C.cd h3 hS C.ow (C.ts _ hm) (fun _ h9 => h9) hdg (kk t2 h4 H locs ls hP hD hS hl)
theorem z_tald (C : zC E cc nL own Ts rm t) {t1 N : Nat} {f : Nat → Int32} (hT : va_T .int t1 N (fun j => .int (f j)) (ze_A E) (ze_s E) (ze_s E).heap) {i : Int32} (hin : ixok i N = true) (hdg : decode cc pc = .ok (.iaload, 1)) (kk : zG E nL ce sl w (pc + 1) lv (.int (f i.toNatClampNeg) :: stk)) : zG E nL ce sl w pc lv (.int i :: .ref t1 :: stk) := fun H locs ls hP hD hS hl => va_ti C.ex C.cd hT hS (ixok_in hin) rfl hdg (kk H locs ls hP hD hS hl)
end ZR
/-! contracts: method y with arguments av in the world w answers r, and the world is w' -/
def zPre (D : va_G) (t : zTy) (av : List Value) (w : va_W) (sz : Nat) : Array Value → State → Prop := va_Pc av (fun U => U.heap.size = sz ∧ va_P D vwCl w U.heap ∧ va_K D vwCl (zty t) U ∧ va_D (fun _ => True) w ∧ zN U ∧ zT (va_A w sz) U U.heap)
def zBx (D : va_G) (t : zTy) (w w' : va_W) (sz : Nat) : Unit → State → Prop := fun _ u => va_P D vwCl w' u.heap ∧ va_K D vwCl (zty t) u ∧ va_D (va_A w sz) w'
def zQi (D : va_G) (t : zTy) (w w' : va_W) (sz : Nat) (r : Int32) : Array Value → State → Outcome → State → Prop := va_Qi (fun r' (_ : Unit) => r' = r) (zBx D t w w' sz) (va_A w sz)
def zQl (D : va_G) (t : zTy) (w w' : va_W) (sz : Nat) (r : Int64) : Array Value → State → Outcome → State → Prop := va_Ql (fun r' (_ : Unit) => r' = r) (zBx D t w w' sz) (va_A w sz)
def zQv (D : va_G) (t : zTy) (w w' : va_W) (sz : Nat) : Array Value → State → Outcome → State → Prop := va_Qv (fun (_ : Unit) => True) (zBx D t w w' sz) (va_A w sz)
abbrev zrm (fr lo : Nat) : Room := { frames := fr, cells := 0, slots := 0, locals := lo }
def zMi (l : Launch) (y : MethodName) (ws : List Cond) (fr lo : Nat) (D : va_G) (t : zTy) (av : List Value) (w : va_W) (r : Int32) (w' : va_W) : Prop := ∀ sz : Nat, Met l y ws (zrm fr lo) (zPre D t av w sz) (zQi D t w w' sz r) 0 0 (va_A w sz)
def zMl (l : Launch) (y : MethodName) (ws : List Cond) (fr lo : Nat) (D : va_G) (t : zTy) (av : List Value) (w : va_W) (r : Int64) (w' : va_W) : Prop := ∀ sz : Nat, Met l y ws (zrm fr lo) (zPre D t av w sz) (zQl D t w w' sz r) 0 0 (va_A w sz)
def zMv (l : Launch) (y : MethodName) (ws : List Cond) (fr lo : Nat) (D : va_G) (t : zTy) (av : List Value) (w : va_W) (w' : va_W) : Prop := ∀ sz : Nat, Met l y ws (zrm fr lo) (zPre D t av w sz) (zQv D t w w' sz) 0 0 (va_A w sz)
/-- the end of a method: with r on the stack in the world w', at a return -/
def zRi (E : zE) (cc : ByteArray) (nL : Nat) (r : Int32) (w' : va_W) : Prop := ∀ (pc : Nat) (lv : List (Nat × Value)), decode cc pc = .ok (.ireturn, 1) → zG E nL 0 0 w' pc lv [.int r]
def zRz (E : zE) (cc : ByteArray) (nL : Nat) (r : Int32) (w' : va_W) : Prop := ∀ (pc : Nat) (lv : List (Nat × Value)), decode cc pc = .ok (.ireturn, 1) → zb01 r = true → zG E nL 0 0 w' pc lv [.int r]
def zRl (E : zE) (cc : ByteArray) (nL : Nat) (r : Int64) (w' : va_W) : Prop := ∀ (pc : Nat) (lv : List (Nat × Value)), decode cc pc = .ok (.lreturn, 1) → zG E nL 0 0 w' pc lv [.long r]
def zRv (E : zE) (cc : ByteArray) (nL : Nat) (w' : va_W) : Prop := ∀ (pc : Nat) (lv : List (Nat × Value)), decode cc pc = .ok (.return_, 1) → zG E nL 0 0 w' pc lv []
section ZM
variable {l : Launch} {y : MethodName} {ws ws' : List Cond} {fr lo : Nat} {D : va_G} {t : zTy} {av : List Value} {w w' : va_W} {cc : ByteArray} {nL : Nat}
theorem z_entry_i {r : Int32} (hy : plainName y.cls = true) (hw : ws = Cond.code y cc nL (some .int) :: ws') (hlen : (lg_sl av).length ≤ nL) (body : ∀ E : zE, ze_l E = l → ze_D E = D → zC E cc nL y.cls ws (zrm fr lo) t → zRi E cc nL r w' → zG E nL 0 0 w 0 (lv_args 0 av) []) : zMi l y ws fr lo D t av w r w' := by
  intro sz
  refine Met.ofW (cc := cc) (maxL := nL) (ret := (some .int)) hy hw ?_
  intro p e s m args below meth c s₁ B hml hv
  obtain ⟨rfl, hsz, hP, hK, hD0, hN, hT⟩ := hv
  subst hsz
  have hA : ∀ q : Nat, s.heap.size ≤ q → va_A w s.heap.size q := fun q h => Or.inr h
  have hl := lv_entry av (n := nL) hlen
  rw [lg_entry_eq]
  have hR : (headSpec ws (zrm fr lo)).room = zrm fr lo := rfl
  refine body (p, l, e, (headSpec ws (zrm fr lo)).room, s, m, av.toArray, below, meth, c, D, va_A w s.heap.size, MQ below (zQi D t w w' s.heap.size r) av.toArray s 0 0 (va_A w s.heap.size)) rfl rfl ⟨B.exec, B.bytes, hml, findClass_of_methodNamed B.named, atoms_spec (ws := ws) B.pre, hK, hA, hN, hT, hR⟩ ?_ s.heap [] _ hP hD0.self va_S.rf hl
  intro pc lv hdg H locs ls hP2 hD2 hS2 hl2
  exact W.iret (Qc := zQi D t w w' s.heap.size r) (free := va_A w s.heap.size) B.exec B.bytes B.returns (fun t ht hW => ⟨⟨_, (), rfl, rfl, by rw [ht]; exact hP2, va_K.moved hW.alike hK, hD2⟩, hS2.F ht⟩) hS2.2.2 hdg B.notSynchronized
theorem z_entry_z {r : Int32} (hy : plainName y.cls = true) (hw : ws = Cond.code y cc nL (some .boolean) :: ws') (hlen : (lg_sl av).length ≤ nL) (body : ∀ E : zE, ze_l E = l → ze_D E = D → zC E cc nL y.cls ws (zrm fr lo) t → zRz E cc nL r w' → zG E nL 0 0 w 0 (lv_args 0 av) []) : zMi l y ws fr lo D t av w r w' := by
  intro sz
  refine Met.ofW (cc := cc) (maxL := nL) (ret := (some .boolean)) hy hw ?_
  intro p e s m args below meth c s₁ B hml hv
  obtain ⟨rfl, hsz, hP, hK, hD0, hN, hT⟩ := hv
  subst hsz
  have hA : ∀ q : Nat, s.heap.size ≤ q → va_A w s.heap.size q := fun q h => Or.inr h
  have hl := lv_entry av (n := nL) hlen
  rw [lg_entry_eq]
  have hR : (headSpec ws (zrm fr lo)).room = zrm fr lo := rfl
  refine body (p, l, e, (headSpec ws (zrm fr lo)).room, s, m, av.toArray, below, meth, c, D, va_A w s.heap.size, MQ below (zQi D t w w' s.heap.size r) av.toArray s 0 0 (va_A w s.heap.size)) rfl rfl ⟨B.exec, B.bytes, hml, findClass_of_methodNamed B.named, atoms_spec (ws := ws) B.pre, hK, hA, hN, hT, hR⟩ ?_ s.heap [] _ hP hD0.self va_S.rf hl
  intro pc lv hdg hr01 H locs ls hP2 hD2 hS2 hl2
  exact W.zret (Qc := zQi D t w w' s.heap.size r) (free := va_A w s.heap.size) (ty := .boolean) B.exec B.bytes B.returns (zb01_n hr01) (fun t ht hW => ⟨⟨_, (), rfl, rfl, by rw [ht]; exact hP2, va_K.moved hW.alike hK, hD2⟩, hS2.F ht⟩) hS2.2.2 hdg B.notSynchronized
theorem z_entry_l {r : Int64} (hy : plainName y.cls = true) (hw : ws = Cond.code y cc nL (some .long) :: ws') (hlen : (lg_sl av).length ≤ nL) (body : ∀ E : zE, ze_l E = l → ze_D E = D → zC E cc nL y.cls ws (zrm fr lo) t → zRl E cc nL r w' → zG E nL 0 0 w 0 (lv_args 0 av) []) : zMl l y ws fr lo D t av w r w' := by
  intro sz
  refine Met.ofW (cc := cc) (maxL := nL) (ret := (some .long)) hy hw ?_
  intro p e s m args below meth c s₁ B hml hv
  obtain ⟨rfl, hsz, hP, hK, hD0, hN, hT⟩ := hv
  subst hsz
  have hA : ∀ q : Nat, s.heap.size ≤ q → va_A w s.heap.size q := fun q h => Or.inr h
  have hl := lv_entry av (n := nL) hlen
  rw [lg_entry_eq]
  have hR : (headSpec ws (zrm fr lo)).room = zrm fr lo := rfl
  refine body (p, l, e, (headSpec ws (zrm fr lo)).room, s, m, av.toArray, below, meth, c, D, va_A w s.heap.size, MQ below (zQl D t w w' s.heap.size r) av.toArray s 0 0 (va_A w s.heap.size)) rfl rfl ⟨B.exec, B.bytes, hml, findClass_of_methodNamed B.named, atoms_spec (ws := ws) B.pre, hK, hA, hN, hT, hR⟩ ?_ s.heap [] _ hP hD0.self va_S.rf hl
  intro pc lv hdg H locs ls hP2 hD2 hS2 hl2
  exact W.lret (Qc := zQl D t w w' s.heap.size r) (free := va_A w s.heap.size) B.exec B.bytes B.returns (fun t ht hW => ⟨⟨_, (), rfl, rfl, by rw [ht]; exact hP2, va_K.moved hW.alike hK, hD2⟩, hS2.F ht⟩) hS2.2.2 hdg B.notSynchronized
theorem z_entry_v (hy : plainName y.cls = true) (hw : ws = Cond.code y cc nL none :: ws') (hlen : (lg_sl av).length ≤ nL) (body : ∀ E : zE, ze_l E = l → ze_D E = D → zC E cc nL y.cls ws (zrm fr lo) t → zRv E cc nL w' → zG E nL 0 0 w 0 (lv_args 0 av) []) : zMv l y ws fr lo D t av w w' := by
  intro sz
  refine Met.ofW (cc := cc) (maxL := nL) (ret := none) hy hw ?_
  intro p e s m args below meth c s₁ B hml hv
  obtain ⟨rfl, hsz, hP, hK, hD0, hN, hT⟩ := hv
  subst hsz
  have hA : ∀ q : Nat, s.heap.size ≤ q → va_A w s.heap.size q := fun q h => Or.inr h
  have hl := lv_entry av (n := nL) hlen
  rw [lg_entry_eq]
  have hR : (headSpec ws (zrm fr lo)).room = zrm fr lo := rfl
  refine body (p, l, e, (headSpec ws (zrm fr lo)).room, s, m, av.toArray, below, meth, c, D, va_A w s.heap.size, MQ below (zQv D t w w' s.heap.size) av.toArray s 0 0 (va_A w s.heap.size)) rfl rfl ⟨B.exec, B.bytes, hml, findClass_of_methodNamed B.named, atoms_spec (ws := ws) B.pre, hK, hA, hN, hT, hR⟩ ?_ s.heap [] _ hP hD0.self va_S.rf hl
  intro pc lv hdg H locs ls hP2 hD2 hS2 hl2
  exact W.vret (Qc := zQv D t w w' s.heap.size) (free := va_A w s.heap.size) B.exec B.bytes B.returns (fun t ht hW => ⟨⟨(), rfl, trivial, by rw [ht]; exact hP2, va_K.moved hW.alike hK, hD2⟩, hS2.F ht⟩) hS2.2.2 hdg B.notSynchronized
end ZM
section ZCALL
variable {E : zE} {cc : ByteArray} {nL : Nat} {own : String} {Ts : List Cond} {rm : Room} {t : zTy} {ce sl pc : Nat} {w w' : va_W} {lv : List (Nat × Value)} {stk : List Value}
theorem z_preB {D : va_G} {t : zTy} {av : List Value} {w : va_W} {sz : Nat} : FrameBlind (zPre D t av w sz) := by
  intro a U g mk q
  obtain ⟨q0, q1, qP, qK, qD, qN, qT⟩ := q
  exact ⟨q0, q1, qP, va_K.moved (u := U) (U := U.calling g mk a) (Vm.Alike.refl U.vm) qK, qD, zN.same (u := U) (U := U.calling g mk a) rfl qN, zT.moved (u := U) (U := U.calling g mk a) (Vm.Alike.refl U.vm) qT⟩
theorem z_free (C : zC E cc nL own Ts rm t) {H : Heap} {locs : List Loc} (hD : va_D (ze_A E) w) (hS : va_S (ze_A E) (ze_s E).heap H locs) : ∀ q, va_A w H.size q → ze_A E q := by
  intro q h
  rcases h with ⟨k, e, h⟩ | h
  · exact hD.2 k (q, e) h
  · exact C.hA q (Nat.le_trans hS.1 h)
theorem z_pre (C : zC E cc nL own Ts rm t) {av : List Value} {H : Heap} {locs : List Loc} (hP : va_P (ze_D E) vwCl w H) (hD : va_D (ze_A E) w) (hS : va_S (ze_A E) (ze_s E).heap H locs) : ∀ U : State, U.heap = H → (ze_s E).WarmedH U.vm → zPre (ze_D E) t av w H.size av.toArray U := by
  intro U hU hW
  refine ⟨rfl, by rw [hU], by rw [hU]; exact hP, va_K.moved hW.alike C.k, hD.weaken (fun _ _ _ _ => trivial), zN.warm hW C.n, ?_⟩
  rw [hU]
  exact zT.moved hW.alike ((C.tt.kept hS.2.1).narrow (z_free C hD hS))
theorem z_after {D : va_G} {A : Nat → Prop} {s t0 : State} {H H1 : Heap} {w w' : va_W} (hB : zBx D t w w' H.size () t0) (ht : t0.heap = H1) (hfr : ∀ q, va_A w H.size q → A q) : va_P D vwCl w' H1 ∧ va_D A w' := by
  obtain ⟨h1, h2, h3⟩ := hB
  rw [ht] at h1
  exact ⟨h1, h3.weaken (fun _ q _ h => hfr q.1 h)⟩
theorem z_callVi (C : zC E cc nL own Ts rm t) {y : MethodName} {ws ws' : List Cond} {fr lo : Nat} {b : Nat} {As rest : List Value} {r : Int32} {bytes : ByteArray} {maxL n index : Nat} {ret : Option FieldType} {Cn : String} {T : u_T} {N ci : Nat} {fs : List Value} (hM : zMi (ze_l E) y ws fr lo (ze_D E) t (.ref b :: As) w r w') (hg : GoodIn Ts (wsV own index Cn y ws)) (hw : ws = Cond.code y bytes maxL ret :: ws') (hd : y.cls = Cn ∧ y.cls ≠ "java/lang/invoke/MethodHandle" ∧ y.cls ≠ "java/lang/invoke/VarHandle" ∧ (parseMethodDescriptor y.desc).map (fun d => d.parameters.length) = some n) (hR : fr + 1 ≤ rm.frames ∧ 8 + (maxL + 11) + lo ≤ rm.locals) (hcs : ce ≤ rm.cells ∧ sl ≤ rm.slots) (q0 : Nat) (he : w[q0]? = some (b, .inr (ci, fs))) (hc : vwCl[ci]? = some (Cn, T, N)) (hn : As.length = n) (hst : stk = As.reverse ++ .ref b :: rest) (hW : (rest.map fun v => v.category).sum ≤ 8) (hdg : decode cc pc = .ok (.invokevirtual index, 3)) (kk : zG E nL ce sl w' (pc + 3) lv (.int r :: rest)) : zG E nL ce sl w pc lv stk := by
  intro H locs ls hP hD hS hl
  have hrm := C.rm
  refine va_calli (va_runV (As := As) (rest := rest) ⟨C.ex, C.cd, C.ml, C.ow, C.ts⟩ (hM H.size) (cwV n C.ts hg hw rfl rfl hd (by rw [hrm]; exact hR)) ⟨z_preB, va_recv C.k hP (ci := ci) (q0 := q0) hc he, z_pre C hP hD hS⟩ rfl hn hl.1 hst (lv_room hW) hdg (by rw [hrm]; exact hcs)) hS (fun q _ h => z_free C hD hS q h) (z_free C hD hS) (fun r2 u t0 H1 locs1 ht hvm hw2 hB hz1 hk1 hS1 => ?_)
  obtain ⟨hP2, hD2⟩ := z_after (s := ze_s E) (A := ze_A E) hB ht (z_free C hD hS)
  subst hw2
  exact kk H1 locs1 ls hP2 hD2 hS1 hl
theorem z_callSi (C : zC E cc nL own Ts rm t) {y : MethodName} {ws ws' : List Cond} {fr lo : Nat} {As rest : List Value} {r : Int32} {bytes : ByteArray} {maxL n index : Nat} {ret : Option FieldType} (hM : zMi (ze_l E) y ws fr lo (ze_D E) t As w r w') (hg : GoodIn Ts (va_wsS own index y ws)) (hw : ws = Cond.code y bytes maxL ret :: ws') (hd : y.cls ≠ "java/lang/invoke/MethodHandle" ∧ y.cls ≠ "java/lang/invoke/VarHandle" ∧ (parseMethodDescriptor y.desc).map (fun d => d.parameters.length) = some n) (hR : fr + 1 ≤ rm.frames ∧ 8 + (maxL + 11) + lo ≤ rm.locals) (hcs : ce ≤ rm.cells ∧ sl ≤ rm.slots) (hn : As.length = n) (hst : stk = As.reverse ++ rest) (hW : (rest.map fun v => v.category).sum ≤ 8) (hdg : decode cc pc = .ok (.invokestatic index, 3)) (kk : zG E nL ce sl w' (pc + 3) lv (.int r :: rest)) : zG E nL ce sl w pc lv stk := by
  intro H locs ls hP hD hS hl
  have hrm := C.rm
  refine va_calli (va_runS (As := As) (rest := rest) ⟨C.ex, C.cd, C.ml, C.ow, C.ts⟩ (hM H.size) (va_cwS n C.ts hg hw rfl rfl hd (by rw [hrm]; exact hR)) ⟨z_preB, z_pre C hP hD hS⟩ rfl hn hl.1 hst (lv_room hW) hdg (by rw [hrm]; exact hcs)) hS (fun q _ h => z_free C hD hS q h) (z_free C hD hS) (fun r2 u t0 H1 locs1 ht hvm hw2 hB hz1 hk1 hS1 => ?_)
  obtain ⟨hP2, hD2⟩ := z_after (s := ze_s E) (A := ze_A E) hB ht (z_free C hD hS)
  subst hw2
  exact kk H1 locs1 ls hP2 hD2 hS1 hl
theorem z_callNi (C : zC E cc nL own Ts rm t) {y : MethodName} {ws ws' : List Cond} {fr lo : Nat} {As rest : List Value} {r : Int32} {bytes : ByteArray} {maxL n index : Nat} {ret : Option FieldType} {host : String} (hM : zMi (ze_l E) y ws fr lo (ze_D E) t As w r w') (hg : GoodIn Ts ws) (hnl : (own, index, y, host) ∈ zNl) (hin : Cond.initialized y.cls ∈ Ts) (hstt : Cond.static y ∈ Ts) (hw : ws = Cond.code y bytes maxL ret :: ws') (hd : y.cls ≠ "java/lang/invoke/MethodHandle" ∧ y.cls ≠ "java/lang/invoke/VarHandle" ∧ (parseMethodDescriptor y.desc).map (fun d => d.parameters.length) = some n) (hR : fr + 1 ≤ rm.frames ∧ 8 + (maxL + 11) + lo ≤ rm.locals) (hcs : ce ≤ rm.cells ∧ sl ≤ rm.slots) (hn : As.length = n) (hst : stk = As.reverse ++ rest) (hW : (rest.map fun v => v.category).sum ≤ 8) (hdg : decode cc pc = .ok (.invokestatic index, 3)) (kk : zG E nL ce sl w' (pc + 3) lv (.int r :: rest)) : zG E nL ce sl w pc lv stk := by
  intro H locs ls hP hD hS hl
  have hrm := C.rm
  refine va_calli (va_runSN (As := As) (rest := rest) ⟨C.ex, C.cd, C.ml, C.ow, C.ts⟩ (hM H.size) ⟨va_cnB n C.ts hg hw rfl rfl (C.n _ hnl) (C.ts _ hin) hd (by rw [hrm]; exact hR), C.ts _ hstt, trivial⟩ ⟨z_preB, z_pre C hP hD hS⟩ rfl hn hl.1 hst (lv_room hW) hdg (by rw [hrm]; exact hcs)) hS (fun q _ h => z_free C hD hS q h) (z_free C hD hS) (fun r2 u t0 H1 locs1 ht hvm hw2 hB hz1 hk1 hS1 => ?_)
  obtain ⟨hP2, hD2⟩ := z_after (s := ze_s E) (A := ze_A E) hB ht (z_free C hD hS)
  subst hw2
  exact kk H1 locs1 ls hP2 hD2 hS1 hl
theorem z_callVl (C : zC E cc nL own Ts rm t) {y : MethodName} {ws ws' : List Cond} {fr lo : Nat} {b : Nat} {As rest : List Value} {r : Int64} {bytes : ByteArray} {maxL n index : Nat} {ret : Option FieldType} {Cn : String} {T : u_T} {N ci : Nat} {fs : List Value} (hM : zMl (ze_l E) y ws fr lo (ze_D E) t (.ref b :: As) w r w') (hg : GoodIn Ts (wsV own index Cn y ws)) (hw : ws = Cond.code y bytes maxL ret :: ws') (hd : y.cls = Cn ∧ y.cls ≠ "java/lang/invoke/MethodHandle" ∧ y.cls ≠ "java/lang/invoke/VarHandle" ∧ (parseMethodDescriptor y.desc).map (fun d => d.parameters.length) = some n) (hR : fr + 1 ≤ rm.frames ∧ 8 + (maxL + 11) + lo ≤ rm.locals) (hcs : ce ≤ rm.cells ∧ sl ≤ rm.slots) (q0 : Nat) (he : w[q0]? = some (b, .inr (ci, fs))) (hc : vwCl[ci]? = some (Cn, T, N)) (hn : As.length = n) (hst : stk = As.reverse ++ .ref b :: rest) (hW : (rest.map fun v => v.category).sum ≤ 8) (hdg : decode cc pc = .ok (.invokevirtual index, 3)) (kk : zG E nL ce sl w' (pc + 3) lv (.long r :: rest)) : zG E nL ce sl w pc lv stk := by
  intro H locs ls hP hD hS hl
  have hrm := C.rm
  refine va_calll (va_runV (As := As) (rest := rest) ⟨C.ex, C.cd, C.ml, C.ow, C.ts⟩ (hM H.size) (cwV n C.ts hg hw rfl rfl hd (by rw [hrm]; exact hR)) ⟨z_preB, va_recv C.k hP (ci := ci) (q0 := q0) hc he, z_pre C hP hD hS⟩ rfl hn hl.1 hst (lv_room hW) hdg (by rw [hrm]; exact hcs)) hS (fun q _ h => z_free C hD hS q h) (z_free C hD hS) (fun r2 u t0 H1 locs1 ht hvm hw2 hB hz1 hk1 hS1 => ?_)
  obtain ⟨hP2, hD2⟩ := z_after (s := ze_s E) (A := ze_A E) hB ht (z_free C hD hS)
  subst hw2
  exact kk H1 locs1 ls hP2 hD2 hS1 hl
theorem z_callSl (C : zC E cc nL own Ts rm t) {y : MethodName} {ws ws' : List Cond} {fr lo : Nat} {As rest : List Value} {r : Int64} {bytes : ByteArray} {maxL n index : Nat} {ret : Option FieldType} (hM : zMl (ze_l E) y ws fr lo (ze_D E) t As w r w') (hg : GoodIn Ts (va_wsS own index y ws)) (hw : ws = Cond.code y bytes maxL ret :: ws') (hd : y.cls ≠ "java/lang/invoke/MethodHandle" ∧ y.cls ≠ "java/lang/invoke/VarHandle" ∧ (parseMethodDescriptor y.desc).map (fun d => d.parameters.length) = some n) (hR : fr + 1 ≤ rm.frames ∧ 8 + (maxL + 11) + lo ≤ rm.locals) (hcs : ce ≤ rm.cells ∧ sl ≤ rm.slots) (hn : As.length = n) (hst : stk = As.reverse ++ rest) (hW : (rest.map fun v => v.category).sum ≤ 8) (hdg : decode cc pc = .ok (.invokestatic index, 3)) (kk : zG E nL ce sl w' (pc + 3) lv (.long r :: rest)) : zG E nL ce sl w pc lv stk := by
  intro H locs ls hP hD hS hl
  have hrm := C.rm
  refine va_calll (va_runS (As := As) (rest := rest) ⟨C.ex, C.cd, C.ml, C.ow, C.ts⟩ (hM H.size) (va_cwS n C.ts hg hw rfl rfl hd (by rw [hrm]; exact hR)) ⟨z_preB, z_pre C hP hD hS⟩ rfl hn hl.1 hst (lv_room hW) hdg (by rw [hrm]; exact hcs)) hS (fun q _ h => z_free C hD hS q h) (z_free C hD hS) (fun r2 u t0 H1 locs1 ht hvm hw2 hB hz1 hk1 hS1 => ?_)
  obtain ⟨hP2, hD2⟩ := z_after (s := ze_s E) (A := ze_A E) hB ht (z_free C hD hS)
  subst hw2
  exact kk H1 locs1 ls hP2 hD2 hS1 hl
theorem z_callNl (C : zC E cc nL own Ts rm t) {y : MethodName} {ws ws' : List Cond} {fr lo : Nat} {As rest : List Value} {r : Int64} {bytes : ByteArray} {maxL n index : Nat} {ret : Option FieldType} {host : String} (hM : zMl (ze_l E) y ws fr lo (ze_D E) t As w r w') (hg : GoodIn Ts ws) (hnl : (own, index, y, host) ∈ zNl) (hin : Cond.initialized y.cls ∈ Ts) (hstt : Cond.static y ∈ Ts) (hw : ws = Cond.code y bytes maxL ret :: ws') (hd : y.cls ≠ "java/lang/invoke/MethodHandle" ∧ y.cls ≠ "java/lang/invoke/VarHandle" ∧ (parseMethodDescriptor y.desc).map (fun d => d.parameters.length) = some n) (hR : fr + 1 ≤ rm.frames ∧ 8 + (maxL + 11) + lo ≤ rm.locals) (hcs : ce ≤ rm.cells ∧ sl ≤ rm.slots) (hn : As.length = n) (hst : stk = As.reverse ++ rest) (hW : (rest.map fun v => v.category).sum ≤ 8) (hdg : decode cc pc = .ok (.invokestatic index, 3)) (kk : zG E nL ce sl w' (pc + 3) lv (.long r :: rest)) : zG E nL ce sl w pc lv stk := by
  intro H locs ls hP hD hS hl
  have hrm := C.rm
  refine va_calll (va_runSN (As := As) (rest := rest) ⟨C.ex, C.cd, C.ml, C.ow, C.ts⟩ (hM H.size) ⟨va_cnB n C.ts hg hw rfl rfl (C.n _ hnl) (C.ts _ hin) hd (by rw [hrm]; exact hR), C.ts _ hstt, trivial⟩ ⟨z_preB, z_pre C hP hD hS⟩ rfl hn hl.1 hst (lv_room hW) hdg (by rw [hrm]; exact hcs)) hS (fun q _ h => z_free C hD hS q h) (z_free C hD hS) (fun r2 u t0 H1 locs1 ht hvm hw2 hB hz1 hk1 hS1 => ?_)
  obtain ⟨hP2, hD2⟩ := z_after (s := ze_s E) (A := ze_A E) hB ht (z_free C hD hS)
  subst hw2
  exact kk H1 locs1 ls hP2 hD2 hS1 hl
theorem z_callVv (C : zC E cc nL own Ts rm t) {y : MethodName} {ws ws' : List Cond} {fr lo : Nat} {b : Nat} {As rest : List Value} {bytes : ByteArray} {maxL n index : Nat} {ret : Option FieldType} {Cn : String} {T : u_T} {N ci : Nat} {fs : List Value} (hM : zMv (ze_l E) y ws fr lo (ze_D E) t (.ref b :: As) w w') (hg : GoodIn Ts (wsV own index Cn y ws)) (hw : ws = Cond.code y bytes maxL ret :: ws') (hd : y.cls = Cn ∧ y.cls ≠ "java/lang/invoke/MethodHandle" ∧ y.cls ≠ "java/lang/invoke/VarHandle" ∧ (parseMethodDescriptor y.desc).map (fun d => d.parameters.length) = some n) (hR : fr + 1 ≤ rm.frames ∧ 8 + (maxL + 11) + lo ≤ rm.locals) (hcs : ce ≤ rm.cells ∧ sl ≤ rm.slots) (q0 : Nat) (he : w[q0]? = some (b, .inr (ci, fs))) (hc : vwCl[ci]? = some (Cn, T, N)) (hn : As.length = n) (hst : stk = As.reverse ++ .ref b :: rest) (hW : (rest.map fun v => v.category).sum ≤ 8) (hdg : decode cc pc = .ok (.invokevirtual index, 3)) (kk : zG E nL ce sl w' (pc + 3) lv (rest)) : zG E nL ce sl w pc lv stk := by
  intro H locs ls hP hD hS hl
  have hrm := C.rm
  refine va_callv (va_runV (As := As) (rest := rest) ⟨C.ex, C.cd, C.ml, C.ow, C.ts⟩ (hM H.size) (cwV n C.ts hg hw rfl rfl hd (by rw [hrm]; exact hR)) ⟨z_preB, va_recv C.k hP (ci := ci) (q0 := q0) hc he, z_pre C hP hD hS⟩ rfl hn hl.1 hst (lv_room hW) hdg (by rw [hrm]; exact hcs)) hS (fun q _ h => z_free C hD hS q h) (z_free C hD hS) (fun u t0 H1 locs1 ht hvm hw2 hB hz1 hk1 hS1 => ?_)
  obtain ⟨hP2, hD2⟩ := z_after (s := ze_s E) (A := ze_A E) hB ht (z_free C hD hS)
  exact kk H1 locs1 ls hP2 hD2 hS1 hl
theorem z_callSv (C : zC E cc nL own Ts rm t) {y : MethodName} {ws ws' : List Cond} {fr lo : Nat} {As rest : List Value} {bytes : ByteArray} {maxL n index : Nat} {ret : Option FieldType} (hM : zMv (ze_l E) y ws fr lo (ze_D E) t As w w') (hg : GoodIn Ts (va_wsS own index y ws)) (hw : ws = Cond.code y bytes maxL ret :: ws') (hd : y.cls ≠ "java/lang/invoke/MethodHandle" ∧ y.cls ≠ "java/lang/invoke/VarHandle" ∧ (parseMethodDescriptor y.desc).map (fun d => d.parameters.length) = some n) (hR : fr + 1 ≤ rm.frames ∧ 8 + (maxL + 11) + lo ≤ rm.locals) (hcs : ce ≤ rm.cells ∧ sl ≤ rm.slots) (hn : As.length = n) (hst : stk = As.reverse ++ rest) (hW : (rest.map fun v => v.category).sum ≤ 8) (hdg : decode cc pc = .ok (.invokestatic index, 3)) (kk : zG E nL ce sl w' (pc + 3) lv (rest)) : zG E nL ce sl w pc lv stk := by
  intro H locs ls hP hD hS hl
  have hrm := C.rm
  refine va_callv (va_runS (As := As) (rest := rest) ⟨C.ex, C.cd, C.ml, C.ow, C.ts⟩ (hM H.size) (va_cwS n C.ts hg hw rfl rfl hd (by rw [hrm]; exact hR)) ⟨z_preB, z_pre C hP hD hS⟩ rfl hn hl.1 hst (lv_room hW) hdg (by rw [hrm]; exact hcs)) hS (fun q _ h => z_free C hD hS q h) (z_free C hD hS) (fun u t0 H1 locs1 ht hvm hw2 hB hz1 hk1 hS1 => ?_)
  obtain ⟨hP2, hD2⟩ := z_after (s := ze_s E) (A := ze_A E) hB ht (z_free C hD hS)
  exact kk H1 locs1 ls hP2 hD2 hS1 hl
theorem z_callNv (C : zC E cc nL own Ts rm t) {y : MethodName} {ws ws' : List Cond} {fr lo : Nat} {As rest : List Value} {bytes : ByteArray} {maxL n index : Nat} {ret : Option FieldType} {host : String} (hM : zMv (ze_l E) y ws fr lo (ze_D E) t As w w') (hg : GoodIn Ts ws) (hnl : (own, index, y, host) ∈ zNl) (hin : Cond.initialized y.cls ∈ Ts) (hstt : Cond.static y ∈ Ts) (hw : ws = Cond.code y bytes maxL ret :: ws') (hd : y.cls ≠ "java/lang/invoke/MethodHandle" ∧ y.cls ≠ "java/lang/invoke/VarHandle" ∧ (parseMethodDescriptor y.desc).map (fun d => d.parameters.length) = some n) (hR : fr + 1 ≤ rm.frames ∧ 8 + (maxL + 11) + lo ≤ rm.locals) (hcs : ce ≤ rm.cells ∧ sl ≤ rm.slots) (hn : As.length = n) (hst : stk = As.reverse ++ rest) (hW : (rest.map fun v => v.category).sum ≤ 8) (hdg : decode cc pc = .ok (.invokestatic index, 3)) (kk : zG E nL ce sl w' (pc + 3) lv (rest)) : zG E nL ce sl w pc lv stk := by
  intro H locs ls hP hD hS hl
  have hrm := C.rm
  refine va_callv (va_runSN (As := As) (rest := rest) ⟨C.ex, C.cd, C.ml, C.ow, C.ts⟩ (hM H.size) ⟨va_cnB n C.ts hg hw rfl rfl (C.n _ hnl) (C.ts _ hin) hd (by rw [hrm]; exact hR), C.ts _ hstt, trivial⟩ ⟨z_preB, z_pre C hP hD hS⟩ rfl hn hl.1 hst (lv_room hW) hdg (by rw [hrm]; exact hcs)) hS (fun q _ h => z_free C hD hS q h) (z_free C hD hS) (fun u t0 H1 locs1 ht hvm hw2 hB hz1 hk1 hS1 => ?_)
  obtain ⟨hP2, hD2⟩ := z_after (s := ze_s E) (A := ze_A E) hB ht (z_free C hD hS)
  exact kk H1 locs1 ls hP2 hD2 hS1 hl
end ZCALL

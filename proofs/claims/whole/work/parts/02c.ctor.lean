/-! rows for constructors (a world that grows), and for calls that see a part of the caller's world -/
theorem zP_l {D : va_G} {cl : List vw_C} {w1 w2 : va_W} {H : Heap} (h : va_P D cl (w1 ++ w2) H) : va_P D cl w1 H := fun k q hk => h k q (by rw [List.getElem?_append_left (List.getElem?_eq_some_iff.mp hk).1]; exact hk)
theorem zP_r {D : va_G} {cl : List vw_C} {w1 w2 : va_W} {H : Heap} (h : va_P D cl (w1 ++ w2) H) : va_P D cl w2 H := fun k q hk => h (w1.length + k) q (by rw [List.getElem?_append_right (by omega), Nat.add_sub_cancel_left]; exact hk)
theorem zD_l {A : Nat → Prop} {w1 w2 : va_W} (h : va_D A (w1 ++ w2)) : va_D A w1 := by
  have key : ∀ (k : Nat) (q : Nat × va_E), w1[k]? = some q → (w1 ++ w2)[k]? = some q := fun k q hk => by rw [List.getElem?_append_left (List.getElem?_eq_some_iff.mp hk).1]; exact hk
  exact ⟨fun i j x y hx hy hxy => h.1 i j x y (key i x hx) (key j y hy) hxy, fun k q hk => h.2 k q (key k q hk)⟩
theorem zD_r {A : Nat → Prop} {w1 w2 : va_W} (h : va_D A (w1 ++ w2)) : va_D A w2 := by
  have key : ∀ (k : Nat) (q : Nat × va_E), w2[k]? = some q → (w1 ++ w2)[w1.length + k]? = some q := fun k q hk => by rw [List.getElem?_append_right (by omega), Nat.add_sub_cancel_left]; exact hk
  exact ⟨fun i j x y hx hy hxy => by have := h.1 _ _ x y (key i x hx) (key j y hy) hxy; omega, fun k q hk => h.2 _ q (key k q hk)⟩
theorem zD_x {A : Nat → Prop} {w1 w2 : va_W} (h : va_D A (w1 ++ w2)) {i j : Nat} {x y : Nat × va_E} (hx : w1[i]? = some x) (hy : w2[j]? = some y) : x.1 ≠ y.1 := by
  intro e
  have hi := (List.getElem?_eq_some_iff.mp hx).1
  have := h.1 i (w1.length + j) x y (by rw [List.getElem?_append_left hi]; exact hx) (by rw [List.getElem?_append_right (by omega), Nat.add_sub_cancel_left]; exact hy) e
  omega
theorem z_joinR {A : Nat → Prop} {D : va_G} {cl : List vw_C} {pre wc w1 : va_W} {H H1 : Heap} (hP : va_P D cl (pre ++ wc) H) (hD : va_D A (pre ++ wc)) (hk : ∀ q : Nat, q < H.size → ¬ va_A wc H.size q → H1[q]? = H[q]?) (hF : ∀ q, va_A wc H.size q → A q) (hP1 : va_P D cl w1 H1) (hD1 : va_D (va_A wc H.size) w1) : va_P D cl (pre ++ w1) H1 ∧ va_D A (pre ++ w1) := by
  have apart : ∀ (k : Nat) (q : Nat × va_E), pre[k]? = some q → q.1 < H.size ∧ ¬ va_A wc H.size q.1 := by
    intro k q hq
    have hl := ((zP_l hP) k q hq).lt
    refine ⟨hl, fun h => ?_⟩
    rcases h with ⟨k2, e, h⟩ | h
    · exact zD_x hD hq h rfl
    · omega
  refine ⟨va_P.app (fun k q hq => ((zP_l hP) k q hq).kept (hk q.1 (apart k q hq).1 (apart k q hq).2)) hP1, va_D.app (zD_l hD) (hD1.weaken (fun k q _ h => hF q.1 h)) (fun i j x y hx hy hxy => (apart i x hx).2 (by rw [hxy]; exact hD1.2 j y hy))⟩
theorem z_joinL {A : Nat → Prop} {D : va_G} {cl : List vw_C} {post wc w1 : va_W} {H H1 : Heap} (hP : va_P D cl (wc ++ post) H) (hD : va_D A (wc ++ post)) (hk : ∀ q : Nat, q < H.size → ¬ va_A wc H.size q → H1[q]? = H[q]?) (hF : ∀ q, va_A wc H.size q → A q) (hP1 : va_P D cl w1 H1) (hD1 : va_D (va_A wc H.size) w1) : va_P D cl (w1 ++ post) H1 ∧ va_D A (w1 ++ post) := by
  have apart : ∀ (k : Nat) (q : Nat × va_E), post[k]? = some q → q.1 < H.size ∧ ¬ va_A wc H.size q.1 := by
    intro k q hq
    have hl := ((zP_r hP) k q hq).lt
    refine ⟨hl, fun h => ?_⟩
    rcases h with ⟨k2, e, h⟩ | h
    · exact zD_x hD h hq rfl
    · omega
  refine ⟨va_P.app hP1 (fun k q hq => ((zP_r hP) k q hq).kept (hk q.1 (apart k q hq).1 (apart k q hq).2)), va_D.app (hD1.weaken (fun k q _ h => hF q.1 h)) (zD_r hD) (fun i j x y hx hy hxy => (apart j y hy).2 (by rw [← hxy]; exact hD1.2 i x hx))⟩
section ZK
variable {E : zE} {cc : ByteArray} {nL : Nat} {own : String} {Ts : List Cond} {rm : Room} {t : zTy} {ce sl pc : Nat} {w : va_W} {lv : List (Nat × Value)} {stk : List Value}
theorem z_perm {w' : va_W} (is : List Nat) (hn : va_nd is = true) (h : is.filterMap (fun i => w[i]?) = w') (h2 : is.map (fun i => w[i]?) = w'.map some) (kk : zG E nL ce sl w' pc lv stk) : zG E nL ce sl w pc lv stk := fun H locs ls hP hD hS hl => kk H locs ls (hP.sub is h) (hD.sub is hn h2) hS hl
theorem z_objInit (C : zC E cc nL own Ts rm t) {idx : Nat} (h1 : Cond.methodLink own idx Lib.objectInit ∈ Ts) (h2 : Cond.instanceMethod Lib.objectInit ∈ Ts) (h3 : Cond.code Lib.objectInit ⟨#[0xb1]⟩ 1 none ∈ Ts) {b : Nat} (hf : 1 ≤ rm.frames) (hlo : (stk.map fun v => v.category).sum + 12 ≤ rm.locals) (hdg : decode cc pc = .ok (.invokespecial idx, 3)) (kk : zG E nL ce sl w (pc + 3) lv stk) : zG E nL ce sl w pc lv (.ref b :: stk) := fun H locs ls hP hD hS hl => W.objInit C.ex C.cd C.ow (C.ts _ h1) (C.ts _ h2) (C.ts _ h3) (g := F0 (ze_m E) pc ls (.ref b :: stk)) rfl (by rw [C.ml]; exact hl.1) rfl hdg (by rw [C.rm]; exact hf) (by rw [C.rm]; show 2 * 0 + _ + 12 ≤ _; omega) (kk H locs ls hP hD hS hl)
theorem z_newI (C : zC E cc nL own Ts rm t) (h1 : Cond.arrayClass .int ∈ Ts) {n : Int32} (N' : Nat) (hn : ¬ n < 0) (hN : n.toNatClampNeg = N') (hb : N' * componentBytes .int ≤ 536870912) (hc : ce + 1 ≤ rm.cells) (hs : sl + N' ≤ rm.slots) (hdg : decode cc pc = .ok (.newarray .int, 2)) (kk : ∀ q : Nat, zG E nL (ce + 1) (sl + N') (w ++ [(q, .inl (t.1, N', .inl (fun _ => 0)))]) (pc + 2) lv (.ref q :: stk)) : zG E nL ce sl w pc lv (.int n :: stk) := by
  intro H locs ls hP hD hS hl
  refine va_newa C.ex C.cd (atype := .int) (C.ts _ h1) (ty := .int) rfl C.k hP hD hS C.hA (a0 := (N', .inl (fun _ => 0))) (fun cA => by rw [vp_cell_i]; rfl) hn hN hb (by rw [C.rm]; exact hc) (by rw [C.rm]; exact hs) hdg ?_
  intro q cA H1 hK1 hP1 hD1 hS1
  have e : cA = t.1 := by
    have a1 := (hK1.2 3 (cA, .int) rfl).2
    have a2 := (C.k.2 0 (t.1, .int) rfl).2
    exact Option.some.inj (a1.symm.trans a2)
  subst e
  exact kk q H1 locs ls hP1 hD1 hS1 hl
theorem z_newJ (C : zC E cc nL own Ts rm t) (h1 : Cond.arrayClass .long ∈ Ts) {n : Int32} (N' : Nat) (hn : ¬ n < 0) (hN : n.toNatClampNeg = N') (hb : N' * componentBytes .long ≤ 536870912) (hc : ce + 1 ≤ rm.cells) (hs : sl + N' ≤ rm.slots) (hdg : decode cc pc = .ok (.newarray .long, 2)) (kk : ∀ q : Nat, zG E nL (ce + 1) (sl + N') (w ++ [(q, .inl (t.2.1, N', .inr (.inl (fun _ => 0))))]) (pc + 2) lv (.ref q :: stk)) : zG E nL ce sl w pc lv (.int n :: stk) := by
  intro H locs ls hP hD hS hl
  refine va_newa C.ex C.cd (atype := .long) (C.ts _ h1) (ty := .long) rfl C.k hP hD hS C.hA (a0 := (N', .inr (.inl (fun _ => 0)))) (fun cA => by rw [vp_cell_l]; rfl) hn hN hb (by rw [C.rm]; exact hc) (by rw [C.rm]; exact hs) hdg ?_
  intro q cA H1 hK1 hP1 hD1 hS1
  have e : cA = t.2.1 := by
    have a1 := (hK1.2 3 (cA, .long) rfl).2
    have a2 := (C.k.2 1 (t.2.1, .long) rfl).2
    exact Option.some.inj (a1.symm.trans a2)
  subst e
  exact kk q H1 locs ls hP1 hD1 hS1 hl
theorem z_newZ (C : zC E cc nL own Ts rm t) (h1 : Cond.arrayClass .boolean ∈ Ts) {n : Int32} (N' : Nat) (hn : ¬ n < 0) (hN : n.toNatClampNeg = N') (hb : N' * componentBytes .boolean ≤ 536870912) (hc : ce + 1 ≤ rm.cells) (hs : sl + N' ≤ rm.slots) (hdg : decode cc pc = .ok (.newarray .boolean, 2)) (kk : ∀ q : Nat, zG E nL (ce + 1) (sl + N') (w ++ [(q, .inl (t.2.2, N', .inl (fun _ => 0)))]) (pc + 2) lv (.ref q :: stk)) : zG E nL ce sl w pc lv (.int n :: stk) := by
  intro H locs ls hP hD hS hl
  refine va_newa C.ex C.cd (atype := .boolean) (C.ts _ h1) (ty := .boolean) rfl C.k hP hD hS C.hA (a0 := (N', .inl (fun _ => 0))) (fun cA => by rw [vp_cell_i]; rfl) hn hN hb (by rw [C.rm]; exact hc) (by rw [C.rm]; exact hs) hdg ?_
  intro q cA H1 hK1 hP1 hD1 hS1
  have e : cA = t.2.2 := by
    have a1 := (hK1.2 3 (cA, .boolean) rfl).2
    have a2 := (C.k.2 2 (t.2.2, .boolean) rfl).2
    exact Option.some.inj (a1.symm.trans a2)
  subst e
  exact kk q H1 locs ls hP1 hD1 hS1 hl
theorem z_putF (C : zC E cc nL own Ts rm t) (hi : (ze_h E).name = "<init>") {T : u_T} {N ci index b : Nat} (hin : ∀ w ∈ u_ws own T N, w ∈ Ts) (ty0 : Nat → FieldType) (hty : ∀ k, k < N → parseFieldDescriptor (T k).2.2.1 = some (ty0 k)) (hnm : ∀ a, a < N → ∀ b, b < N → a ≠ b → (T a).2.1 ≠ (T b).2.1) (q0 : Nat) {fs : List Value} (he : w[q0]? = some (b, .inr (ci, fs))) (hc : vwCl[ci]? = some (own, T, N)) (k : Nat) (hk : k < N) (hm : Cond.fieldLink own index (T k).1 (T k).2.1 (T k).2.2.1 ∈ Ts) (hfin : (T k).2.2.2 = true) (hdecl : (T k).1 = own) {v : Value} (hn : narrow (ty0 k) v = v) (hfit : fits (ty0 k) v = true) (hl : k < fs.length) {w' : va_W} (hw : w.set q0 (b, .inr (ci, fs.set k v)) = w') (hdg : decode cc pc = .ok (.putfield index, 3)) (kk : zG E nL ce sl w' (pc + 3) lv stk) : zG E nL ce sl w pc lv (v :: .ref b :: stk) := by
  subst hw
  exact fun H locs ls hP hD hS hl2 => va_putF C.ex C.cd C.ts hin ty0 hty hnm C.ow C.k hP hD hS q0 he hc k hk (C.ts _ hm) (fun _ h9 => h9) hfin hi hdecl (hty k hk) hn hfit hl hdg (fun H1 locs1 hP hD hS => kk H1 locs1 ls hP hD hS hl2)
theorem z_new (C : zC E cc nL own Ts rm t) {Cn : String} {T : u_T} {N ci index : Nat} (hin : ∀ w ∈ u_ws Cn T N, w ∈ Ts) (ty : Nat → FieldType) (hty : ∀ k, k < N → parseFieldDescriptor (T k).2.2.1 = some (ty k)) (h1 : Cond.classLink own index Cn ∈ Ts) (h2 : Cond.instantiable Cn N ∈ Ts) (h3 : Cond.initialized Cn ∈ Ts) (hc : vwCl[ci]? = some (Cn, T, N)) (fs : List Value) (hfs : ∀ j, j < N → defaultValue (ty j) = vp_V fs j) (hcl : ce + 1 ≤ rm.cells) (hsl : sl + N ≤ rm.slots) (hdg : decode cc pc = .ok (.new index, 3)) (kk : ∀ q : Nat, zG E nL (ce + 1) (sl + N) (w ++ [(q, .inr (ci, fs))]) (pc + 3) lv (.ref q :: stk)) : zG E nL ce sl w pc lv stk := fun H locs ls hP hD hS hl => va_new C.ex C.cd C.ts hin ty hty C.ow (C.ts _ h1) (C.ts _ h2) (C.ts _ h3) C.k hP hD hS C.hA hc hfs (by rw [C.rm]; exact hcl) (by rw [C.rm]; exact hsl) hdg (fun q H1 hP1 hD1 hS1 => kk q H1 locs ls hP1 hD1 hS1 hl)
end ZK
/-- a constructor's contract: of the new object alone it makes the cells wf u, whose first is the object -/
def zMk (l : Launch) (y : MethodName) (ws : List Cond) (rm : Room) (D : va_G) (t : zTy) (k : Nat) (e0 : List Value) (wf : (Nat → Nat) → va_W) : Prop := ∀ h sz : Nat, Met l y ws rm (zPre D t [.ref h] [(h, .inr (k, e0))] sz) (va_Qv (fun u : Nat → Nat => u 0 = h) (fun u t' => va_P D vwCl (wf u) t'.heap ∧ va_K D vwCl (zty t) t' ∧ va_D (va_A [(h, .inr (k, e0))] sz) (wf u)) (va_A [(h, .inr (k, e0))] sz)) rm.cells rm.slots (va_A [(h, .inr (k, e0))] sz)
def zRk (E : zE) (cc : ByteArray) (nL mc ms h : Nat) (wf : (Nat → Nat) → va_W) : Prop := ∀ (u : Nat → Nat) (pc : Nat) (lv : List (Nat × Value)), u 0 = h → decode cc pc = .ok (.return_, 1) → zG E nL mc ms (wf u) pc lv []
theorem z_entry_k {l : Launch} {y : MethodName} {ws ws' : List Cond} {rm : Room} {D : va_G} {t : zTy} {k : Nat} {e0 : List Value} {wf : (Nat → Nat) → va_W} {cc : ByteArray} {nL : Nat} (hini : y.name = "<init>") (hy : plainName y.cls = true) (hw : ws = Cond.code y cc nL none :: ws') (hlen : 1 ≤ nL) (body : ∀ (E : zE) (h : Nat), ze_l E = l → ze_D E = D → zC E cc nL y.cls ws rm t → (ze_h E).name = "<init>" → zRk E cc nL rm.cells rm.slots h wf → zG E nL 0 0 [(h, .inr (k, e0))] 0 [(0, .ref h)] []) : zMk l y ws rm D t k e0 wf := by
  intro h sz
  refine Met.ofW (cc := cc) (maxL := nL) (ret := none) hy hw ?_
  intro p e s m args below meth c s₁ B hml hv
  obtain ⟨rfl, hsz, hP, hK, hD0, hN, hT⟩ := hv
  subst hsz
  have hA : ∀ q : Nat, s.heap.size ≤ q → va_A [(h, .inr (k, e0))] s.heap.size q := fun q h => Or.inr h
  have hl := lv_entry [.ref h] (n := nL) hlen
  rw [lg_entry_eq]
  have hR : (headSpec ws rm).room = rm := rfl
  have hin : meth.name = "<init>" := ((name_of_methodNamed B.named B.method).1).trans hini
  refine body (p, l, e, (headSpec ws rm).room, s, m, ([.ref h] : List Value).toArray, below, meth, c, D, va_A [(h, .inr (k, e0))] s.heap.size, MQ below (va_Qv (fun u : Nat → Nat => u 0 = h) (fun u t' => va_P D vwCl (wf u) t'.heap ∧ va_K D vwCl (zty t) t' ∧ va_D (va_A [(h, .inr (k, e0))] s.heap.size) (wf u)) (va_A [(h, .inr (k, e0))] s.heap.size)) ([.ref h] : List Value).toArray s rm.cells rm.slots (va_A [(h, .inr (k, e0))] s.heap.size)) h rfl rfl ⟨B.exec, B.bytes, hml, findClass_of_methodNamed B.named, atoms_spec (ws := ws) B.pre, hK, hA, hN, hT, hR⟩ hin ?_ s.heap [] _ hP hD0.self va_S.rf hl
  intro u pc lv hu hdg H locs ls hP2 hD2 hS2 hl2
  exact W.vret (Qc := va_Qv (fun u : Nat → Nat => u 0 = h) (fun u t' => va_P D vwCl (wf u) t'.heap ∧ va_K D vwCl (zty t) t' ∧ va_D (va_A [(h, .inr (k, e0))] s.heap.size) (wf u)) (va_A [(h, .inr (k, e0))] s.heap.size)) (free := va_A [(h, .inr (k, e0))] s.heap.size) B.exec B.bytes B.returns (fun t ht hW => ⟨⟨u, rfl, hu, by rw [ht]; exact hP2, va_K.moved hW.alike hK, hD2⟩, hS2.F ht⟩) hS2.2.2 hdg B.notSynchronized
section ZKC
variable {E : zE} {cc : ByteArray} {nL : Nat} {own : String} {Ts : List Cond} {rm : Room} {t : zTy} {ce sl pc : Nat} {lv : List (Nat × Value)} {stk : List Value}
theorem z_ctorN (C : zC E cc nL own Ts rm t) {y : MethodName} {ws ws' : List Cond} {rm' : Room} {k : Nat} {e0 : List Value} {wf : (Nat → Nat) → va_W} {bytes : ByteArray} {maxL index : Nat} {host : String} {pre : va_W} {q : Nat} (hM : zMk (ze_l E) y ws rm' (ze_D E) t k e0 wf) (hg : GoodIn Ts ws) (hnl : (own, index, y, host) ∈ zNl) (hin : Cond.initialized y.cls ∈ Ts) (hinst : Cond.instanceMethod y ∈ Ts) (hy1 : y.name = "<init>") (hw : ws = Cond.code y bytes maxL none :: ws') (hd : y.cls ≠ "java/lang/invoke/MethodHandle" ∧ y.cls ≠ "java/lang/invoke/VarHandle" ∧ (parseMethodDescriptor y.desc).map (fun d => d.parameters.length) = some 0) (hR : rm'.frames + 1 ≤ rm.frames ∧ 8 + (maxL + 11) + rm'.locals ≤ rm.locals) (hcs : ce + rm'.cells ≤ rm.cells ∧ sl + rm'.slots ≤ rm.slots) (hW : (stk.map fun v => v.category).sum ≤ 8) (hdg : decode cc pc = .ok (.invokespecial index, 3)) (kk : ∀ u : Nat → Nat, u 0 = q → zG E nL (ce + rm'.cells) (sl + rm'.slots) (pre ++ wf u) (pc + 3) lv stk) : zG E nL ce sl (pre ++ [(q, .inr (k, e0))]) pc lv (.ref q :: stk) := by
  intro H locs ls hP hD hS hl
  have hrm := C.rm
  refine va_callv (va_runIN (As := []) (rest := stk) ⟨C.ex, C.cd, C.ml, C.ow, C.ts⟩ (hM q H.size) ⟨va_cnB 0 C.ts hg hw rfl rfl (C.n _ hnl) (C.ts _ hin) hd (by rw [hrm]; exact hR), hy1, C.ts _ hinst⟩ ⟨z_preB, z_pre C (zP_r hP) (zD_r hD) hS⟩ rfl rfl hl.1 rfl (lv_room hW) hdg (by rw [hrm]; exact hcs)) hS (fun q _ h => z_free C (zD_r hD) hS q h) (z_free C (zD_r hD) hS) (fun u t0 H1 locs1 ht hvm hw2 hB hz1 hk1 hS1 => ?_)
  obtain ⟨hP1, hK1, hD1⟩ := hB
  rw [ht] at hP1
  obtain ⟨hP2, hD2⟩ := z_joinR hP hD hk1 (z_free C (zD_r hD) hS) hP1 hD1
  exact kk u hw2 H1 locs1 ls hP2 hD2 hS1 hl
theorem z_ctorI (C : zC E cc nL own Ts rm t) {y : MethodName} {ws ws' : List Cond} {rm' : Room} {k : Nat} {e0 : List Value} {wf : (Nat → Nat) → va_W} {bytes : ByteArray} {maxL index : Nat} {pre : va_W} {q : Nat} (hM : zMk (ze_l E) y ws rm' (ze_D E) t k e0 wf) (hg : GoodIn Ts ws) (hl1 : Cond.methodLink own index y ∈ Ts) (hin : Cond.initialized y.cls ∈ Ts) (hinst : Cond.instanceMethod y ∈ Ts) (hy1 : y.name = "<init>") (hw : ws = Cond.code y bytes maxL none :: ws') (hd : y.cls ≠ "java/lang/invoke/MethodHandle" ∧ y.cls ≠ "java/lang/invoke/VarHandle" ∧ (parseMethodDescriptor y.desc).map (fun d => d.parameters.length) = some 0) (hR : rm'.frames + 1 ≤ rm.frames ∧ 8 + (maxL + 11) + rm'.locals ≤ rm.locals) (hcs : ce + rm'.cells ≤ rm.cells ∧ sl + rm'.slots ≤ rm.slots) (hW : (stk.map fun v => v.category).sum ≤ 8) (hdg : decode cc pc = .ok (.invokespecial index, 3)) (kk : ∀ u : Nat → Nat, u 0 = q → zG E nL (ce + rm'.cells) (sl + rm'.slots) (pre ++ wf u) (pc + 3) lv stk) : zG E nL ce sl (pre ++ [(q, .inr (k, e0))]) pc lv (.ref q :: stk) := by
  intro H locs ls hP hD hS hl
  have hrm := C.rm
  refine va_callv (va_runI (As := []) (rest := stk) ⟨C.ex, C.cd, C.ml, C.ow, C.ts⟩ (hM q H.size) (cwI 0 C.ts hg hw rfl rfl (C.ts _ hin) (C.ts _ hl1) (C.ts _ hinst) hy1 hd (by rw [hrm]; exact hR)) ⟨z_preB, z_pre C (zP_r hP) (zD_r hD) hS⟩ rfl rfl hl.1 rfl (lv_room hW) hdg (by rw [hrm]; exact hcs)) hS (fun q _ h => z_free C (zD_r hD) hS q h) (z_free C (zD_r hD) hS) (fun u t0 H1 locs1 ht hvm hw2 hB hz1 hk1 hS1 => ?_)
  obtain ⟨hP1, hK1, hD1⟩ := hB
  rw [ht] at hP1
  obtain ⟨hP2, hD2⟩ := z_joinR hP hD hk1 (z_free C (zD_r hD) hS) hP1 hD1
  exact kk u hw2 H1 locs1 ls hP2 hD2 hS1 hl
end ZKC
theorem z_callLi {E : zE} {cc : ByteArray} {nL : Nat} {own : String} {Ts : List Cond} {rm : Room} {t : zTy} {ce sl pc : Nat} {w1 w2 w' : va_W} {lv : List (Nat × Value)} {stk : List Value} (C : zC E cc nL own Ts rm t) {y : MethodName} {ws ws' : List Cond} {fr lo : Nat} {b : Nat} {As rest : List Value} {r : Int32} {bytes : ByteArray} {maxL n index : Nat} {ret : Option FieldType} {Cn : String} {T : u_T} {N ci : Nat} {fs : List Value} (hM : zMi (ze_l E) y ws fr lo (ze_D E) t (.ref b :: As) w1 r w') (hg : GoodIn Ts (wsV own index Cn y ws)) (hw : ws = Cond.code y bytes maxL ret :: ws') (hd : y.cls = Cn ∧ y.cls ≠ "java/lang/invoke/MethodHandle" ∧ y.cls ≠ "java/lang/invoke/VarHandle" ∧ (parseMethodDescriptor y.desc).map (fun d => d.parameters.length) = some n) (hR : fr + 1 ≤ rm.frames ∧ 8 + (maxL + 11) + lo ≤ rm.locals) (hcs : ce ≤ rm.cells ∧ sl ≤ rm.slots) (q0 : Nat) (he : w1[q0]? = some (b, .inr (ci, fs))) (hc : vwCl[ci]? = some (Cn, T, N)) (hn : As.length = n) (hst : stk = As.reverse ++ .ref b :: rest) (hW : (rest.map fun v => v.category).sum ≤ 8) (hdg : decode cc pc = .ok (.invokevirtual index, 3)) (kk : zG E nL ce sl (w' ++ w2) (pc + 3) lv (.int r :: rest)) : zG E nL ce sl (w1 ++ w2) pc lv stk := by
  intro H locs ls hP hD hS hl
  have hrm := C.rm
  refine va_calli (va_runV (As := As) (rest := rest) ⟨C.ex, C.cd, C.ml, C.ow, C.ts⟩ (hM H.size) (cwV n C.ts hg hw rfl rfl hd (by rw [hrm]; exact hR)) ⟨z_preB, va_recv C.k (zP_l hP) (ci := ci) (q0 := q0) hc he, z_pre C (zP_l hP) (zD_l hD) hS⟩ rfl hn hl.1 hst (lv_room hW) hdg (by rw [hrm]; exact hcs)) hS (fun q _ h => z_free C (zD_l hD) hS q h) (z_free C (zD_l hD) hS) (fun r2 u t0 H1 locs1 ht hvm hw2 hB hz1 hk1 hS1 => ?_)
  obtain ⟨hP1, hK1, hD1⟩ := hB
  rw [ht] at hP1
  obtain ⟨hP2, hD2⟩ := z_joinL hP hD hk1 (z_free C (zD_l hD) hS) hP1 hD1
  subst hw2
  exact kk H1 locs1 ls hP2 hD2 hS1 hl
theorem z_callRi {E : zE} {cc : ByteArray} {nL : Nat} {own : String} {Ts : List Cond} {rm : Room} {t : zTy} {ce sl pc : Nat} {w1 w2 w' : va_W} {lv : List (Nat × Value)} {stk : List Value} (C : zC E cc nL own Ts rm t) {y : MethodName} {ws ws' : List Cond} {fr lo : Nat} {b : Nat} {As rest : List Value} {r : Int32} {bytes : ByteArray} {maxL n index : Nat} {ret : Option FieldType} {Cn : String} {T : u_T} {N ci : Nat} {fs : List Value} (hM : zMi (ze_l E) y ws fr lo (ze_D E) t (.ref b :: As) w2 r w') (hg : GoodIn Ts (wsV own index Cn y ws)) (hw : ws = Cond.code y bytes maxL ret :: ws') (hd : y.cls = Cn ∧ y.cls ≠ "java/lang/invoke/MethodHandle" ∧ y.cls ≠ "java/lang/invoke/VarHandle" ∧ (parseMethodDescriptor y.desc).map (fun d => d.parameters.length) = some n) (hR : fr + 1 ≤ rm.frames ∧ 8 + (maxL + 11) + lo ≤ rm.locals) (hcs : ce ≤ rm.cells ∧ sl ≤ rm.slots) (q0 : Nat) (he : w2[q0]? = some (b, .inr (ci, fs))) (hc : vwCl[ci]? = some (Cn, T, N)) (hn : As.length = n) (hst : stk = As.reverse ++ .ref b :: rest) (hW : (rest.map fun v => v.category).sum ≤ 8) (hdg : decode cc pc = .ok (.invokevirtual index, 3)) (kk : zG E nL ce sl (w1 ++ w') (pc + 3) lv (.int r :: rest)) : zG E nL ce sl (w1 ++ w2) pc lv stk := by
  intro H locs ls hP hD hS hl
  have hrm := C.rm
  refine va_calli (va_runV (As := As) (rest := rest) ⟨C.ex, C.cd, C.ml, C.ow, C.ts⟩ (hM H.size) (cwV n C.ts hg hw rfl rfl hd (by rw [hrm]; exact hR)) ⟨z_preB, va_recv C.k (zP_r hP) (ci := ci) (q0 := q0) hc he, z_pre C (zP_r hP) (zD_r hD) hS⟩ rfl hn hl.1 hst (lv_room hW) hdg (by rw [hrm]; exact hcs)) hS (fun q _ h => z_free C (zD_r hD) hS q h) (z_free C (zD_r hD) hS) (fun r2 u t0 H1 locs1 ht hvm hw2 hB hz1 hk1 hS1 => ?_)
  obtain ⟨hP1, hK1, hD1⟩ := hB
  rw [ht] at hP1
  obtain ⟨hP2, hD2⟩ := z_joinR hP hD hk1 (z_free C (zD_r hD) hS) hP1 hD1
  subst hw2
  exact kk H1 locs1 ls hP2 hD2 hS1 hl
theorem z_callLl {E : zE} {cc : ByteArray} {nL : Nat} {own : String} {Ts : List Cond} {rm : Room} {t : zTy} {ce sl pc : Nat} {w1 w2 w' : va_W} {lv : List (Nat × Value)} {stk : List Value} (C : zC E cc nL own Ts rm t) {y : MethodName} {ws ws' : List Cond} {fr lo : Nat} {b : Nat} {As rest : List Value} {r : Int64} {bytes : ByteArray} {maxL n index : Nat} {ret : Option FieldType} {Cn : String} {T : u_T} {N ci : Nat} {fs : List Value} (hM : zMl (ze_l E) y ws fr lo (ze_D E) t (.ref b :: As) w1 r w') (hg : GoodIn Ts (wsV own index Cn y ws)) (hw : ws = Cond.code y bytes maxL ret :: ws') (hd : y.cls = Cn ∧ y.cls ≠ "java/lang/invoke/MethodHandle" ∧ y.cls ≠ "java/lang/invoke/VarHandle" ∧ (parseMethodDescriptor y.desc).map (fun d => d.parameters.length) = some n) (hR : fr + 1 ≤ rm.frames ∧ 8 + (maxL + 11) + lo ≤ rm.locals) (hcs : ce ≤ rm.cells ∧ sl ≤ rm.slots) (q0 : Nat) (he : w1[q0]? = some (b, .inr (ci, fs))) (hc : vwCl[ci]? = some (Cn, T, N)) (hn : As.length = n) (hst : stk = As.reverse ++ .ref b :: rest) (hW : (rest.map fun v => v.category).sum ≤ 8) (hdg : decode cc pc = .ok (.invokevirtual index, 3)) (kk : zG E nL ce sl (w' ++ w2) (pc + 3) lv (.long r :: rest)) : zG E nL ce sl (w1 ++ w2) pc lv stk := by
  intro H locs ls hP hD hS hl
  have hrm := C.rm
  refine va_calll (va_runV (As := As) (rest := rest) ⟨C.ex, C.cd, C.ml, C.ow, C.ts⟩ (hM H.size) (cwV n C.ts hg hw rfl rfl hd (by rw [hrm]; exact hR)) ⟨z_preB, va_recv C.k (zP_l hP) (ci := ci) (q0 := q0) hc he, z_pre C (zP_l hP) (zD_l hD) hS⟩ rfl hn hl.1 hst (lv_room hW) hdg (by rw [hrm]; exact hcs)) hS (fun q _ h => z_free C (zD_l hD) hS q h) (z_free C (zD_l hD) hS) (fun r2 u t0 H1 locs1 ht hvm hw2 hB hz1 hk1 hS1 => ?_)
  obtain ⟨hP1, hK1, hD1⟩ := hB
  rw [ht] at hP1
  obtain ⟨hP2, hD2⟩ := z_joinL hP hD hk1 (z_free C (zD_l hD) hS) hP1 hD1
  subst hw2
  exact kk H1 locs1 ls hP2 hD2 hS1 hl
theorem z_callRl {E : zE} {cc : ByteArray} {nL : Nat} {own : String} {Ts : List Cond} {rm : Room} {t : zTy} {ce sl pc : Nat} {w1 w2 w' : va_W} {lv : List (Nat × Value)} {stk : List Value} (C : zC E cc nL own Ts rm t) {y : MethodName} {ws ws' : List Cond} {fr lo : Nat} {b : Nat} {As rest : List Value} {r : Int64} {bytes : ByteArray} {maxL n index : Nat} {ret : Option FieldType} {Cn : String} {T : u_T} {N ci : Nat} {fs : List Value} (hM : zMl (ze_l E) y ws fr lo (ze_D E) t (.ref b :: As) w2 r w') (hg : GoodIn Ts (wsV own index Cn y ws)) (hw : ws = Cond.code y bytes maxL ret :: ws') (hd : y.cls = Cn ∧ y.cls ≠ "java/lang/invoke/MethodHandle" ∧ y.cls ≠ "java/lang/invoke/VarHandle" ∧ (parseMethodDescriptor y.desc).map (fun d => d.parameters.length) = some n) (hR : fr + 1 ≤ rm.frames ∧ 8 + (maxL + 11) + lo ≤ rm.locals) (hcs : ce ≤ rm.cells ∧ sl ≤ rm.slots) (q0 : Nat) (he : w2[q0]? = some (b, .inr (ci, fs))) (hc : vwCl[ci]? = some (Cn, T, N)) (hn : As.length = n) (hst : stk = As.reverse ++ .ref b :: rest) (hW : (rest.map fun v => v.category).sum ≤ 8) (hdg : decode cc pc = .ok (.invokevirtual index, 3)) (kk : zG E nL ce sl (w1 ++ w') (pc + 3) lv (.long r :: rest)) : zG E nL ce sl (w1 ++ w2) pc lv stk := by
  intro H locs ls hP hD hS hl
  have hrm := C.rm
  refine va_calll (va_runV (As := As) (rest := rest) ⟨C.ex, C.cd, C.ml, C.ow, C.ts⟩ (hM H.size) (cwV n C.ts hg hw rfl rfl hd (by rw [hrm]; exact hR)) ⟨z_preB, va_recv C.k (zP_r hP) (ci := ci) (q0 := q0) hc he, z_pre C (zP_r hP) (zD_r hD) hS⟩ rfl hn hl.1 hst (lv_room hW) hdg (by rw [hrm]; exact hcs)) hS (fun q _ h => z_free C (zD_r hD) hS q h) (z_free C (zD_r hD) hS) (fun r2 u t0 H1 locs1 ht hvm hw2 hB hz1 hk1 hS1 => ?_)
  obtain ⟨hP1, hK1, hD1⟩ := hB
  rw [ht] at hP1
  obtain ⟨hP2, hD2⟩ := z_joinR hP hD hk1 (z_free C (zD_r hD) hS) hP1 hD1
  subst hw2
  exact kk H1 locs1 ls hP2 hD2 hS1 hl

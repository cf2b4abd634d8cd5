theorem zfill_s (f : Nat → Int32) (i : Nat) (v : Int32) : upd (zfill f i v) i v = zfill f (i + 1) v := by
  funext j
  by_cases h : j = i
  · subst h; simp [upd, zfill]
  · have e : (j < i) = (j < i + 1) := by
      apply propext; omega
    simp [upd, zfill, h, e]
theorem zfill_0 (f : Nat → Int32) (v : Int32) : zfill f 0 v = f := by
  funext j; simp [zfill]
theorem hdJ7_fill_53178 : yJ7_fill_53178.cls ≠ "java/lang/invoke/MethodHandle" ∧ yJ7_fill_53178.cls ≠ "java/lang/invoke/VarHandle" ∧ (parseMethodDescriptor yJ7_fill_53178.desc).map (fun d => d.parameters.length) = some 2 := by decide +kernel
set_option maxHeartbeats 4000000 in
set_option maxRecDepth 100000 in
theorem kJ7_fill_5 (E : zE) (t : zTy) (w w' : va_W) (q0 b n : Nat) (f : Nat → Int32) (v : Int32) (hn : n < 2 ^ 31) (hq : q0 < w.length) (hw : w.set q0 (b, .inl (t.1, n, .inl (zfill f n v))) = w') (C : zC E cJ7_fill_53178 4 RJ7 wsJ7_fill_53178 (zrm 0 0) t) (R : zRv E cJ7_fill_53178 4 w') : ∀ (k i : Nat), i + k = n → zG E 4 0 0 (w.set q0 (b, .inl (t.1, n, .inl (zfill f i v)))) 5 [(0, .ref b), (1, .int v), (2, .int (nI i)), (3, .int (nI n))] [] := by
  intro k
  induction k with
  | zero =>
    intro i hi
    have hi : i = n := by omega
    subst hi
    refine z_iload_n C dJ7_fill_53178_5 rfl 2 rfl ?_
    refine z_iload_n C dJ7_fill_53178_6 rfl 3 rfl ?_
    refine z_icmp_ge C 20 dJ7_fill_53178_7 (by decide) (fun c => ?_) (fun c => ?_)
    · rw [hw]
      exact R _ _ dJ7_fill_53178_20
    · exact absurd (nI_le (Nat.le_refl i) hn) c
  | succ k ih =>
    intro i hi
    refine z_iload_n C dJ7_fill_53178_5 rfl 2 rfl ?_
    refine z_iload_n C dJ7_fill_53178_6 rfl 3 rfl ?_
    refine z_icmp_ge C 20 dJ7_fill_53178_7 (by decide) (fun c => ?_) (fun c => ?_)
    · exact absurd c (nI_ge (by omega) hn)
    · refine z_aload_n C dJ7_fill_53178_10 rfl 0 rfl ?_
      refine z_iload_n C dJ7_fill_53178_11 rfl 2 rfl ?_
      refine z_iload_n C dJ7_fill_53178_12 rfl 1 rfl ?_
      refine z_iast C q0 (List.getElem?_set_self hq) (ixok_of (vp_in_nI (by omega) hn)) (w' := w.set q0 (b, .inl (t.1, n, .inl (zfill f (i + 1) v)))) ?_ dJ7_fill_53178_13 ?_
      · rw [List.set_set, nI_clamp (by omega), zfill_s]
      · refine z_iinc C (nI (i + 1)) [(2, .int (nI (i + 1))), (0, .ref b), (1, .int v), (3, .int (nI n))] dJ7_fill_53178_14 2 rfl (nI_1 i) (by decide) rfl ?_
        refine z_goto C 5 dJ7_fill_53178_17 (by decide) ?_
        exact z_sub [1, 2, 0, 3] rfl (ih (i + 1) (by omega))
set_option maxHeartbeats 4000000 in
set_option maxRecDepth 100000 in
theorem tJ7_fill_53178 (l : Launch) (D : va_G) (t : zTy) (w : va_W) (q0 : Nat) {b n : Nat} {f : Nat → Int32} {v : Int32} {w' : va_W} (ha : w[q0]? = some (b, .inl (t.1, n, .inl f))) (hn : n < 2 ^ 31) (hw : w.set q0 (b, .inl (t.1, n, .inl (zfill f n v))) = w') : zMv l yJ7_fill_53178 wsJ7_fill_53178 0 0 D t [.ref b, .int v] w w' := by
  refine z_entry_v (cc := cJ7_fill_53178) (nL := 4) (by decide) rfl (Nat.le_of_ble_eq_true rfl) (fun E _ _ C R => ?_)
  refine z_sub (lv' := [(0, .ref b), (1, .int v)]) [0, 1] rfl ?_
  refine z_iconst C dJ7_fill_53178_0 0 rfl ?_
  refine z_istore_n C [(2, .int 0), (0, .ref b), (1, .int v)] dJ7_fill_53178_1 rfl (by decide) rfl ?_
  refine z_aload_n C dJ7_fill_53178_2 rfl 1 rfl ?_
  refine z_alen C q0 0 ha rfl (nI n) rfl dJ7_fill_53178_3 ?_
  refine z_istore_n C [(3, .int (nI n)), (2, .int 0), (0, .ref b), (1, .int v)] dJ7_fill_53178_4 rfl (by decide) rfl ?_
  have hq : q0 < w.length := (List.getElem?_eq_some_iff.mp ha).1
  have h0 : w.set q0 (b, .inl (t.1, n, .inl (zfill f 0 v))) = w := by
    rw [zfill_0]
    have e := (List.getElem?_eq_some_iff.mp ha).2
    rw [← e]
    exact List.set_getElem_self hq
  have K := kJ7_fill_5 E t w w' q0 b n f v hn hq hw C R n 0 (by omega)
  rw [h0] at K
  exact z_sub [2, 3, 1, 0] rfl K
/-- the same entry for a method of a class that has entries of its own (Math), where this one has none -/
theorem Met_ofWF {l : Launch} {y : MethodName} {ws ws' : List Cond} {rm : Room} {Pc : Array Value → State → Prop} {Qc : Array Value → State → Outcome → State → Prop} {mc ms : Nat} {free : Addr → Prop} {cc : ByteArray} {maxL : Nat} {ret : Option FieldType}
    (hy : plainFor y = true) (hw : ws = Cond.code y cc maxL ret :: ws')
    (body : ∀ p e s m args below meth c s₁, BodyLoose p l y (headSpec ws rm) cc maxL ret e s m args below meth c s₁ → c.maxLocals = maxL → Pc args s →
      W p l e (headSpec ws rm).room s m args below meth c s.heap [] 0 0 (MQ below Qc args s mc ms free) (entryFrame m args maxL)) : Met l y ws rm Pc Qc mc ms free := by
  refine MetFree.of_bodySF (code := cc) (maxLocals := maxL) (ret := ret) hy ?_ ?_
  · intro args s m h hn
    obtain ⟨meth, c, h1, h2, h3, h4, h5, h6, -, -⟩ := Cond.code_spec hn (atoms_spec (ws := ws) h _ (by rw [hw]; exact List.mem_cons_self))
    exact ⟨meth, c, h1, h2, h3, h4, h5, h6⟩
  · intro p e s m args below meth c s₁ B hml hP _
    have hh0 : s₁.heap = s.heap := by rw [B.state]; rfl
    obtain ⟨t, a1, o, b1, b2, b3⟩ := body p e s m args below meth c s₁ B hml hP s₁ hh0 (Stand.of_body B)
    exact ⟨t, o, a1, b1, b2, ⟨b3.1, b3.2⟩⟩
theorem z_entry_iF {l : Launch} {y : MethodName} {ws ws' : List Cond} {fr lo : Nat} {D : va_G} {t : zTy} {av : List Value} {w w' : va_W} {cc : ByteArray} {nL : Nat} {r : Int32} (hy : plainFor y = true) (hw : ws = Cond.code y cc nL (some .int) :: ws') (hlen : (lg_sl av).length ≤ nL) (body : ∀ E : zE, ze_l E = l → ze_D E = D → zC E cc nL y.cls ws (zrm fr lo) t → zRi E cc nL r w' → zG E nL 0 0 w 0 (lv_args 0 av) []) : zMi l y ws fr lo D t av w r w' := by
  intro sz
  refine Met_ofWF (cc := cc) (maxL := nL) (ret := (some .int)) hy hw ?_
  intro p e s m args below meth c s₁ B hml hv
  obtain ⟨rfl, hsz, hP, hK, hD0, hN, hT⟩ := hv
  subst hsz
  have hA : ∀ q : Nat, s.heap.size ≤ q → va_A w s.heap.size q := fun q h => Or.inr h
  have hl := lv_entry av (n := nL) hlen
  rw [lg_entry_eq]
  have hR : (headSpec ws (zrm fr lo)).room = zrm fr lo := rfl
  refine body (p, l, e, (headSpec ws (zrm fr lo)).room, s, m, av.toArray, below, meth, c, D, va_A w s.heap.size, MQ below (zQi D t w w' s.heap.size r) av.toArray s 0 0 (va_A w s.heap.size)) rfl rfl ⟨B.exec, B.bytes, hml, findClass_of_methodNamed B.named, atoms_spec (ws := ws) B.pre, hK, hA, hN, hT, hR⟩ ?_ s.heap [] _ hP hD0.self va_S.rf hl
  intro pc lv hdg H locs ls hP2 hD2 hS2 hl2
  exact W.iret (Qc := zQi D t w w' s.heap.size r) (free := va_A w s.heap.size) B.exec B.bytes B.returns (fun t ht hW => ⟨⟨_, (), rfl, rfl, by rw [ht]; exact hP2, va_K.moved hW.alike hK, hD2⟩, hS2.F ht⟩) hS2.2.2 hdg B.notSynchronized

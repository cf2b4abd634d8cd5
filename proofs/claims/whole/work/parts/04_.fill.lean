theorem zfill_s (f : Nat → Int32) (i : Nat) (v : Int32) : upd (zfill f i v) i v = zfill f (i + 1) v := by
  funext j
  by_cases h : j = i
  · subst h; simp [upd, zfill]
  · have e : (j < i) = (j < i + 1) := by
      apply propext; omega
    simp [upd, zfill, h, e]
theorem zfill_0 (f : Nat → Int32) (v : Int32) : zfill f 0 v = f := by
  funext j; simp [zfill]
theorem hdJ7_fill_53178 : yJ7_fill_53178.cls ≠ "java/lang/invoke/MethodHandle" ∧ yJ7_fill_53178.cls ≠ "java/lang/invoke/VarHandle" ∧ (parseMethodDescriptor yJ7_fill_53178.desc).map (fun d => d.parameters.length) = some 2 := by decide +kernel
set_option maxHeartbeats 4000000 in
set_option maxRecDepth 100000 in
theorem kJ7_fill_5 (E : zE) (t : zTy) (w w' : va_W) (q0 b n : Nat) (f : Nat → Int32) (v : Int32) (hn : n < 2 ^ 31) (hq : q0 < w.length) (hw : w.set q0 (b, .inl (t.1, n, .inl (zfill f n v))) = w') (C : zC E cJ7_fill_53178 4 RJ7 wsJ7_fill_53178 (zrm 0 0) t) (R : zRv E cJ7_fill_53178 4 w') : ∀ (k i : Nat), i + k = n → zG E 4 0 0 (w.set q0 (b, .inl (t.1, n, .inl (zfill f i v)))) 5 [(0, .ref b), (1, .int v), (2, .int (nI i)), (3, .int (nI n))] [] := by
  intro k
  induction k with
  | zero =>
    intro i hi
    have hi : i = n := by omega
    subst hi
    refine z_iload_n C dJ7_fill_53178_5 rfl 2 rfl ?_
    refine z_iload_n C dJ7_fill_53178_6 rfl 3 rfl ?_
    refine z_icmp_ge C 20 dJ7_fill_53178_7 (by decide) (fun c => ?_) (fun c => ?_)
    · rw [hw]
      exact R _ _ dJ7_fill_53178_20
    · exact absurd (nI_le (Nat.le_refl i) hn) c
  | succ k ih =>
    intro i hi
    refine z_iload_n C dJ7_fill_53178_5 rfl 2 rfl ?_
    refine z_iload_n C dJ7_fill_53178_6 rfl 3 rfl ?_
    refine z_icmp_ge C 20 dJ7_fill_53178_7 (by decide) (fun c => ?_) (fun c => ?_)
    · exact absurd c (nI_ge (by omega) hn)
    · refine z_aload_n C dJ7_fill_53178_10 rfl 0 rfl ?_
      refine z_iload_n C dJ7_fill_53178_11 rfl 2 rfl ?_
      refine z_iload_n C dJ7_fill_53178_12 rfl 1 rfl ?_
      refine z_iast C q0 (List.getElem?_set_self hq) (ixok_of (vp_in_nI (by omega) hn)) (w' := w.set q0 (b, .inl (t.1, n, .inl (zfill f (i + 1) v)))) ?_ dJ7_fill_53178_13 ?_
      · rw [List.set_set, nI_clamp (by omega), zfill_s]
      · refine z_iinc C (nI (i + 1)) [(2, .int (nI (i + 1))), (0, .ref b), (1, .int v), (3, .int (nI n))] dJ7_fill_53178_14 2 rfl (nI_1 i) (by decide) rfl ?_
        refine z_goto C 5 dJ7_fill_53178_17 (by decide) ?_
        exact z_sub [1, 2, 0, 3] rfl (ih (i + 1) (by omega))
set_option maxHeartbeats 4000000 in
set_option maxRecDepth 100000 in
theorem tJ7_fill_53178 (l : Launch) (D : va_G) (t : zTy) (w : va_W) (q0 : Nat) {b n : Nat} {f : Nat → Int32} {v : Int32} {w' : va_W} (ha : w[q0]? = some (b, .inl (t.1, n, .inl f))) (hn : n < 2 ^ 31) (hw : w.set q0 (b, .inl (t.1, n, .inl (zfill f n v))) = w') : zMv l yJ7_fill_53178 wsJ7_fill_53178 0 0 D t [.ref b, .int v] w w' := by
  refine z_entry_v (cc := cJ7_fill_53178) (nL := 4) (by decide) rfl (Nat.le_of_ble_eq_true rfl) (fun E _ _ C R => ?_)
  refine z_sub (lv' := [(0, .ref b), (1, .int v)]) [0, 1] rfl ?_
  refine z_iconst C dJ7_fill_53178_0 0 rfl ?_
  refine z_istore_n C [(2, .int 0), (0, .ref b), (1, .int v)] dJ7_fill_53178_1 rfl (by decide) rfl ?_
  refine z_aload_n C dJ7_fill_53178_2 rfl 1 rfl ?_
  refine z_alen C q0 0 ha rfl (nI n) rfl dJ7_fill_53178_3 ?_
  refine z_istore_n C [(3, .int (nI n)), (2, .int 0), (0, .ref b), (1, .int v)] dJ7_fill_53178_4 rfl (by decide) rfl ?_
  have hq : q0 < w.length := (List.getElem?_eq_some_iff.mp ha).1
  have h0 : w.set q0 (b, .inl (t.1, n, .inl (zfill f 0 v))) = w := by
    rw [zfill_0]
    have e := (List.getElem?_eq_some_iff.mp ha).2
    rw [← e]
    exact List.set_getElem_self hq
  have K := kJ7_fill_5 E t w w' q0 b n f v hn hq hw C R n 0 (by omega)
  rw [h0] at K
  exact z_sub [2, 3, 1, 0] rfl K

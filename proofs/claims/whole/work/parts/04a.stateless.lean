set_option maxHeartbeats 4000000 in
set_option maxRecDepth 100000 in
theorem kX0_commonDivisor_9 (E : zE) (t : zTy) (w : va_W) (out : Int64) (C : zC E cX0_commonDivisor 11 RX0 wsX0_commonDivisor (zrm 0 0) t) (R : zRl E cX0_commonDivisor 11 out w) : ∀ (n : Nat) (v4 : Int64) (v6 : Int64) (v8 : Int32), fX0_commonDivisor_9 n v4 v6 v8 = some out → zG E 11 0 0 w 9 [(4, .long v4), (6, .long v6), (8, .int v8)] [] := by
  intro n
  induction n with
  | zero =>
    intro v4 v6 v8 hf
    cases hf
  | succ n ih =>
    intro v4 v6 v8 hf
    rw [fX0_commonDivisor_9] at hf
    refine z_iload C dX0_commonDivisor_9 2 rfl ?_
    refine z_bipush C dX0_commonDivisor_11 100 rfl ?_
    refine z_icmp_ge C 44 dX0_commonDivisor_13 (by decide) (fun c1 => ?_) (fun c1 => ?_)
    · replace hf := z_ift c1 hf
      refine z_lload C dX0_commonDivisor_44 0 rfl ?_
      cases hf
      exact R _ _ dX0_commonDivisor_46
    · replace hf := z_iff c1 hf
      refine z_lload C dX0_commonDivisor_16 1 rfl ?_
      refine z_lconst C dX0_commonDivisor_18 0 rfl ?_
      refine z_lcmp_eq C 44 dX0_commonDivisor_19 dX0_commonDivisor_20 (by decide) (fun c2 => ?_) (fun c2 => ?_)
      · replace hf := z_ift c2 hf
        refine z_lload C dX0_commonDivisor_44 0 rfl ?_
        cases hf
        exact R _ _ dX0_commonDivisor_46
      · replace hf := z_iff c2 hf
        refine z_lload C dX0_commonDivisor_23 0 rfl ?_
        refine z_lload C dX0_commonDivisor_25 1 rfl ?_
        obtain ⟨h3, hf⟩ := z_div hf
        refine z_lrem C h3 dX0_commonDivisor_27 ?_
        refine z_lstore C [(9, .long (v4 - v4 / v6 * v6)), (4, .long v4), (6, .long v6), (8, .int v8)] dX0_commonDivisor_28 (by decide) rfl ?_
        refine z_lload C dX0_commonDivisor_30 2 rfl ?_
        refine z_lstore C [(4, .long v6), (9, .long (v4 - v4 / v6 * v6)), (6, .long v6), (8, .int v8)] dX0_commonDivisor_32 (by decide) rfl ?_
        refine z_lload C dX0_commonDivisor_34 1 rfl ?_
        refine z_lstore C [(6, .long (v4 - v4 / v6 * v6)), (4, .long v6), (9, .long (v4 - v4 / v6 * v6)), (8, .int v8)] dX0_commonDivisor_36 (by decide) rfl ?_
        refine z_iinc C (v8 + 1) [(8, .int (v8 + 1)), (6, .long (v4 - v4 / v6 * v6)), (4, .long v6), (9, .long (v4 - v4 / v6 * v6))] dX0_commonDivisor_38 3 rfl rfl (by decide) rfl ?_
        refine z_goto C 9 dX0_commonDivisor_41 (by decide) ?_
        exact z_sub [2, 1, 0] rfl (ih _ _ _ hf)
theorem hdX0_commonDivisor : yX0_commonDivisor.cls ≠ "java/lang/invoke/MethodHandle" ∧ yX0_commonDivisor.cls ≠ "java/lang/invoke/VarHandle" ∧ (parseMethodDescriptor yX0_commonDivisor.desc).map (fun d => d.parameters.length) = some 2 := by decide +kernel
set_option maxHeartbeats 4000000 in
set_option maxRecDepth 100000 in
theorem tX0_commonDivisor (l : Launch) (D : va_G) (t : zTy) (w : va_W) {v0 : Int64} {v2 : Int64} {out : Int64} (hf : fX0_commonDivisor v0 v2 = some out) : zMl l yX0_commonDivisor wsX0_commonDivisor 0 0 D t [.long v0, .long v2] w out w := by
  refine z_entry_l (cc := cX0_commonDivisor) (nL := 11) (by decide) rfl (Nat.le_of_ble_eq_true rfl) (fun E _ _ C R => ?_)
  refine z_sub (lv' := [(0, .long v0), (2, .long v2)]) [0, 1] rfl ?_
  rw [fX0_commonDivisor] at hf
  refine z_lload_n C dX0_commonDivisor_0 rfl 0 rfl ?_
  refine z_lstore C [(4, .long v0), (0, .long v0), (2, .long v2)] dX0_commonDivisor_1 (by decide) rfl ?_
  refine z_lload_n C dX0_commonDivisor_3 rfl 2 rfl ?_
  refine z_lstore C [(6, .long v2), (4, .long v0), (0, .long v0), (2, .long v2)] dX0_commonDivisor_4 (by decide) rfl ?_
  refine z_iconst C dX0_commonDivisor_6 0 rfl ?_
  refine z_istore C [(8, .int 0), (6, .long v2), (4, .long v0), (0, .long v0), (2, .long v2)] dX0_commonDivisor_7 (by decide) rfl ?_
  exact z_sub [2, 1, 0] rfl (kX0_commonDivisor_9 E t w out C R 200 _ _ _ hf)
set_option maxHeartbeats 4000000 in
set_option maxRecDepth 100000 in
theorem kX0_nearestWhole_39 (E : zE) (t : zTy) (w : va_W) (out : Int32) (C : zC E cX0_nearestWhole 11 RX0 wsX0_nearestWhole (zrm 1 15) t) (R : zRi E cX0_nearestWhole 11 out w) : ∀ (v0 : Int64) (s0 : Int64) (s1 : Int64), fX0_nearestWhole_39 v0 s0 s1 = some out → zG E 11 0 0 w 39 [(0, .long v0)] [.long s0, .long s1] := by
  intro v0 s0 s1 hf
  rw [fX0_nearestWhole_39] at hf
  refine z_ladd C dX0_nearestWhole_39 ?_
  refine z_lstore C [(8, .long (s1 + s0)), (0, .long v0)] dX0_nearestWhole_40 (by decide) rfl ?_
  refine z_lload C dX0_nearestWhole_42 0 rfl ?_
  refine z_ldc2 C 9999 (by decide +kernel) dX0_nearestWhole_44 ?_
  refine z_mminl C (by decide +kernel) (by decide +kernel) (by decide +kernel) (by decide +kernel) (Nat.le_of_ble_eq_true rfl) (Nat.le_of_ble_eq_true rfl) (Nat.zero_le _) (Nat.zero_le _) dX0_nearestWhole_47 ?_
  refine z_l2i C dX0_nearestWhole_50 ?_
  refine z_istore C [(10, .int ((if 9999 < (s1 + s0) then 9999 else (s1 + s0)).toInt32)), (8, .long (s1 + s0)), (0, .long v0)] dX0_nearestWhole_51 (by decide) rfl ?_
  refine z_lload_n C dX0_nearestWhole_53 rfl 2 rfl ?_
  refine z_lconst C dX0_nearestWhole_54 0 rfl ?_
  refine z_lcmp_ge C 65 dX0_nearestWhole_55 dX0_nearestWhole_56 (by decide) (fun c5 => ?_) (fun c5 => ?_)
  · replace hf := z_ift c5 hf
    refine z_iload C dX0_nearestWhole_65 0 rfl ?_
    cases hf
    exact R _ _ dX0_nearestWhole_67
  · replace hf := z_iff c5 hf
    refine z_iload C dX0_nearestWhole_59 0 rfl ?_
    refine z_ineg C dX0_nearestWhole_61 ?_
    refine z_goto C 67 dX0_nearestWhole_62 (by decide) ?_
    cases hf
    exact R _ _ dX0_nearestWhole_67
theorem hdX0_nearestWhole : yX0_nearestWhole.cls ≠ "java/lang/invoke/MethodHandle" ∧ yX0_nearestWhole.cls ≠ "java/lang/invoke/VarHandle" ∧ (parseMethodDescriptor yX0_nearestWhole.desc).map (fun d => d.parameters.length) = some 2 := by decide +kernel
set_option maxHeartbeats 4000000 in
set_option maxRecDepth 100000 in
theorem tX0_nearestWhole (l : Launch) (D : va_G) (t : zTy) (w : va_W) {v0 : Int64} {v2 : Int64} {out : Int32} (hf : fX0_nearestWhole v0 v2 = some out) : zMi l yX0_nearestWhole wsX0_nearestWhole 1 15 D t [.long v0, .long v2] w out w := by
  refine z_entry_i (cc := cX0_nearestWhole) (nL := 11) (by decide) rfl (Nat.le_of_ble_eq_true rfl) (fun E _ _ C R => ?_)
  refine z_sub (lv' := [(0, .long v0), (2, .long v2)]) [0, 1] rfl ?_
  rw [fX0_nearestWhole] at hf
  refine z_lload_n C dX0_nearestWhole_0 rfl 1 rfl ?_
  refine z_lconst C dX0_nearestWhole_1 0 rfl ?_
  refine z_lcmp_gt C 8 dX0_nearestWhole_2 dX0_nearestWhole_3 (by decide) (fun c1 => ?_) (fun c1 => ?_)
  · replace hf := z_ift c1 hf
    refine z_lload_n C dX0_nearestWhole_8 rfl 0 rfl ?_
    refine z_mabsl C (by decide +kernel) (by decide +kernel) (by decide +kernel) (by decide +kernel) (Nat.le_of_ble_eq_true rfl) (Nat.le_of_ble_eq_true rfl) (Nat.zero_le _) (Nat.zero_le _) dX0_nearestWhole_9 ?_
    refine z_lstore C [(4, .long (if 0 < v0 then v0 else -v0)), (0, .long v0), (2, .long v2)] dX0_nearestWhole_12 (by decide) rfl ?_
    refine z_lload C dX0_nearestWhole_14 0 rfl ?_
    refine z_lload_n C dX0_nearestWhole_16 rfl 2 rfl ?_
    obtain ⟨h2, hf⟩ := z_div hf
    refine z_lrem C h2 dX0_nearestWhole_17 ?_
    refine z_lstore C [(6, .long ((if 0 < v0 then v0 else -v0) - (if 0 < v0 then v0 else -v0) / v2 * v2)), (4, .long (if 0 < v0 then v0 else -v0)), (0, .long v0), (2, .long v2)] dX0_nearestWhole_18 (by decide) rfl ?_
    refine z_lload C dX0_nearestWhole_20 1 rfl ?_
    refine z_lload_n C dX0_nearestWhole_22 rfl 3 rfl ?_
    obtain ⟨h3, hf⟩ := z_div hf
    refine z_ldiv C h3 dX0_nearestWhole_23 ?_
    refine z_lload C dX0_nearestWhole_24 0 rfl ?_
    refine z_lload_n C dX0_nearestWhole_26 rfl 3 rfl ?_
    refine z_lload C dX0_nearestWhole_27 0 rfl ?_
    refine z_lsub C dX0_nearestWhole_29 ?_
    refine z_lcmp_lt C 38 dX0_nearestWhole_30 dX0_nearestWhole_31 (by decide) (fun c4 => ?_) (fun c4 => ?_)
    · replace hf := z_ift c4 hf
      refine z_lconst C dX0_nearestWhole_38 0 rfl ?_
      exact z_sub [2] rfl (kX0_nearestWhole_39 E t w out C R _ _ _ hf)
    · replace hf := z_iff c4 hf
      refine z_lconst C dX0_nearestWhole_34 1 rfl ?_
      refine z_goto C 39 dX0_nearestWhole_35 (by decide) ?_
      exact z_sub [2] rfl (kX0_nearestWhole_39 E t w out C R _ _ _ hf)
  · replace hf := z_iff c1 hf
    refine z_iconst C dX0_nearestWhole_6 0 rfl ?_
    cases hf
    exact R _ _ dX0_nearestWhole_7
theorem hdJ6_bitCount_0f7a4 : yJ6_bitCount_0f7a4.cls ≠ "java/lang/invoke/MethodHandle" ∧ yJ6_bitCount_0f7a4.cls ≠ "java/lang/invoke/VarHandle" ∧ (parseMethodDescriptor yJ6_bitCount_0f7a4.desc).map (fun d => d.parameters.length) = some 1 := by decide +kernel
set_option maxHeartbeats 4000000 in
set_option maxRecDepth 100000 in
theorem tJ6_bitCount_0f7a4 (l : Launch) (D : va_G) (t : zTy) (w : va_W) {v0 : Int32} {out : Int32} (hf : fJ6_bitCount_0f7a4 v0 = some out) : zMi l yJ6_bitCount_0f7a4 wsJ6_bitCount_0f7a4 0 0 D t [.int v0] w out w := by
  refine z_entry_i (cc := cJ6_bitCount_0f7a4) (nL := 1) (by decide) rfl (Nat.le_of_ble_eq_true rfl) (fun E _ _ C R => ?_)
  refine z_sub (lv' := [(0, .int v0)]) [0] rfl ?_
  rw [fJ6_bitCount_0f7a4] at hf
  refine z_iload_n C dJ6_bitCount_0f7a4_0 rfl 0 rfl ?_
  refine z_iload_n C dJ6_bitCount_0f7a4_1 rfl 0 rfl ?_
  refine z_iconst C dJ6_bitCount_0f7a4_2 1 rfl ?_
  refine z_iushr C dJ6_bitCount_0f7a4_3 ?_
  refine z_ldcw C 1431655765 (by decide +kernel) dJ6_bitCount_0f7a4_4 ?_
  refine z_iand C dJ6_bitCount_0f7a4_7 ?_
  refine z_isub C dJ6_bitCount_0f7a4_8 ?_
  refine z_istore_n C [(0, .int (v0 - (((v0.toUInt32 >>> ((1 : Int32).toUInt32 &&& Int32.toUInt32 31)).toInt32) &&& 1431655765)))] dJ6_bitCount_0f7a4_9 rfl (by decide) rfl ?_
  refine z_iload_n C dJ6_bitCount_0f7a4_10 rfl 0 rfl ?_
  refine z_ldcw C 858993459 (by decide +kernel) dJ6_bitCount_0f7a4_11 ?_
  refine z_iand C dJ6_bitCount_0f7a4_14 ?_
  refine z_iload_n C dJ6_bitCount_0f7a4_15 rfl 0 rfl ?_
  refine z_iconst C dJ6_bitCount_0f7a4_16 2 rfl ?_
  refine z_iushr C dJ6_bitCount_0f7a4_17 ?_
  refine z_ldcw C 858993459 (by decide +kernel) dJ6_bitCount_0f7a4_18 ?_
  refine z_iand C dJ6_bitCount_0f7a4_21 ?_
  refine z_iadd C dJ6_bitCount_0f7a4_22 ?_
  refine z_istore_n C [(0, .int (((v0 - (((v0.toUInt32 >>> ((1 : Int32).toUInt32 &&& Int32.toUInt32 31)).toInt32) &&& 1431655765)) &&& 858993459) + ((((v0 - (((v0.toUInt32 >>> ((1 : Int32).toUInt32 &&& Int32.toUInt32 31)).toInt32) &&& 1431655765)).toUInt32 >>> ((2 : Int32).toUInt32 &&& Int32.toUInt32 31)).toInt32) &&& 858993459)))] dJ6_bitCount_0f7a4_23 rfl (by decide) rfl ?_
  refine z_iload_n C dJ6_bitCount_0f7a4_24 rfl 0 rfl ?_
  refine z_iload_n C dJ6_bitCount_0f7a4_25 rfl 0 rfl ?_
  refine z_iconst C dJ6_bitCount_0f7a4_26 4 rfl ?_
  refine z_iushr C dJ6_bitCount_0f7a4_27 ?_
  refine z_iadd C dJ6_bitCount_0f7a4_28 ?_
  refine z_ldcw C 252645135 (by decide +kernel) dJ6_bitCount_0f7a4_29 ?_
  refine z_iand C dJ6_bitCount_0f7a4_32 ?_
  refine z_istore_n C [(0, .int (((((v0 - (((v0.toUInt32 >>> ((1 : Int32).toUInt32 &&& Int32.toUInt32 31)).toInt32) &&& 1431655765)) &&& 858993459) + ((((v0 - (((v0.toUInt32 >>> ((1 : Int32).toUInt32 &&& Int32.toUInt32 31)).toInt32) &&& 1431655765)).toUInt32 >>> ((2 : Int32).toUInt32 &&& Int32.toUInt32 31)).toInt32) &&& 858993459)) + (((((v0 - (((v0.toUInt32 >>> ((1 : Int32).toUInt32 &&& Int32.toUInt32 31)).toInt32) &&& 1431655765)) &&& 858993459) + ((((v0 - (((v0.toUInt32 >>> ((1 : Int32).toUInt32 &&& Int32.toUInt32 31)).toInt32) &&& 1431655765)).toUInt32 >>> ((2 : Int32).toUInt32 &&& Int32.toUInt32 31)).toInt32) &&& 858993459)).toUInt32 >>> ((4 : Int32).toUInt32 &&& Int32.toUInt32 31)).toInt32)) &&& 252645135))] dJ6_bitCount_0f7a4_33 rfl (by decide) rfl ?_
  refine z_iload_n C dJ6_bitCount_0f7a4_34 rfl 0 rfl ?_
  refine z_iload_n C dJ6_bitCount_0f7a4_35 rfl 0 rfl ?_
  refine z_bipush C dJ6_bitCount_0f7a4_36 8 rfl ?_
  refine z_iushr C dJ6_bitCount_0f7a4_38 ?_
  refine z_iadd C dJ6_bitCount_0f7a4_39 ?_
  refine z_istore_n C [(0, .int ((((((v0 - (((v0.toUInt32 >>> ((1 : Int32).toUInt32 &&& Int32.toUInt32 31)).toInt32) &&& 1431655765)) &&& 858993459) + ((((v0 - (((v0.toUInt32 >>> ((1 : Int32).toUInt32 &&& Int32.toUInt32 31)).toInt32) &&& 1431655765)).toUInt32 >>> ((2 : Int32).toUInt32 &&& Int32.toUInt32 31)).toInt32) &&& 858993459)) + (((((v0 - (((v0.toUInt32 >>> ((1 : Int32).toUInt32 &&& Int32.toUInt32 31)).toInt32) &&& 1431655765)) &&& 858993459) + ((((v0 - (((v0.toUInt32 >>> ((1 : Int32).toUInt32 &&& Int32.toUInt32 31)).toInt32) &&& 1431655765)).toUInt32 >>> ((2 : Int32).toUInt32 &&& Int32.toUInt32 31)).toInt32) &&& 858993459)).toUInt32 >>> ((4 : Int32).toUInt32 &&& Int32.toUInt32 31)).toInt32)) &&& 252645135) + (((((((v0 - (((v0.toUInt32 >>> ((1 : Int32).toUInt32 &&& Int32.toUInt32 31)).toInt32) &&& 1431655765)) &&& 858993459) + ((((v0 - (((v0.toUInt32 >>> ((1 : Int32).toUInt32 &&& Int32.toUInt32 31)).toInt32) &&& 1431655765)).toUInt32 >>> ((2 : Int32).toUInt32 &&& Int32.toUInt32 31)).toInt32) &&& 858993459)) + (((((v0 - (((v0.toUInt32 >>> ((1 : Int32).toUInt32 &&& Int32.toUInt32 31)).toInt32) &&& 1431655765)) &&& 858993459) + ((((v0 - (((v0.toUInt32 >>> ((1 : Int32).toUInt32 &&& Int32.toUInt32 31)).toInt32) &&& 1431655765)).toUInt32 >>> ((2 : Int32).toUInt32 &&& Int32.toUInt32 31)).toInt32) &&& 858993459)).toUInt32 >>> ((4 : Int32).toUInt32 &&& Int32.toUInt32 31)).toInt32)) &&& 252645135).toUInt32 >>> ((8 : Int32).toUInt32 &&& Int32.toUInt32 31)).toInt32)))] dJ6_bitCount_0f7a4_40 rfl (by decide) rfl ?_
  refine z_iload_n C dJ6_bitCount_0f7a4_41 rfl 0 rfl ?_
  refine z_iload_n C dJ6_bitCount_0f7a4_42 rfl 0 rfl ?_
  refine z_bipush C dJ6_bitCount_0f7a4_43 16 rfl ?_
  refine z_iushr C dJ6_bitCount_0f7a4_45 ?_
  refine z_iadd C dJ6_bitCount_0f7a4_46 ?_
  refine z_istore_n C [(0, .int (((((((v0 - (((v0.toUInt32 >>> ((1 : Int32).toUInt32 &&& Int32.toUInt32 31)).toInt32) &&& 1431655765)) &&& 858993459) + ((((v0 - (((v0.toUInt32 >>> ((1 : Int32).toUInt32 &&& Int32.toUInt32 31)).toInt32) &&& 1431655765)).toUInt32 >>> ((2 : Int32).toUInt32 &&& Int32.toUInt32 31)).toInt32) &&& 858993459)) + (((((v0 - (((v0.toUInt32 >>> ((1 : Int32).toUInt32 &&& Int32.toUInt32 31)).toInt32) &&& 1431655765)) &&& 858993459) + ((((v0 - (((v0.toUInt32 >>> ((1 : Int32).toUInt32 &&& Int32.toUInt32 31)).toInt32) &&& 1431655765)).toUInt32 >>> ((2 : Int32).toUInt32 &&& Int32.toUInt32 31)).toInt32) &&& 858993459)).toUInt32 >>> ((4 : Int32).toUInt32 &&& Int32.toUInt32 31)).toInt32)) &&& 252645135) + (((((((v0 - (((v0.toUInt32 >>> ((1 : Int32).toUInt32 &&& Int32.toUInt32 31)).toInt32) &&& 1431655765)) &&& 858993459) + ((((v0 - (((v0.toUInt32 >>> ((1 : Int32).toUInt32 &&& Int32.toUInt32 31)).toInt32) &&& 1431655765)).toUInt32 >>> ((2 : Int32).toUInt32 &&& Int32.toUInt32 31)).toInt32) &&& 858993459)) + (((((v0 - (((v0.toUInt32 >>> ((1 : Int32).toUInt32 &&& Int32.toUInt32 31)).toInt32) &&& 1431655765)) &&& 858993459) + ((((v0 - (((v0.toUInt32 >>> ((1 : Int32).toUInt32 &&& Int32.toUInt32 31)).toInt32) &&& 1431655765)).toUInt32 >>> ((2 : Int32).toUInt32 &&& Int32.toUInt32 31)).toInt32) &&& 858993459)).toUInt32 >>> ((4 : Int32).toUInt32 &&& Int32.toUInt32 31)).toInt32)) &&& 252645135).toUInt32 >>> ((8 : Int32).toUInt32 &&& Int32.toUInt32 31)).toInt32)) + ((((((((v0 - (((v0.toUInt32 >>> ((1 : Int32).toUInt32 &&& Int32.toUInt32 31)).toInt32) &&& 1431655765)) &&& 858993459) + ((((v0 - (((v0.toUInt32 >>> ((1 : Int32).toUInt32 &&& Int32.toUInt32 31)).toInt32) &&& 1431655765)).toUInt32 >>> ((2 : Int32).toUInt32 &&& Int32.toUInt32 31)).toInt32) &&& 858993459)) + (((((v0 - (((v0.toUInt32 >>> ((1 : Int32).toUInt32 &&& Int32.toUInt32 31)).toInt32) &&& 1431655765)) &&& 858993459) + ((((v0 - (((v0.toUInt32 >>> ((1 : Int32).toUInt32 &&& Int32.toUInt32 31)).toInt32) &&& 1431655765)).toUInt32 >>> ((2 : Int32).toUInt32 &&& Int32.toUInt32 31)).toInt32) &&& 858993459)).toUInt32 >>> ((4 : Int32).toUInt32 &&& Int32.toUInt32 31)).toInt32)) &&& 252645135) + (((((((v0 - (((v0.toUInt32 >>> ((1 : Int32).toUInt32 &&& Int32.toUInt32 31)).toInt32) &&& 1431655765)) &&& 858993459) + ((((v0 - (((v0.toUInt32 >>> ((1 : Int32).toUInt32 &&& Int32.toUInt32 31)).toInt32) &&& 1431655765)).toUInt32 >>> ((2 : Int32).toUInt32 &&& Int32.toUInt32 31)).toInt32) &&& 858993459)) + (((((v0 - (((v0.toUInt32 >>> ((1 : Int32).toUInt32 &&& Int32.toUInt32 31)).toInt32) &&& 1431655765)) &&& 858993459) + ((((v0 - (((v0.toUInt32 >>> ((1 : Int32).toUInt32 &&& Int32.toUInt32 31)).toInt32) &&& 1431655765)).toUInt32 >>> ((2 : Int32).toUInt32 &&& Int32.toUInt32 31)).toInt32) &&& 858993459)).toUInt32 >>> ((4 : Int32).toUInt32 &&& Int32.toUInt32 31)).toInt32)) &&& 252645135).toUInt32 >>> ((8 : Int32).toUInt32 &&& Int32.toUInt32 31)).toInt32)).toUInt32 >>> ((16 : Int32).toUInt32 &&& Int32.toUInt32 31)).toInt32)))] dJ6_bitCount_0f7a4_47 rfl (by decide) rfl ?_
  refine z_iload_n C dJ6_bitCount_0f7a4_48 rfl 0 rfl ?_
  refine z_bipush C dJ6_bitCount_0f7a4_49 63 rfl ?_
  refine z_iand C dJ6_bitCount_0f7a4_51 ?_
  cases hf
  exact R _ _ dJ6_bitCount_0f7a4_52
theorem hdX11_within : yX11_within.cls ≠ "java/lang/invoke/MethodHandle" ∧ yX11_within.cls ≠ "java/lang/invoke/VarHandle" ∧ (parseMethodDescriptor yX11_within.desc).map (fun d => d.parameters.length) = some 3 := by decide +kernel
set_option maxHeartbeats 4000000 in
set_option maxRecDepth 100000 in
theorem tX11_within (l : Launch) (D : va_G) (t : zTy) (w : va_W) {v0 : Int32} {v1 : Int32} {v2 : Int32} {out : Int32} (hf : fX11_within v0 v1 v2 = some out) : zMi l yX11_within wsX11_within 0 0 D t [.int v0, .int v1, .int v2] w out w := by
  refine z_entry_z (cc := cX11_within) (nL := 3) (by decide) rfl (Nat.le_of_ble_eq_true rfl) (fun E _ _ C R => ?_)
  refine z_sub (lv' := [(0, .int v0), (1, .int v1), (2, .int v2)]) [0, 1, 2] rfl ?_
  rw [fX11_within] at hf
  refine z_iload_n C dX11_within_0 rfl 0 rfl ?_
  refine z_iload_n C dX11_within_1 rfl 1 rfl ?_
  refine z_icmp_lt C 14 dX11_within_2 (by decide) (fun c1 => ?_) (fun c1 => ?_)
  · replace hf := z_ift c1 hf
    refine z_iconst C dX11_within_14 0 rfl ?_
    obtain ⟨h2, hf⟩ := z_some hf
    cases hf
    exact R _ _ dX11_within_15 h2
  · replace hf := z_iff c1 hf
    refine z_iload_n C dX11_within_5 rfl 0 rfl ?_
    refine z_iload_n C dX11_within_6 rfl 2 rfl ?_
    refine z_icmp_gt C 14 dX11_within_7 (by decide) (fun c3 => ?_) (fun c3 => ?_)
    · replace hf := z_ift c3 hf
      refine z_iconst C dX11_within_14 0 rfl ?_
      obtain ⟨h4, hf⟩ := z_some hf
      cases hf
      exact R _ _ dX11_within_15 h4
    · replace hf := z_iff c3 hf
      refine z_iconst C dX11_within_10 1 rfl ?_
      refine z_goto C 15 dX11_within_11 (by decide) ?_
      obtain ⟨h5, hf⟩ := z_some hf
      cases hf
      exact R _ _ dX11_within_15 h5
theorem hdJ9_floorMod_7cf53 : yJ9_floorMod_7cf53.cls ≠ "java/lang/invoke/MethodHandle" ∧ yJ9_floorMod_7cf53.cls ≠ "java/lang/invoke/VarHandle" ∧ (parseMethodDescriptor yJ9_floorMod_7cf53.desc).map (fun d => d.parameters.length) = some 2 := by decide +kernel
set_option maxHeartbeats 4000000 in
set_option maxRecDepth 100000 in
theorem tJ9_floorMod_7cf53 (l : Launch) (D : va_G) (t : zTy) (w : va_W) {v0 : Int32} {v1 : Int32} {out : Int32} (hf : fJ9_floorMod_7cf53 v0 v1 = some out) : zMi l yJ9_floorMod_7cf53 wsJ9_floorMod_7cf53 0 0 D t [.int v0, .int v1] w out w := by
  refine z_entry_iF (cc := cJ9_floorMod_7cf53) (nL := 3) (by decide +kernel) rfl (Nat.le_of_ble_eq_true rfl) (fun E _ _ C R => ?_)
  refine z_sub (lv' := [(0, .int v0), (1, .int v1)]) [0, 1] rfl ?_
  rw [fJ9_floorMod_7cf53] at hf
  refine z_iload_n C dJ9_floorMod_7cf53_0 rfl 0 rfl ?_
  refine z_iload_n C dJ9_floorMod_7cf53_1 rfl 1 rfl ?_
  obtain ⟨h1, hf⟩ := z_div hf
  refine z_irem C h1 dJ9_floorMod_7cf53_2 ?_
  refine z_istore_n C [(2, .int (v0 - v0 / v1 * v1)), (0, .int v0), (1, .int v1)] dJ9_floorMod_7cf53_3 rfl (by decide) rfl ?_
  refine z_iload_n C dJ9_floorMod_7cf53_4 rfl 1 rfl ?_
  refine z_iload_n C dJ9_floorMod_7cf53_5 rfl 2 rfl ?_
  refine z_ixor C dJ9_floorMod_7cf53_6 ?_
  refine z_if_ge C 18 dJ9_floorMod_7cf53_7 (by decide) (fun c2 => ?_) (fun c2 => ?_)
  · replace hf := z_ift c2 hf
    refine z_iload_n C dJ9_floorMod_7cf53_18 rfl 0 rfl ?_
    cases hf
    exact R _ _ dJ9_floorMod_7cf53_19
  · replace hf := z_iff c2 hf
    refine z_iload_n C dJ9_floorMod_7cf53_10 rfl 0 rfl ?_
    refine z_if_eq C 18 dJ9_floorMod_7cf53_11 (by decide) (fun c3 => ?_) (fun c3 => ?_)
    · replace hf := z_ift c3 hf
      refine z_iload_n C dJ9_floorMod_7cf53_18 rfl 0 rfl ?_
      cases hf
      exact R _ _ dJ9_floorMod_7cf53_19
    · replace hf := z_iff c3 hf
      refine z_iload_n C dJ9_floorMod_7cf53_14 rfl 0 rfl ?_
      refine z_iload_n C dJ9_floorMod_7cf53_15 rfl 2 rfl ?_
      refine z_iadd C dJ9_floorMod_7cf53_16 ?_
      cases hf
      exact R _ _ dJ9_floorMod_7cf53_17
theorem hdX11_held : yX11_held.cls ≠ "java/lang/invoke/MethodHandle" ∧ yX11_held.cls ≠ "java/lang/invoke/VarHandle" ∧ (parseMethodDescriptor yX11_held.desc).map (fun d => d.parameters.length) = some 3 := by decide +kernel
set_option maxHeartbeats 4000000 in
set_option maxRecDepth 100000 in
theorem tX11_held (l : Launch) (D : va_G) (t : zTy) (w : va_W) {v0 : Int32} {v1 : Int32} {v2 : Int32} {out : Int32} (hf : fX11_held v0 v1 v2 = some out) : zMi l yX11_held wsX11_held 1 14 D t [.int v0, .int v1, .int v2] w out w := by
  refine z_entry_i (cc := cX11_held) (nL := 3) (by decide) rfl (Nat.le_of_ble_eq_true rfl) (fun E _ _ C R => ?_)
  refine z_sub (lv' := [(0, .int v0), (1, .int v1), (2, .int v2)]) [0, 1, 2] rfl ?_
  rw [fX11_held] at hf
  refine z_iload_n C dX11_held_0 rfl 1 rfl ?_
  refine z_iload_n C dX11_held_1 rfl 2 rfl ?_
  refine z_iload_n C dX11_held_2 rfl 0 rfl ?_
  refine z_mmin C (by decide +kernel) (by decide +kernel) (by decide +kernel) (by decide +kernel) (Nat.le_of_ble_eq_true rfl) (Nat.le_of_ble_eq_true rfl) (Nat.zero_le _) (Nat.zero_le _) dX11_held_3 ?_
  refine z_mmax C (by decide +kernel) (by decide +kernel) (by decide +kernel) (by decide +kernel) (Nat.le_of_ble_eq_true rfl) (Nat.le_of_ble_eq_true rfl) (Nat.zero_le _) (Nat.zero_le _) dX11_held_6 ?_
  cases hf
  exact R _ _ dX11_held_9
theorem hdX2_place : yX2_place.cls ≠ "java/lang/invoke/MethodHandle" ∧ yX2_place.cls ≠ "java/lang/invoke/VarHandle" ∧ (parseMethodDescriptor yX2_place.desc).map (fun d => d.parameters.length) = some 2 := by decide +kernel
set_option maxHeartbeats 4000000 in
set_option maxRecDepth 100000 in
theorem tX2_place (l : Launch) (D : va_G) (t : zTy) (w : va_W) {v0 : Int32} {v1 : Int32} {out : Int32} (hf : fX2_place v0 v1 = some out) : zMi l yX2_place wsX2_place 0 0 D t [.int v0, .int v1] w out w := by
  refine z_entry_i (cc := cX2_place) (nL := 2) (by decide) rfl (Nat.le_of_ble_eq_true rfl) (fun E _ _ C R => ?_)
  refine z_sub (lv' := [(0, .int v0), (1, .int v1)]) [0, 1] rfl ?_
  rw [fX2_place] at hf
  refine z_iload_n C dX2_place_0 rfl 0 rfl ?_
  refine z_bipush C dX2_place_1 121 rfl ?_
  refine z_imul C dX2_place_3 ?_
  refine z_bipush C dX2_place_4 60 rfl ?_
  refine z_iadd C dX2_place_6 ?_
  refine z_iload_n C dX2_place_7 rfl 1 rfl ?_
  refine z_iadd C dX2_place_8 ?_
  cases hf
  exact R _ _ dX2_place_9
theorem hdX11_cut : yX11_cut.cls ≠ "java/lang/invoke/MethodHandle" ∧ yX11_cut.cls ≠ "java/lang/invoke/VarHandle" ∧ (parseMethodDescriptor yX11_cut.desc).map (fun d => d.parameters.length) = some 2 := by decide +kernel
set_option maxHeartbeats 4000000 in
set_option maxRecDepth 100000 in
theorem tX11_cut (l : Launch) (D : va_G) (t : zTy) (w : va_W) {v0 : Int32} {v1 : Int32} {out : Int32} (hf : fX11_cut v0 v1 = some out) : zMi l yX11_cut wsX11_cut 0 0 D t [.int v0, .int v1] w out w := by
  refine z_entry_i (cc := cX11_cut) (nL := 2) (by decide) rfl (Nat.le_of_ble_eq_true rfl) (fun E _ _ C R => ?_)
  refine z_sub (lv' := [(0, .int v0), (1, .int v1)]) [0, 1] rfl ?_
  rw [fX11_cut] at hf
  refine z_iload_n C dX11_cut_0 rfl 1 rfl ?_
  refine z_if_le C 10 dX11_cut_1 (by decide) (fun c1 => ?_) (fun c1 => ?_)
  · replace hf := z_ift c1 hf
    refine z_iconst C dX11_cut_10 0 rfl ?_
    cases hf
    exact R _ _ dX11_cut_11
  · replace hf := z_iff c1 hf
    refine z_iload_n C dX11_cut_4 rfl 0 rfl ?_
    refine z_iload_n C dX11_cut_5 rfl 1 rfl ?_
    obtain ⟨h2, hf⟩ := z_div hf
    refine z_idiv C h2 dX11_cut_6 ?_
    refine z_goto C 11 dX11_cut_7 (by decide) ?_
    cases hf
    exact R _ _ dX11_cut_11
theorem hdX11_isSheet : yX11_isSheet.cls ≠ "java/lang/invoke/MethodHandle" ∧ yX11_isSheet.cls ≠ "java/lang/invoke/VarHandle" ∧ (parseMethodDescriptor yX11_isSheet.desc).map (fun d => d.parameters.length) = some 1 := by decide +kernel
set_option maxHeartbeats 4000000 in
set_option maxRecDepth 100000 in
theorem tX11_isSheet (l : Launch) (D : va_G) (t : zTy) (w : va_W) {v0 : Int32} {out : Int32} (hf : fX11_isSheet v0 = some out) : zMi l yX11_isSheet wsX11_isSheet 1 22 D t [.int v0] w out w := by
  refine z_entry_z (cc := cX11_isSheet) (nL := 1) (by decide) rfl (Nat.le_of_ble_eq_true rfl) (fun E _ _ C R => ?_)
  refine z_sub (lv' := [(0, .int v0)]) [0] rfl ?_
  rw [fX11_isSheet] at hf
  refine z_iload_n C dX11_isSheet_0 rfl 0 rfl ?_
  refine z_iconst C dX11_isSheet_1 0 rfl ?_
  refine z_iconst C dX11_isSheet_2 3 rfl ?_
  obtain ⟨q1, h2, hf⟩ := z_bind hf
  refine z_callSi C (rest := []) (tX11_within (ze_l E) (ze_D E) t _ h2) gX11_isSheet_X11_within rfl hdX11_within ⟨(Nat.le_of_ble_eq_true rfl), (Nat.le_of_ble_eq_true rfl)⟩ ⟨Nat.zero_le _, Nat.zero_le _⟩ rfl rfl (Nat.le_of_ble_eq_true rfl) dX11_isSheet_3 ?_
  obtain ⟨h3, hf⟩ := z_some hf
  cases hf
  exact R _ _ dX11_isSheet_6 h3
theorem hdX11_isLane : yX11_isLane.cls ≠ "java/lang/invoke/MethodHandle" ∧ yX11_isLane.cls ≠ "java/lang/invoke/VarHandle" ∧ (parseMethodDescriptor yX11_isLane.desc).map (fun d => d.parameters.length) = some 1 := by decide +kernel
set_option maxHeartbeats 4000000 in
set_option maxRecDepth 100000 in
theorem tX11_isLane (l : Launch) (D : va_G) (t : zTy) (w : va_W) {v0 : Int32} {out : Int32} (hf : fX11_isLane v0 = some out) : zMi l yX11_isLane wsX11_isLane 1 22 D t [.int v0] w out w := by
  refine z_entry_z (cc := cX11_isLane) (nL := 1) (by decide) rfl (Nat.le_of_ble_eq_true rfl) (fun E _ _ C R => ?_)
  refine z_sub (lv' := [(0, .int v0)]) [0] rfl ?_
  rw [fX11_isLane] at hf
  refine z_iload_n C dX11_isLane_0 rfl 0 rfl ?_
  refine z_iconst C dX11_isLane_1 0 rfl ?_
  refine z_iconst C dX11_isLane_2 2 rfl ?_
  obtain ⟨q1, h2, hf⟩ := z_bind hf
  refine z_callSi C (rest := []) (tX11_within (ze_l E) (ze_D E) t _ h2) gX11_isLane_X11_within rfl hdX11_within ⟨(Nat.le_of_ble_eq_true rfl), (Nat.le_of_ble_eq_true rfl)⟩ ⟨Nat.zero_le _, Nat.zero_le _⟩ rfl rfl (Nat.le_of_ble_eq_true rfl) dX11_isLane_3 ?_
  obtain ⟨h3, hf⟩ := z_some hf
  cases hf
  exact R _ _ dX11_isLane_6 h3
theorem hdX11_isLayer : yX11_isLayer.cls ≠ "java/lang/invoke/MethodHandle" ∧ yX11_isLayer.cls ≠ "java/lang/invoke/VarHandle" ∧ (parseMethodDescriptor yX11_isLayer.desc).map (fun d => d.parameters.length) = some 1 := by decide +kernel
set_option maxHeartbeats 4000000 in
set_option maxRecDepth 100000 in
theorem tX11_isLayer (l : Launch) (D : va_G) (t : zTy) (w : va_W) {v0 : Int32} {out : Int32} (hf : fX11_isLayer v0 = some out) : zMi l yX11_isLayer wsX11_isLayer 1 22 D t [.int v0] w out w := by
  refine z_entry_z (cc := cX11_isLayer) (nL := 1) (by decide) rfl (Nat.le_of_ble_eq_true rfl) (fun E _ _ C R => ?_)
  refine z_sub (lv' := [(0, .int v0)]) [0] rfl ?_
  rw [fX11_isLayer] at hf
  refine z_iload_n C dX11_isLayer_0 rfl 0 rfl ?_
  refine z_iconst C dX11_isLayer_1 0 rfl ?_
  refine z_iconst C dX11_isLayer_2 2 rfl ?_
  obtain ⟨q1, h2, hf⟩ := z_bind hf
  refine z_callSi C (rest := []) (tX11_within (ze_l E) (ze_D E) t _ h2) gX11_isLayer_X11_within rfl hdX11_within ⟨(Nat.le_of_ble_eq_true rfl), (Nat.le_of_ble_eq_true rfl)⟩ ⟨Nat.zero_le _, Nat.zero_le _⟩ rfl rfl (Nat.le_of_ble_eq_true rfl) dX11_isLayer_3 ?_
  obtain ⟨h3, hf⟩ := z_some hf
  cases hf
  exact R _ _ dX11_isLayer_6 h3
theorem hdX11_earlier : yX11_earlier.cls ≠ "java/lang/invoke/MethodHandle" ∧ yX11_earlier.cls ≠ "java/lang/invoke/VarHandle" ∧ (parseMethodDescriptor yX11_earlier.desc).map (fun d => d.parameters.length) = some 2 := by decide +kernel
set_option maxHeartbeats 4000000 in
set_option maxRecDepth 100000 in
theorem tX11_earlier (l : Launch) (D : va_G) (t : zTy) (w : va_W) {v0 : Int32} {v1 : Int32} {out : Int32} (hf : fX11_earlier v0 v1 = some out) : zMi l yX11_earlier wsX11_earlier 1 13 D t [.int v0, .int v1] w out w := by
  refine z_entry_i (cc := cX11_earlier) (nL := 2) (by decide) rfl (Nat.le_of_ble_eq_true rfl) (fun E _ _ C R => ?_)
  refine z_sub (lv' := [(0, .int v0), (1, .int v1)]) [0, 1] rfl ?_
  rw [fX11_earlier] at hf
  refine z_iload_n C dX11_earlier_0 rfl 0 rfl ?_
  refine z_if_ne C 6 dX11_earlier_1 (by decide) (fun c1 => ?_) (fun c1 => ?_)
  · replace hf := z_iff c1 hf
    refine z_iload_n C dX11_earlier_6 rfl 1 rfl ?_
    refine z_if_ne C 14 dX11_earlier_7 (by decide) (fun c2 => ?_) (fun c2 => ?_)
    · replace hf := z_iff c2 hf
      refine z_iload_n C dX11_earlier_14 rfl 0 rfl ?_
      refine z_iload_n C dX11_earlier_15 rfl 1 rfl ?_
      refine z_mmax C (by decide +kernel) (by decide +kernel) (by decide +kernel) (by decide +kernel) (Nat.le_of_ble_eq_true rfl) (Nat.le_of_ble_eq_true rfl) (Nat.zero_le _) (Nat.zero_le _) dX11_earlier_16 ?_
      cases hf
      exact R _ _ dX11_earlier_19
    · replace hf := z_ift c2 hf
      refine z_iload_n C dX11_earlier_10 rfl 0 rfl ?_
      refine z_goto C 19 dX11_earlier_11 (by decide) ?_
      cases hf
      exact R _ _ dX11_earlier_19
  · replace hf := z_ift c1 hf
    refine z_iload_n C dX11_earlier_4 rfl 1 rfl ?_
    cases hf
    exact R _ _ dX11_earlier_5
theorem hdX12_in : yX12_in.cls ≠ "java/lang/invoke/MethodHandle" ∧ yX12_in.cls ≠ "java/lang/invoke/VarHandle" ∧ (parseMethodDescriptor yX12_in.desc).map (fun d => d.parameters.length) = some 3 := by decide +kernel
set_option maxHeartbeats 4000000 in
set_option maxRecDepth 100000 in
theorem tX12_in (l : Launch) (D : va_G) (t : zTy) (w : va_W) {v0 : Int64} {v2 : Int64} {v4 : Int64} {out : Int32} (hf : fX12_in v0 v2 v4 = some out) : zMi l yX12_in wsX12_in 0 0 D t [.long v0, .long v2, .long v4] w out w := by
  refine z_entry_z (cc := cX12_in) (nL := 6) (by decide) rfl (Nat.le_of_ble_eq_true rfl) (fun E _ _ C R => ?_)
  refine z_sub (lv' := [(0, .long v0), (2, .long v2), (4, .long v4)]) [0, 1, 2] rfl ?_
  rw [fX12_in] at hf
  refine z_lload_n C dX12_in_0 rfl 0 rfl ?_
  refine z_lload_n C dX12_in_1 rfl 1 rfl ?_
  refine z_lcmp_lt C 17 dX12_in_2 dX12_in_3 (by decide) (fun c1 => ?_) (fun c1 => ?_)
  · replace hf := z_ift c1 hf
    refine z_iconst C dX12_in_17 0 rfl ?_
    obtain ⟨h2, hf⟩ := z_some hf
    cases hf
    exact R _ _ dX12_in_18 h2
  · replace hf := z_iff c1 hf
    refine z_lload_n C dX12_in_6 rfl 0 rfl ?_
    refine z_lload C dX12_in_7 2 rfl ?_
    refine z_lcmp_gt C 17 dX12_in_9 dX12_in_10 (by decide) (fun c3 => ?_) (fun c3 => ?_)
    · replace hf := z_ift c3 hf
      refine z_iconst C dX12_in_17 0 rfl ?_
      obtain ⟨h4, hf⟩ := z_some hf
      cases hf
      exact R _ _ dX12_in_18 h4
    · replace hf := z_iff c3 hf
      refine z_iconst C dX12_in_13 1 rfl ?_
      refine z_goto C 18 dX12_in_14 (by decide) ?_
      obtain ⟨h5, hf⟩ := z_some hf
      cases hf
      exact R _ _ dX12_in_18 h5
theorem hdX12_isSheet : yX12_isSheet.cls ≠ "java/lang/invoke/MethodHandle" ∧ yX12_isSheet.cls ≠ "java/lang/invoke/VarHandle" ∧ (parseMethodDescriptor yX12_isSheet.desc).map (fun d => d.parameters.length) = some 2 := by decide +kernel
set_option maxHeartbeats 4000000 in
set_option maxRecDepth 100000 in
theorem tX12_isSheet (l : Launch) (D : va_G) (t : zTy) (w : va_W) {v0 : Int32} {v1 : Int32} {out : Int32} (hf : fX12_isSheet v0 v1 = some out) : zMi l yX12_isSheet wsX12_isSheet 1 25 D t [.int v0, .int v1] w out w := by
  refine z_entry_z (cc := cX12_isSheet) (nL := 2) (by decide) rfl (Nat.le_of_ble_eq_true rfl) (fun E _ _ C R => ?_)
  refine z_sub (lv' := [(0, .int v0), (1, .int v1)]) [0, 1] rfl ?_
  rw [fX12_isSheet] at hf
  refine z_iload_n C dX12_isSheet_0 rfl 0 rfl ?_
  refine z_i2l C dX12_isSheet_1 ?_
  refine z_lconst C dX12_isSheet_2 0 rfl ?_
  refine z_ldc2 C 3 (by decide +kernel) dX12_isSheet_3 ?_
  obtain ⟨q1, h2, hf⟩ := z_bind hf
  refine z_callSi C (rest := []) (tX12_in (ze_l E) (ze_D E) t _ h2) gX12_isSheet_X12_in rfl hdX12_in ⟨(Nat.le_of_ble_eq_true rfl), (Nat.le_of_ble_eq_true rfl)⟩ ⟨Nat.zero_le _, Nat.zero_le _⟩ rfl rfl (Nat.le_of_ble_eq_true rfl) dX12_isSheet_6 ?_
  refine z_if_eq C 28 dX12_isSheet_9 (by decide) (fun c3 => ?_) (fun c3 => ?_)
  · replace hf := z_ift c3 hf
    refine z_iconst C dX12_isSheet_28 0 rfl ?_
    obtain ⟨h4, hf⟩ := z_some hf
    cases hf
    exact R _ _ dX12_isSheet_29 h4
  · replace hf := z_iff c3 hf
    refine z_iload_n C dX12_isSheet_12 rfl 1 rfl ?_
    refine z_i2l C dX12_isSheet_13 ?_
    refine z_lconst C dX12_isSheet_14 0 rfl ?_
    refine z_ldc2 C 2 (by decide +kernel) dX12_isSheet_15 ?_
    obtain ⟨q5, h6, hf⟩ := z_bind hf
    refine z_callSi C (rest := []) (tX12_in (ze_l E) (ze_D E) t _ h6) gX12_isSheet_X12_in rfl hdX12_in ⟨(Nat.le_of_ble_eq_true rfl), (Nat.le_of_ble_eq_true rfl)⟩ ⟨Nat.zero_le _, Nat.zero_le _⟩ rfl rfl (Nat.le_of_ble_eq_true rfl) dX12_isSheet_18 ?_
    refine z_if_eq C 28 dX12_isSheet_21 (by decide) (fun c7 => ?_) (fun c7 => ?_)
    · replace hf := z_ift c7 hf
      refine z_iconst C dX12_isSheet_28 0 rfl ?_
      obtain ⟨h8, hf⟩ := z_some hf
      cases hf
      exact R _ _ dX12_isSheet_29 h8
    · replace hf := z_iff c7 hf
      refine z_iconst C dX12_isSheet_24 1 rfl ?_
      refine z_goto C 29 dX12_isSheet_25 (by decide) ?_
      obtain ⟨h9, hf⟩ := z_some hf
      cases hf
      exact R _ _ dX12_isSheet_29 h9
set_option maxHeartbeats 4000000 in
set_option maxRecDepth 100000 in
theorem kX12_common_17 (E : zE) (t : zTy) (w : va_W) (out : Int64) (C : zC E cX12_common 10 RX12 wsX12_common (zrm 0 0) t) (R : zRl E cX12_common 10 out w) : ∀ (n : Nat) (v4 : Int64) (v6 : Int64), fX12_common_17 n v4 v6 = some out → zG E 10 0 0 w 17 [(4, .long v4), (6, .long v6)] [] := by
  intro n
  induction n with
  | zero =>
    intro v4 v6 hf
    cases hf
  | succ n ih =>
    intro v4 v6 hf
    rw [fX12_common_17] at hf
    refine z_lload C dX12_common_17 1 rfl ?_
    refine z_lconst C dX12_common_19 0 rfl ?_
    refine z_lcmp_eq C 42 dX12_common_20 dX12_common_21 (by decide) (fun c2 => ?_) (fun c2 => ?_)
    · replace hf := z_ift c2 hf
      refine z_lload C dX12_common_42 0 rfl ?_
      cases hf
      exact R _ _ dX12_common_44
    · replace hf := z_iff c2 hf
      refine z_lload C dX12_common_24 0 rfl ?_
      refine z_lload C dX12_common_26 1 rfl ?_
      obtain ⟨h3, hf⟩ := z_div hf
      refine z_lrem C h3 dX12_common_28 ?_
      refine z_lstore C [(8, .long (v4 - v4 / v6 * v6)), (4, .long v4), (6, .long v6)] dX12_common_29 (by decide) rfl ?_
      refine z_lload C dX12_common_31 2 rfl ?_
      refine z_lstore C [(4, .long v6), (8, .long (v4 - v4 / v6 * v6)), (6, .long v6)] dX12_common_33 (by decide) rfl ?_
      refine z_lload C dX12_common_35 1 rfl ?_
      refine z_lstore C [(6, .long (v4 - v4 / v6 * v6)), (4, .long v6), (8, .long (v4 - v4 / v6 * v6))] dX12_common_37 (by decide) rfl ?_
      refine z_goto C 17 dX12_common_39 (by decide) ?_
      exact z_sub [1, 0] rfl (ih _ _ hf)
set_option maxHeartbeats 4000000 in
set_option maxRecDepth 100000 in
theorem kX12_common_12 (E : zE) (t : zTy) (w : va_W) (out : Int64) (C : zC E cX12_common 10 RX12 wsX12_common (zrm 0 0) t) (R : zRl E cX12_common 10 out w) : ∀ (v2 : Int64) (s0 : Int64), fX12_common_12 v2 s0 = some out → zG E 10 0 0 w 12 [(2, .long v2)] [.long s0] := by
  intro v2 s0 hf
  rw [fX12_common_12] at hf
  refine z_lstore C [(4, .long s0), (2, .long v2)] dX12_common_12 (by decide) rfl ?_
  refine z_lload_n C dX12_common_14 rfl 1 rfl ?_
  refine z_lstore C [(6, .long v2), (4, .long s0), (2, .long v2)] dX12_common_15 (by decide) rfl ?_
  exact z_sub [1, 0] rfl (kX12_common_17 E t w out C R 200 _ _ hf)
theorem hdX12_common : yX12_common.cls ≠ "java/lang/invoke/MethodHandle" ∧ yX12_common.cls ≠ "java/lang/invoke/VarHandle" ∧ (parseMethodDescriptor yX12_common.desc).map (fun d => d.parameters.length) = some 2 := by decide +kernel
set_option maxHeartbeats 4000000 in
set_option maxRecDepth 100000 in
theorem tX12_common (l : Launch) (D : va_G) (t : zTy) (w : va_W) {v0 : Int64} {v2 : Int64} {out : Int64} (hf : fX12_common v0 v2 = some out) : zMl l yX12_common wsX12_common 0 0 D t [.long v0, .long v2] w out w := by
  refine z_entry_l (cc := cX12_common) (nL := 10) (by decide) rfl (Nat.le_of_ble_eq_true rfl) (fun E _ _ C R => ?_)
  refine z_sub (lv' := [(0, .long v0), (2, .long v2)]) [0, 1] rfl ?_
  rw [fX12_common] at hf
  refine z_lload_n C dX12_common_0 rfl 0 rfl ?_
  refine z_lconst C dX12_common_1 0 rfl ?_
  refine z_lcmp_ge C 11 dX12_common_2 dX12_common_3 (by decide) (fun c1 => ?_) (fun c1 => ?_)
  · replace hf := z_ift c1 hf
    refine z_lload_n C dX12_common_11 rfl 0 rfl ?_
    exact z_sub [1] rfl (kX12_common_12 E t w out C R _ _ hf)
  · replace hf := z_iff c1 hf
    refine z_lload_n C dX12_common_6 rfl 0 rfl ?_
    refine z_lneg C dX12_common_7 ?_
    refine z_goto C 12 dX12_common_8 (by decide) ?_
    exact z_sub [1] rfl (kX12_common_12 E t w out C R _ _ hf)
theorem hdX12_size : yX12_size.cls ≠ "java/lang/invoke/MethodHandle" ∧ yX12_size.cls ≠ "java/lang/invoke/VarHandle" ∧ (parseMethodDescriptor yX12_size.desc).map (fun d => d.parameters.length) = some 1 := by decide +kernel
set_option maxHeartbeats 4000000 in
set_option maxRecDepth 100000 in
theorem tX12_size (l : Launch) (D : va_G) (t : zTy) (w : va_W) {v0 : Int64} {out : Int64} (hf : fX12_size v0 = some out) : zMl l yX12_size wsX12_size 0 0 D t [.long v0] w out w := by
  refine z_entry_l (cc := cX12_size) (nL := 2) (by decide) rfl (Nat.le_of_ble_eq_true rfl) (fun E _ _ C R => ?_)
  refine z_sub (lv' := [(0, .long v0)]) [0] rfl ?_
  rw [fX12_size] at hf
  refine z_lload_n C dX12_size_0 rfl 0 rfl ?_
  refine z_lconst C dX12_size_1 0 rfl ?_
  refine z_lcmp_ge C 11 dX12_size_2 dX12_size_3 (by decide) (fun c1 => ?_) (fun c1 => ?_)
  · replace hf := z_ift c1 hf
    refine z_lload_n C dX12_size_11 rfl 0 rfl ?_
    cases hf
    exact R _ _ dX12_size_12
  · replace hf := z_iff c1 hf
    refine z_lload_n C dX12_size_6 rfl 0 rfl ?_
    refine z_lneg C dX12_size_7 ?_
    refine z_goto C 12 dX12_size_8 (by decide) ?_
    cases hf
    exact R _ _ dX12_size_12
theorem hdX12_isLayer : yX12_isLayer.cls ≠ "java/lang/invoke/MethodHandle" ∧ yX12_isLayer.cls ≠ "java/lang/invoke/VarHandle" ∧ (parseMethodDescriptor yX12_isLayer.desc).map (fun d => d.parameters.length) = some 1 := by decide +kernel
set_option maxHeartbeats 4000000 in
set_option maxRecDepth 100000 in
theorem tX12_isLayer (l : Launch) (D : va_G) (t : zTy) (w : va_W) {v0 : Int32} {out : Int32} (hf : fX12_isLayer v0 = some out) : zMi l yX12_isLayer wsX12_isLayer 1 25 D t [.int v0] w out w := by
  refine z_entry_z (cc := cX12_isLayer) (nL := 1) (by decide) rfl (Nat.le_of_ble_eq_true rfl) (fun E _ _ C R => ?_)
  refine z_sub (lv' := [(0, .int v0)]) [0] rfl ?_
  rw [fX12_isLayer] at hf
  refine z_iload_n C dX12_isLayer_0 rfl 0 rfl ?_
  refine z_i2l C dX12_isLayer_1 ?_
  refine z_lconst C dX12_isLayer_2 0 rfl ?_
  refine z_ldc2 C 2 (by decide +kernel) dX12_isLayer_3 ?_
  obtain ⟨q1, h2, hf⟩ := z_bind hf
  refine z_callSi C (rest := []) (tX12_in (ze_l E) (ze_D E) t _ h2) gX12_isLayer_X12_in rfl hdX12_in ⟨(Nat.le_of_ble_eq_true rfl), (Nat.le_of_ble_eq_true rfl)⟩ ⟨Nat.zero_le _, Nat.zero_le _⟩ rfl rfl (Nat.le_of_ble_eq_true rfl) dX12_isLayer_6 ?_
  obtain ⟨h3, hf⟩ := z_some hf
  cases hf
  exact R _ _ dX12_isLayer_9 h3

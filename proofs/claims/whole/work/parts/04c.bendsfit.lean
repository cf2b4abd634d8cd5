theorem uX0_seenBits_0 : ∀ w ∈ wsX00, w ∈ wsX0_seenBits := by decide +kernel
set_option maxHeartbeats 4000000 in
set_option maxRecDepth 100000 in
theorem kX0_seenBits_4 (E : zE) (t : zTy) (a : Nat → Nat) (out : Int32 × ST) (C : zC E cX0_seenBits 3 RX0 wsX0_seenBits (zrm 0 0) t) (R : zRi E cX0_seenBits 3 out.1 (CW t a out.2)) : ∀ (n : Nat) (v1 : Int32) (v2 : Int32) (x : ST), fX0_seenBits_4 n v1 v2 x = some out → zG E 3 0 0 (CW t a x) 4 [(0, .ref (a 1)), (1, .int v1), (2, .int v2)] [] := by
  intro n
  induction n with
  | zero =>
    intro v1 v2 x hf
    cases hf
  | succ n ih =>
    intro v1 v2 x hf
    rw [fX0_seenBits_4] at hf
    refine z_iload_n C dX0_seenBits_4 rfl 2 rfl ?_
    refine z_aload_n C dX0_seenBits_5 rfl 0 rfl ?_
    refine cg_Bends_seenCount C uX0_seenBits_0 (by decide +kernel) dX0_seenBits_6 ?_
    refine z_icmp_ge C 29 dX0_seenBits_9 (by decide) (fun c1 => ?_) (fun c1 => ?_)
    · replace hf := z_ift c1 hf
      refine z_iload_n C dX0_seenBits_29 rfl 1 rfl ?_
      cases hf
      exact R _ _ dX0_seenBits_30
    · replace hf := z_iff c1 hf
      refine z_iload_n C dX0_seenBits_12 rfl 1 rfl ?_
      refine z_iconst C dX0_seenBits_13 1 rfl ?_
      refine z_aload_n C dX0_seenBits_14 rfl 0 rfl ?_
      refine cg_Bends_seenOnes C uX0_seenBits_0 (by decide +kernel) dX0_seenBits_15 ?_
      refine z_iload_n C dX0_seenBits_18 rfl 2 rfl ?_
      obtain ⟨h2, hf⟩ := z_some hf
      refine z_iald C 14 cw_at_14 h2 dX0_seenBits_19 ?_
      refine z_ishl C dX0_seenBits_20 ?_
      refine z_ior C dX0_seenBits_21 ?_
      refine z_istore_n C [(1, .int (v1 ||| ((1 : Int32) <<< ((gA x 14 v2.toNatClampNeg) &&& 31)))), (0, .ref (a 1)), (2, .int v2)] dX0_seenBits_22 rfl (by decide) rfl ?_
      refine z_iinc C (v2 + 1) [(2, .int (v2 + 1)), (1, .int (v1 ||| ((1 : Int32) <<< ((gA x 14 v2.toNatClampNeg) &&& 31)))), (0, .ref (a 1))] dX0_seenBits_23 2 rfl rfl (by decide) rfl ?_
      refine z_goto C 4 dX0_seenBits_26 (by decide) ?_
      exact z_sub [2, 1, 0] rfl (ih _ _ _ hf)
theorem hdX0_seenBits : yX0_seenBits.cls = RX0 ∧ yX0_seenBits.cls ≠ "java/lang/invoke/MethodHandle" ∧ yX0_seenBits.cls ≠ "java/lang/invoke/VarHandle" ∧ (parseMethodDescriptor yX0_seenBits.desc).map (fun d => d.parameters.length) = some 0 := by decide +kernel
set_option maxHeartbeats 4000000 in
set_option maxRecDepth 100000 in
theorem tX0_seenBits (l : Launch) (D : va_G) (t : zTy) (a : Nat → Nat)  {x : ST} {out : Int32 × ST} (hf : fX0_seenBits  x = some out) : zMi l yX0_seenBits wsX0_seenBits 0 0 D t [.ref (a 1)] (CW t a x) out.1 (CW t a out.2) := by
  refine z_entry_i (cc := cX0_seenBits) (nL := 3) (by decide) rfl (Nat.le_of_ble_eq_true rfl) (fun E _ _ C R => ?_)
  refine z_sub (lv' := [(0, .ref (a 1))]) [0] rfl ?_
  rw [fX0_seenBits] at hf
  refine z_iconst C dX0_seenBits_0 0 rfl ?_
  refine z_istore_n C [(1, .int 0), (0, .ref (a 1))] dX0_seenBits_1 rfl (by decide) rfl ?_
  refine z_iconst C dX0_seenBits_2 0 rfl ?_
  refine z_istore_n C [(2, .int 0), (1, .int 0), (0, .ref (a 1))] dX0_seenBits_3 rfl (by decide) rfl ?_
  exact z_sub [2, 1, 0] rfl (kX0_seenBits_4 E t a out C R 200 _ _ _ hf)
theorem uX0_above_0 : ∀ w ∈ wsX00, w ∈ wsX0_above := by decide +kernel
theorem hdX0_above : yX0_above.cls = RX0 ∧ yX0_above.cls ≠ "java/lang/invoke/MethodHandle" ∧ yX0_above.cls ≠ "java/lang/invoke/VarHandle" ∧ (parseMethodDescriptor yX0_above.desc).map (fun d => d.parameters.length) = some 1 := by decide +kernel
set_option maxHeartbeats 4000000 in
set_option maxRecDepth 100000 in
theorem tX0_above (l : Launch) (D : va_G) (t : zTy) (a : Nat → Nat) {v1 : Int32} {x : ST} {out : Int64 × ST} (hf : fX0_above v1 x = some out) : zMl l yX0_above wsX0_above 0 0 D t [.ref (a 1), .int v1] (CW t a x) out.1 (CW t a out.2) := by
  refine z_entry_l (cc := cX0_above) (nL := 2) (by decide) rfl (Nat.le_of_ble_eq_true rfl) (fun E _ _ C R => ?_)
  refine z_sub (lv' := [(0, .ref (a 1)), (1, .int v1)]) [0, 1] rfl ?_
  rw [fX0_above] at hf
  refine z_aload_n C dX0_above_0 rfl 0 rfl ?_
  refine cg_Bends_aboves C uX0_above_0 (by decide +kernel) dX0_above_1 ?_
  refine z_iload_n C dX0_above_4 rfl 1 rfl ?_
  obtain ⟨h1, hf⟩ := z_some hf
  refine z_lald C 17 cw_at_17 h1 dX0_above_5 ?_
  cases hf
  exact R _ _ dX0_above_6
theorem uX0_below_0 : ∀ w ∈ wsX00, w ∈ wsX0_below := by decide +kernel
theorem hdX0_below : yX0_below.cls = RX0 ∧ yX0_below.cls ≠ "java/lang/invoke/MethodHandle" ∧ yX0_below.cls ≠ "java/lang/invoke/VarHandle" ∧ (parseMethodDescriptor yX0_below.desc).map (fun d => d.parameters.length) = some 1 := by decide +kernel
set_option maxHeartbeats 4000000 in
set_option maxRecDepth 100000 in
theorem tX0_below (l : Launch) (D : va_G) (t : zTy) (a : Nat → Nat) {v1 : Int32} {x : ST} {out : Int64 × ST} (hf : fX0_below v1 x = some out) : zMl l yX0_below wsX0_below 0 0 D t [.ref (a 1), .int v1] (CW t a x) out.1 (CW t a out.2) := by
  refine z_entry_l (cc := cX0_below) (nL := 2) (by decide) rfl (Nat.le_of_ble_eq_true rfl) (fun E _ _ C R => ?_)
  refine z_sub (lv' := [(0, .ref (a 1)), (1, .int v1)]) [0, 1] rfl ?_
  rw [fX0_below] at hf
  refine z_aload_n C dX0_below_0 rfl 0 rfl ?_
  refine cg_Bends_belows C uX0_below_0 (by decide +kernel) dX0_below_1 ?_
  refine z_iload_n C dX0_below_4 rfl 1 rfl ?_
  obtain ⟨h1, hf⟩ := z_some hf
  refine z_lald C 18 cw_at_18 h1 dX0_below_5 ?_
  cases hf
  exact R _ _ dX0_below_6
theorem uX0_rounded_0 : ∀ w ∈ wsX00, w ∈ wsX0_rounded := by decide +kernel
theorem hdX0_rounded : yX0_rounded.cls = RX0 ∧ yX0_rounded.cls ≠ "java/lang/invoke/MethodHandle" ∧ yX0_rounded.cls ≠ "java/lang/invoke/VarHandle" ∧ (parseMethodDescriptor yX0_rounded.desc).map (fun d => d.parameters.length) = some 1 := by decide +kernel
set_option maxHeartbeats 4000000 in
set_option maxRecDepth 100000 in
theorem tX0_rounded (l : Launch) (D : va_G) (t : zTy) (a : Nat → Nat) {v1 : Int32} {x : ST} {out : Int32 × ST} (hf : fX0_rounded v1 x = some out) : zMi l yX0_rounded wsX0_rounded 0 0 D t [.ref (a 1), .int v1] (CW t a x) out.1 (CW t a out.2) := by
  refine z_entry_i (cc := cX0_rounded) (nL := 2) (by decide) rfl (Nat.le_of_ble_eq_true rfl) (fun E _ _ C R => ?_)
  refine z_sub (lv' := [(0, .ref (a 1)), (1, .int v1)]) [0, 1] rfl ?_
  rw [fX0_rounded] at hf
  refine z_aload_n C dX0_rounded_0 rfl 0 rfl ?_
  refine cg_Bends_wholes C uX0_rounded_0 (by decide +kernel) dX0_rounded_1 ?_
  refine z_iload_n C dX0_rounded_4 rfl 1 rfl ?_
  obtain ⟨h1, hf⟩ := z_some hf
  refine z_iald C 19 cw_at_19 h1 dX0_rounded_5 ?_
  cases hf
  exact R _ _ dX0_rounded_6
theorem uX0_takeColumns_0 : ∀ w ∈ wsX00, w ∈ wsX0_takeColumns := by decide +kernel
set_option maxHeartbeats 4000000 in
set_option maxRecDepth 100000 in
theorem kX0_takeColumns_88 (E : zE) (t : zTy) (a : Nat → Nat) (out : ST) (C : zC E cX0_takeColumns 7 RX0 wsX0_takeColumns (zrm 1 23) t) (R : zRv E cX0_takeColumns 7 (CW t a out)) (kb14 : Int32 → Int32 → ST → Option (ST)) (Kb14 : ∀ (v4 : Int32) (v5 : Int32) (x : ST), kb14 v4 v5 x = some out → zG E 7 0 0 (CW t a x) 14 [(0, .ref (a 1)), (1, .ref (a 10)), (2, .ref (a 11)), (3, .ref (a 7)), (4, .int v4), (5, .int v5)] []) (kb44 : Int32 → Int32 → Int32 → ST → Option (ST)) (Kb44 : ∀ (v4 : Int32) (v5 : Int32) (v6 : Int32) (x : ST), kb44 v4 v5 v6 x = some out → zG E 7 0 0 (CW t a x) 44 [(0, .ref (a 1)), (1, .ref (a 10)), (2, .ref (a 11)), (3, .ref (a 7)), (4, .int v4), (5, .int v5), (6, .int v6)] []) : ∀ (v4 : Int32) (v5 : Int32) (v6 : Int32) (s0 : Int32) (s1 : Int32) (s2 : Int32) (x : ST), fX0_takeColumns_88 kb14 kb44 v4 v5 v6 s0 s1 s2 x = some out → zG E 7 0 0 (CW t a x) 88 [(0, .ref (a 1)), (1, .ref (a 10)), (2, .ref (a 11)), (3, .ref (a 7)), (4, .int v4), (5, .int v5), (6, .int v6)] [.int s0, .int s1, .int s2, .ref (a 12)] := by
  intro v4 v5 v6 s0 s1 s2 x hf
  rw [fX0_takeColumns_88] at hf
  refine z_iadd C dX0_takeColumns_88 ?_
  obtain ⟨h16, hf⟩ := z_some hf
  refine z_iast C 12 cw_at_12 h16 (w' := CW t a (sA x 12 s2 (s1 + s0))) cw_up_12 dX0_takeColumns_89 ?_
  refine z_iinc C (v6 + 1) [(6, .int (v6 + 1)), (0, .ref (a 1)), (1, .ref (a 10)), (2, .ref (a 11)), (3, .ref (a 7)), (4, .int v4), (5, .int v5)] dX0_takeColumns_90 6 rfl rfl (by decide) rfl ?_
  refine z_goto C 44 dX0_takeColumns_93 (by decide) ?_
  exact z_sub [1, 2, 3, 4, 5, 6, 0] rfl (Kb44 _ _ _ _ hf)
set_option maxHeartbeats 4000000 in
set_option maxRecDepth 100000 in
theorem kX0_takeColumns_96 (E : zE) (t : zTy) (a : Nat → Nat) (out : ST) (C : zC E cX0_takeColumns 7 RX0 wsX0_takeColumns (zrm 1 23) t) (R : zRv E cX0_takeColumns 7 (CW t a out)) (kb14 : Int32 → Int32 → ST → Option (ST)) (Kb14 : ∀ (v4 : Int32) (v5 : Int32) (x : ST), kb14 v4 v5 x = some out → zG E 7 0 0 (CW t a x) 14 [(0, .ref (a 1)), (1, .ref (a 10)), (2, .ref (a 11)), (3, .ref (a 7)), (4, .int v4), (5, .int v5)] []) : ∀ (v4 : Int32) (v5 : Int32) (x : ST), fX0_takeColumns_96 kb14 v4 v5 x = some out → zG E 7 0 0 (CW t a x) 96 [(0, .ref (a 1)), (1, .ref (a 10)), (2, .ref (a 11)), (3, .ref (a 7)), (4, .int v4), (5, .int v5)] [] := by
  intro v4 v5 x hf
  rw [fX0_takeColumns_96] at hf
  refine z_iinc C (v5 + 1) [(5, .int (v5 + 1)), (0, .ref (a 1)), (1, .ref (a 10)), (2, .ref (a 11)), (3, .ref (a 7)), (4, .int v4)] dX0_takeColumns_96 5 rfl rfl (by decide) rfl ?_
  refine z_goto C 14 dX0_takeColumns_99 (by decide) ?_
  exact z_sub [1, 2, 3, 4, 5, 0] rfl (Kb14 _ _ _ hf)
set_option maxHeartbeats 4000000 in
set_option maxRecDepth 100000 in
theorem kX0_takeColumns_44 (E : zE) (t : zTy) (a : Nat → Nat) (out : ST) (C : zC E cX0_takeColumns 7 RX0 wsX0_takeColumns (zrm 1 23) t) (R : zRv E cX0_takeColumns 7 (CW t a out)) (kb14 : Int32 → Int32 → ST → Option (ST)) (Kb14 : ∀ (v4 : Int32) (v5 : Int32) (x : ST), kb14 v4 v5 x = some out → zG E 7 0 0 (CW t a x) 14 [(0, .ref (a 1)), (1, .ref (a 10)), (2, .ref (a 11)), (3, .ref (a 7)), (4, .int v4), (5, .int v5)] []) : ∀ (n : Nat) (v4 : Int32) (v5 : Int32) (v6 : Int32) (x : ST), fX0_takeColumns_44 kb14 n v4 v5 v6 x = some out → zG E 7 0 0 (CW t a x) 44 [(0, .ref (a 1)), (1, .ref (a 10)), (2, .ref (a 11)), (3, .ref (a 7)), (4, .int v4), (5, .int v5), (6, .int v6)] [] := by
  intro n
  induction n with
  | zero =>
    intro v4 v5 v6 x hf
    cases hf
  | succ n ih =>
    intro v4 v5 v6 x hf
    rw [fX0_takeColumns_44] at hf
    refine z_iload C dX0_takeColumns_44 6 rfl ?_
    refine z_aload_n C dX0_takeColumns_46 rfl 1 rfl ?_
    obtain ⟨q7, h8, hf⟩ := z_bind hf
    refine z_callVi C (rest := [.int v6]) (tX9_count (ze_l E) (ze_D E) t a h8) gX0_takeColumns_X9_count rfl hdX9_count ⟨(Nat.le_of_ble_eq_true rfl), (Nat.le_of_ble_eq_true rfl)⟩ ⟨Nat.zero_le _, Nat.zero_le _⟩ 10 cw_at_10 rfl rfl rfl (Nat.le_of_ble_eq_true rfl) dX0_takeColumns_47 ?_
    refine z_icmp_ge C 96 dX0_takeColumns_50 (by decide) (fun c9 => ?_) (fun c9 => ?_)
    · replace hf := z_ift c9 hf
      exact z_sub [0, 1, 2, 3, 4, 5] rfl (kX0_takeColumns_96 E t a out C R (kb14) (Kb14) _ _ _ hf)
    · replace hf := z_iff c9 hf
      refine z_aload_n C dX0_takeColumns_53 rfl 0 rfl ?_
      refine cg_Bends_columns C uX0_takeColumns_0 (by decide +kernel) dX0_takeColumns_54 ?_
      refine z_iload C dX0_takeColumns_57 4 rfl ?_
      refine z_bipush C dX0_takeColumns_59 8 rfl ?_
      refine z_imul C dX0_takeColumns_61 ?_
      refine z_iload C dX0_takeColumns_62 6 rfl ?_
      refine z_iadd C dX0_takeColumns_64 ?_
      refine z_dup2 C dX0_takeColumns_65 rfl rfl ?_
      obtain ⟨h10, hf⟩ := z_some hf
      refine z_iald C 12 cw_at_12 h10 dX0_takeColumns_66 ?_
      refine z_aload_n C dX0_takeColumns_67 rfl 1 rfl ?_
      refine z_iload C dX0_takeColumns_68 6 rfl ?_
      obtain ⟨q11, h12, hf⟩ := z_bind hf
      refine z_callVi C (rest := [.int (gA q7.2 12 ((v4 * 8) + v6).toNatClampNeg), .int ((v4 * 8) + v6), .ref (a 12)]) (tX9_isLost (ze_l E) (ze_D E) t a h12) gX0_takeColumns_X9_isLost rfl hdX9_isLost ⟨(Nat.le_of_ble_eq_true rfl), (Nat.le_of_ble_eq_true rfl)⟩ ⟨Nat.zero_le _, Nat.zero_le _⟩ 10 cw_at_10 rfl rfl rfl (Nat.le_of_ble_eq_true rfl) dX0_takeColumns_70 ?_
      refine z_if_eq C 80 dX0_takeColumns_73 (by decide) (fun c13 => ?_) (fun c13 => ?_)
      · replace hf := z_ift c13 hf
        refine z_aload_n C dX0_takeColumns_80 rfl 2 rfl ?_
        refine z_iload C dX0_takeColumns_81 6 rfl ?_
        refine z_iload C dX0_takeColumns_83 5 rfl ?_
        obtain ⟨q14, h15, hf⟩ := z_bind hf
        refine z_callVi C (rest := [.int (gA q7.2 12 ((v4 * 8) + v6).toNatClampNeg), .int ((v4 * 8) + v6), .ref (a 12)]) (tX10_number (ze_l E) (ze_D E) t a h15) gX0_takeColumns_X10_number rfl hdX10_number ⟨(Nat.le_of_ble_eq_true rfl), (Nat.le_of_ble_eq_true rfl)⟩ ⟨Nat.zero_le _, Nat.zero_le _⟩ 11 cw_at_11 rfl rfl rfl (Nat.le_of_ble_eq_true rfl) dX0_takeColumns_85 ?_
        exact z_sub [0, 1, 2, 3, 4, 5, 6] rfl (kX0_takeColumns_88 E t a out C R (kb14) (Kb14) (fX0_takeColumns_44 kb14 n) (ih) _ _ _ _ _ _ _ hf)
      · replace hf := z_iff c13 hf
        refine z_iconst C dX0_takeColumns_76 0 rfl ?_
        refine z_goto C 88 dX0_takeColumns_77 (by decide) ?_
        exact z_sub [0, 1, 2, 3, 4, 5, 6] rfl (kX0_takeColumns_88 E t a out C R (kb14) (Kb14) (fX0_takeColumns_44 kb14 n) (ih) _ _ _ _ _ _ _ hf)
set_option maxHeartbeats 4000000 in
set_option maxRecDepth 100000 in
theorem kX0_takeColumns_39 (E : zE) (t : zTy) (a : Nat → Nat) (out : ST) (C : zC E cX0_takeColumns 7 RX0 wsX0_takeColumns (zrm 1 23) t) (R : zRv E cX0_takeColumns 7 (CW t a out)) (kb14 : Int32 → Int32 → ST → Option (ST)) (Kb14 : ∀ (v4 : Int32) (v5 : Int32) (x : ST), kb14 v4 v5 x = some out → zG E 7 0 0 (CW t a x) 14 [(0, .ref (a 1)), (1, .ref (a 10)), (2, .ref (a 11)), (3, .ref (a 7)), (4, .int v4), (5, .int v5)] []) : ∀ (v5 : Int32) (s0 : Int32) (x : ST), fX0_takeColumns_39 kb14 v5 s0 x = some out → zG E 7 0 0 (CW t a x) 39 [(0, .ref (a 1)), (1, .ref (a 10)), (2, .ref (a 11)), (3, .ref (a 7)), (5, .int v5)] [.int s0] := by
  intro v5 s0 x hf
  rw [fX0_takeColumns_39] at hf
  refine z_istore C [(4, .int s0), (0, .ref (a 1)), (1, .ref (a 10)), (2, .ref (a 11)), (3, .ref (a 7)), (5, .int v5)] dX0_takeColumns_39 (by decide) rfl ?_
  refine z_iconst C dX0_takeColumns_41 0 rfl ?_
  refine z_istore C [(6, .int 0), (4, .int s0), (0, .ref (a 1)), (1, .ref (a 10)), (2, .ref (a 11)), (3, .ref (a 7)), (5, .int v5)] dX0_takeColumns_42 (by decide) rfl ?_
  exact z_sub [2, 3, 4, 5, 1, 6, 0] rfl (kX0_takeColumns_44 E t a out C R (kb14) (Kb14) 200 _ _ _ _ hf)
set_option maxHeartbeats 4000000 in
set_option maxRecDepth 100000 in
theorem kX0_takeColumns_14 (E : zE) (t : zTy) (a : Nat → Nat) (out : ST) (C : zC E cX0_takeColumns 7 RX0 wsX0_takeColumns (zrm 1 23) t) (R : zRv E cX0_takeColumns 7 (CW t a out)) : ∀ (n : Nat) (v4 : Int32) (v5 : Int32) (x : ST), fX0_takeColumns_14 n v4 v5 x = some out → zG E 7 0 0 (CW t a x) 14 [(0, .ref (a 1)), (1, .ref (a 10)), (2, .ref (a 11)), (3, .ref (a 7)), (4, .int v4), (5, .int v5)] [] := by
  intro n
  induction n with
  | zero =>
    intro v4 v5 x hf
    cases hf
  | succ n ih =>
    intro v4 v5 x hf
    rw [fX0_takeColumns_14] at hf
    refine z_iload C dX0_takeColumns_14 5 rfl ?_
    refine z_aload_n C dX0_takeColumns_16 rfl 3 rfl ?_
    obtain ⟨q1, h2, hf⟩ := z_bind hf
    refine z_callVi C (rest := [.int v5]) (tX6_count (ze_l E) (ze_D E) t a h2) gX0_takeColumns_X6_count rfl hdX6_count ⟨(Nat.le_of_ble_eq_true rfl), (Nat.le_of_ble_eq_true rfl)⟩ ⟨Nat.zero_le _, Nat.zero_le _⟩ 7 cw_at_7 rfl rfl rfl (Nat.le_of_ble_eq_true rfl) dX0_takeColumns_17 ?_
    refine z_icmp_ge C 102 dX0_takeColumns_20 (by decide) (fun c3 => ?_) (fun c3 => ?_)
    · replace hf := z_ift c3 hf
      cases hf
      exact R _ _ dX0_takeColumns_102
    · replace hf := z_iff c3 hf
      refine z_aload_n C dX0_takeColumns_23 rfl 3 rfl ?_
      refine z_iload C dX0_takeColumns_24 5 rfl ?_
      obtain ⟨q4, h5, hf⟩ := z_bind hf
      refine z_callVi C (rest := []) (tX6_isDead (ze_l E) (ze_D E) t a h5) gX0_takeColumns_X6_isDead rfl hdX6_isDead ⟨(Nat.le_of_ble_eq_true rfl), (Nat.le_of_ble_eq_true rfl)⟩ ⟨Nat.zero_le _, Nat.zero_le _⟩ 7 cw_at_7 rfl rfl rfl (Nat.le_of_ble_eq_true rfl) dX0_takeColumns_26 ?_
      refine z_if_eq C 37 dX0_takeColumns_29 (by decide) (fun c6 => ?_) (fun c6 => ?_)
      · replace hf := z_ift c6 hf
        refine z_iload C dX0_takeColumns_37 5 rfl ?_
        exact z_sub [0, 1, 2, 3, 5] rfl (kX0_takeColumns_39 E t a out C R (fX0_takeColumns_14 n) (ih) _ _ _ hf)
      · replace hf := z_iff c6 hf
        refine z_iload C dX0_takeColumns_32 4 rfl ?_
        refine z_goto C 39 dX0_takeColumns_34 (by decide) ?_
        exact z_sub [0, 1, 2, 3, 5] rfl (kX0_takeColumns_39 E t a out C R (fX0_takeColumns_14 n) (ih) _ _ _ hf)
theorem hdX0_takeColumns : yX0_takeColumns.cls = RX0 ∧ yX0_takeColumns.cls ≠ "java/lang/invoke/MethodHandle" ∧ yX0_takeColumns.cls ≠ "java/lang/invoke/VarHandle" ∧ (parseMethodDescriptor yX0_takeColumns.desc).map (fun d => d.parameters.length) = some 3 := by decide +kernel
set_option maxHeartbeats 4000000 in
set_option maxRecDepth 100000 in
theorem tX0_takeColumns (l : Launch) (D : va_G) (t : zTy) (a : Nat → Nat)  {x : ST} {out : ST} (hf : fX0_takeColumns  x = some out) : zMv l yX0_takeColumns wsX0_takeColumns 1 23 D t [.ref (a 1), .ref (a 10), .ref (a 11), .ref (a 7)] (CW t a x) (CW t a out) := by
  refine z_entry_v (cc := cX0_takeColumns) (nL := 7) (by decide) rfl (Nat.le_of_ble_eq_true rfl) (fun E _ _ C R => ?_)
  refine z_sub (lv' := [(0, .ref (a 1)), (1, .ref (a 10)), (2, .ref (a 11)), (3, .ref (a 7))]) [0, 1, 2, 3] rfl ?_
  rw [fX0_takeColumns] at hf
  refine z_aload_n C dX0_takeColumns_0 rfl 0 rfl ?_
  refine cg_Bends_columns C uX0_takeColumns_0 (by decide +kernel) dX0_takeColumns_1 ?_
  refine z_iconst C dX0_takeColumns_4 0 rfl ?_
  refine z_callSv C (w' := CW t a (sF x 12 (zfill (gA x 12) 40 0))) (rest := []) (tJ7_fill_53178 (ze_l E) (ze_D E) t _ 12 cw_at_12 (by decide) cw_up_12) gX0_takeColumns_J7_fill_53178 rfl hdJ7_fill_53178 ⟨(Nat.le_of_ble_eq_true rfl), (Nat.le_of_ble_eq_true rfl)⟩ ⟨Nat.zero_le _, Nat.zero_le _⟩ rfl rfl (Nat.le_of_ble_eq_true rfl) dX0_takeColumns_5 ?_
  refine z_iconst C dX0_takeColumns_8 0 rfl ?_
  refine z_istore C [(4, .int 0), (0, .ref (a 1)), (1, .ref (a 10)), (2, .ref (a 11)), (3, .ref (a 7))] dX0_takeColumns_9 (by decide) rfl ?_
  refine z_iconst C dX0_takeColumns_11 0 rfl ?_
  refine z_istore C [(5, .int 0), (4, .int 0), (0, .ref (a 1)), (1, .ref (a 10)), (2, .ref (a 11)), (3, .ref (a 7))] dX0_takeColumns_12 (by decide) rfl ?_
  exact z_sub [2, 3, 4, 5, 1, 0] rfl (kX0_takeColumns_14 E t a out C R 200 _ _ _ hf)
theorem uX0_takeSlopes_0 : ∀ w ∈ wsX00, w ∈ wsX0_takeSlopes := by decide +kernel
set_option maxHeartbeats 4000000 in
set_option maxRecDepth 100000 in
theorem kX0_takeSlopes_40 (E : zE) (t : zTy) (a : Nat → Nat) (out : ST) (C : zC E cX0_takeSlopes 3 RX0 wsX0_takeSlopes (zrm 1 23) t) (R : zRv E cX0_takeSlopes 3 (CW t a out)) (kb10 : Int32 → ST → Option (ST)) (Kb10 : ∀ (v2 : Int32) (x : ST), kb10 v2 x = some out → zG E 3 0 0 (CW t a x) 10 [(0, .ref (a 1)), (1, .ref (a 10)), (2, .int v2)] []) : ∀ (v2 : Int32) (s0 : Int32) (s1 : Int32) (x : ST), fX0_takeSlopes_40 kb10 v2 s0 s1 x = some out → zG E 3 0 0 (CW t a x) 40 [(0, .ref (a 1)), (1, .ref (a 10)), (2, .int v2)] [.int s0, .int s1, .ref (a 13)] := by
  intro v2 s0 s1 x hf
  rw [fX0_takeSlopes_40] at hf
  obtain ⟨h9, hf⟩ := z_some hf
  refine z_iast C 13 cw_at_13 h9 (w' := CW t a (sA x 13 s1 s0)) cw_up_13 dX0_takeSlopes_40 ?_
  refine z_iinc C (v2 + 1) [(2, .int (v2 + 1)), (0, .ref (a 1)), (1, .ref (a 10))] dX0_takeSlopes_41 2 rfl rfl (by decide) rfl ?_
  refine z_goto C 10 dX0_takeSlopes_44 (by decide) ?_
  exact z_sub [1, 2, 0] rfl (Kb10 _ _ hf)
set_option maxHeartbeats 4000000 in
set_option maxRecDepth 100000 in
theorem kX0_takeSlopes_10 (E : zE) (t : zTy) (a : Nat → Nat) (out : ST) (C : zC E cX0_takeSlopes 3 RX0 wsX0_takeSlopes (zrm 1 23) t) (R : zRv E cX0_takeSlopes 3 (CW t a out)) : ∀ (n : Nat) (v2 : Int32) (x : ST), fX0_takeSlopes_10 n v2 x = some out → zG E 3 0 0 (CW t a x) 10 [(0, .ref (a 1)), (1, .ref (a 10)), (2, .int v2)] [] := by
  intro n
  induction n with
  | zero =>
    intro v2 x hf
    cases hf
  | succ n ih =>
    intro v2 x hf
    rw [fX0_takeSlopes_10] at hf
    refine z_iload_n C dX0_takeSlopes_10 rfl 2 rfl ?_
    refine z_aload_n C dX0_takeSlopes_11 rfl 1 rfl ?_
    obtain ⟨q1, h2, hf⟩ := z_bind hf
    refine z_callVi C (rest := [.int v2]) (tX9_count (ze_l E) (ze_D E) t a h2) gX0_takeSlopes_X9_count rfl hdX9_count ⟨(Nat.le_of_ble_eq_true rfl), (Nat.le_of_ble_eq_true rfl)⟩ ⟨Nat.zero_le _, Nat.zero_le _⟩ 10 cw_at_10 rfl rfl rfl (Nat.le_of_ble_eq_true rfl) dX0_takeSlopes_12 ?_
    refine z_icmp_ge C 47 dX0_takeSlopes_15 (by decide) (fun c3 => ?_) (fun c3 => ?_)
    · replace hf := z_ift c3 hf
      cases hf
      exact R _ _ dX0_takeSlopes_47
    · replace hf := z_iff c3 hf
      refine z_aload_n C dX0_takeSlopes_18 rfl 0 rfl ?_
      refine cg_Bends_slopes C uX0_takeSlopes_0 (by decide +kernel) dX0_takeSlopes_19 ?_
      refine z_iload_n C dX0_takeSlopes_22 rfl 2 rfl ?_
      refine z_aload_n C dX0_takeSlopes_23 rfl 1 rfl ?_
      refine z_iload_n C dX0_takeSlopes_24 rfl 2 rfl ?_
      obtain ⟨q4, h5, hf⟩ := z_bind hf
      refine z_callVi C (rest := [.int v2, .ref (a 13)]) (tX9_isLost (ze_l E) (ze_D E) t a h5) gX0_takeSlopes_X9_isLost rfl hdX9_isLost ⟨(Nat.le_of_ble_eq_true rfl), (Nat.le_of_ble_eq_true rfl)⟩ ⟨Nat.zero_le _, Nat.zero_le _⟩ 10 cw_at_10 rfl rfl rfl (Nat.le_of_ble_eq_true rfl) dX0_takeSlopes_25 ?_
      refine z_if_eq C 35 dX0_takeSlopes_28 (by decide) (fun c6 => ?_) (fun c6 => ?_)
      · replace hf := z_ift c6 hf
        refine z_aload_n C dX0_takeSlopes_35 rfl 1 rfl ?_
        refine z_iload_n C dX0_takeSlopes_36 rfl 2 rfl ?_
        obtain ⟨q7, h8, hf⟩ := z_bind hf
        refine z_callVi C (rest := [.int v2, .ref (a 13)]) (tX9_slopeOf (ze_l E) (ze_D E) t a h8) gX0_takeSlopes_X9_slopeOf rfl hdX9_slopeOf ⟨(Nat.le_of_ble_eq_true rfl), (Nat.le_of_ble_eq_true rfl)⟩ ⟨Nat.zero_le _, Nat.zero_le _⟩ 10 cw_at_10 rfl rfl rfl (Nat.le_of_ble_eq_true rfl) dX0_takeSlopes_37 ?_
        exact z_sub [0, 1, 2] rfl (kX0_takeSlopes_40 E t a out C R (fX0_takeSlopes_10 n) (ih) _ _ _ _ hf)
      · replace hf := z_iff c6 hf
        refine z_iconst C dX0_takeSlopes_31 0 rfl ?_
        refine z_goto C 40 dX0_takeSlopes_32 (by decide) ?_
        exact z_sub [0, 1, 2] rfl (kX0_takeSlopes_40 E t a out C R (fX0_takeSlopes_10 n) (ih) _ _ _ _ hf)
theorem hdX0_takeSlopes : yX0_takeSlopes.cls = RX0 ∧ yX0_takeSlopes.cls ≠ "java/lang/invoke/MethodHandle" ∧ yX0_takeSlopes.cls ≠ "java/lang/invoke/VarHandle" ∧ (parseMethodDescriptor yX0_takeSlopes.desc).map (fun d => d.parameters.length) = some 1 := by decide +kernel
set_option maxHeartbeats 4000000 in
set_option maxRecDepth 100000 in
theorem tX0_takeSlopes (l : Launch) (D : va_G) (t : zTy) (a : Nat → Nat)  {x : ST} {out : ST} (hf : fX0_takeSlopes  x = some out) : zMv l yX0_takeSlopes wsX0_takeSlopes 1 23 D t [.ref (a 1), .ref (a 10)] (CW t a x) (CW t a out) := by
  refine z_entry_v (cc := cX0_takeSlopes) (nL := 3) (by decide) rfl (Nat.le_of_ble_eq_true rfl) (fun E _ _ C R => ?_)
  refine z_sub (lv' := [(0, .ref (a 1)), (1, .ref (a 10))]) [0, 1] rfl ?_
  rw [fX0_takeSlopes] at hf
  refine z_aload_n C dX0_takeSlopes_0 rfl 0 rfl ?_
  refine cg_Bends_slopes C uX0_takeSlopes_0 (by decide +kernel) dX0_takeSlopes_1 ?_
  refine z_iconst C dX0_takeSlopes_4 0 rfl ?_
  refine z_callSv C (w' := CW t a (sF x 13 (zfill (gA x 13) 8 0))) (rest := []) (tJ7_fill_53178 (ze_l E) (ze_D E) t _ 13 cw_at_13 (by decide) cw_up_13) gX0_takeSlopes_J7_fill_53178 rfl hdJ7_fill_53178 ⟨(Nat.le_of_ble_eq_true rfl), (Nat.le_of_ble_eq_true rfl)⟩ ⟨Nat.zero_le _, Nat.zero_le _⟩ rfl rfl (Nat.le_of_ble_eq_true rfl) dX0_takeSlopes_5 ?_
  refine z_iconst C dX0_takeSlopes_8 0 rfl ?_
  refine z_istore_n C [(2, .int 0), (0, .ref (a 1)), (1, .ref (a 10))] dX0_takeSlopes_9 rfl (by decide) rfl ?_
  exact z_sub [1, 2, 0] rfl (kX0_takeSlopes_10 E t a out C R 200 _ _ hf)
theorem uX0_setBend_0 : ∀ w ∈ wsX00, w ∈ wsX0_setBend := by decide +kernel
set_option maxHeartbeats 4000000 in
set_option maxRecDepth 100000 in
theorem kX0_setBend_53 (E : zE) (t : zTy) (a : Nat → Nat) (out : ST) (C : zC E cX0_setBend 8 RX0 wsX0_setBend (zrm 2 45) t) (R : zRv E cX0_setBend 8 (CW t a out)) : ∀ (v1 : Int32) (s0 : Int64) (s1 : Int32) (x : ST), fX0_setBend_53 v1 s0 s1 x = some out → zG E 8 0 0 (CW t a x) 53 [(0, .ref (a 1)), (1, .int v1)] [.long s0, .int s1, .ref (a 18)] := by
  intro v1 s0 s1 x hf
  rw [fX0_setBend_53] at hf
  obtain ⟨h8, hf⟩ := z_some hf
  refine z_last C 18 cw_at_18 h8 (w' := CW t a (sB x 18 s1 s0)) cw_up_18 dX0_setBend_53 ?_
  refine z_aload_n C dX0_setBend_54 rfl 0 rfl ?_
  refine cg_Bends_wholes C uX0_setBend_0 (by decide +kernel) dX0_setBend_55 ?_
  refine z_iload_n C dX0_setBend_58 rfl 1 rfl ?_
  refine z_aload_n C dX0_setBend_59 rfl 0 rfl ?_
  refine cg_Bends_aboves C uX0_setBend_0 (by decide +kernel) dX0_setBend_60 ?_
  refine z_iload_n C dX0_setBend_63 rfl 1 rfl ?_
  obtain ⟨h9, hf⟩ := z_some hf
  refine z_lald C 17 cw_at_17 h9 dX0_setBend_64 ?_
  refine z_aload_n C dX0_setBend_65 rfl 0 rfl ?_
  refine cg_Bends_belows C uX0_setBend_0 (by decide +kernel) dX0_setBend_66 ?_
  refine z_iload_n C dX0_setBend_69 rfl 1 rfl ?_
  obtain ⟨h10, hf⟩ := z_some hf
  refine z_lald C 18 cw_at_18 h10 dX0_setBend_70 ?_
  obtain ⟨q11, h12, hf⟩ := z_bind hf
  refine z_callSi C (rest := [.int v1, .ref (a 19)]) (tX0_nearestWhole (ze_l E) (ze_D E) t _ h12) gX0_setBend_X0_nearestWhole rfl hdX0_nearestWhole ⟨(Nat.le_of_ble_eq_true rfl), (Nat.le_of_ble_eq_true rfl)⟩ ⟨Nat.zero_le _, Nat.zero_le _⟩ rfl rfl (Nat.le_of_ble_eq_true rfl) dX0_setBend_71 ?_
  obtain ⟨h13, hf⟩ := z_some hf
  refine z_iast C 19 cw_at_19 h13 (w' := CW t a (sA (sB x 18 s1 s0) 19 v1 q11)) cw_up_19 dX0_setBend_74 ?_
  cases hf
  exact R _ _ dX0_setBend_75
set_option maxHeartbeats 4000000 in
set_option maxRecDepth 100000 in
theorem kX0_setBend_31 (E : zE) (t : zTy) (a : Nat → Nat) (out : ST) (C : zC E cX0_setBend 8 RX0 wsX0_setBend (zrm 2 45) t) (R : zRv E cX0_setBend 8 (CW t a out)) : ∀ (v1 : Int32) (v4 : Int64) (v6 : Int64) (s0 : Int64) (s1 : Int32) (x : ST), fX0_setBend_31 v1 v4 v6 s0 s1 x = some out → zG E 8 0 0 (CW t a x) 31 [(0, .ref (a 1)), (1, .int v1), (4, .long v4), (6, .long v6)] [.long s0, .int s1, .ref (a 17)] := by
  intro v1 v4 v6 s0 s1 x hf
  rw [fX0_setBend_31] at hf
  obtain ⟨h5, hf⟩ := z_some hf
  refine z_last C 17 cw_at_17 h5 (w' := CW t a (sB x 17 s1 s0)) cw_up_17 dX0_setBend_31 ?_
  refine z_aload_n C dX0_setBend_32 rfl 0 rfl ?_
  refine cg_Bends_belows C uX0_setBend_0 (by decide +kernel) dX0_setBend_33 ?_
  refine z_iload_n C dX0_setBend_36 rfl 1 rfl ?_
  refine z_lload C dX0_setBend_37 3 rfl ?_
  refine z_lconst C dX0_setBend_39 0 rfl ?_
  refine z_lcmp_le C 52 dX0_setBend_40 dX0_setBend_41 (by decide) (fun c6 => ?_) (fun c6 => ?_)
  · replace hf := z_ift c6 hf
    refine z_lconst C dX0_setBend_52 1 rfl ?_
    exact z_sub [0, 1] rfl (kX0_setBend_53 E t a out C R _ _ _ _ hf)
  · replace hf := z_iff c6 hf
    refine z_lload C dX0_setBend_44 2 rfl ?_
    refine z_lload C dX0_setBend_46 3 rfl ?_
    obtain ⟨h7, hf⟩ := z_div hf
    refine z_ldiv C h7 dX0_setBend_48 ?_
    refine z_goto C 53 dX0_setBend_49 (by decide) ?_
    exact z_sub [0, 1] rfl (kX0_setBend_53 E t a out C R _ _ _ _ hf)
theorem hdX0_setBend : yX0_setBend.cls = RX0 ∧ yX0_setBend.cls ≠ "java/lang/invoke/MethodHandle" ∧ yX0_setBend.cls ≠ "java/lang/invoke/VarHandle" ∧ (parseMethodDescriptor yX0_setBend.desc).map (fun d => d.parameters.length) = some 3 := by decide +kernel
set_option maxHeartbeats 4000000 in
set_option maxRecDepth 100000 in
theorem tX0_setBend (l : Launch) (D : va_G) (t : zTy) (a : Nat → Nat) {v1 : Int32} {v2 : Int64} {v4 : Int64} {x : ST} {out : ST} (hf : fX0_setBend v1 v2 v4 x = some out) : zMv l yX0_setBend wsX0_setBend 2 45 D t [.ref (a 1), .int v1, .long v2, .long v4] (CW t a x) (CW t a out) := by
  refine z_entry_v (cc := cX0_setBend) (nL := 8) (by decide) rfl (Nat.le_of_ble_eq_true rfl) (fun E _ _ C R => ?_)
  refine z_sub (lv' := [(0, .ref (a 1)), (1, .int v1), (2, .long v2), (4, .long v4)]) [0, 1, 2, 3] rfl ?_
  rw [fX0_setBend] at hf
  refine z_lload_n C dX0_setBend_0 rfl 2 rfl ?_
  refine z_mabsl C (by decide +kernel) (by decide +kernel) (by decide +kernel) (by decide +kernel) (Nat.le_of_ble_eq_true rfl) (Nat.le_of_ble_eq_true rfl) (Nat.zero_le _) (Nat.zero_le _) dX0_setBend_1 ?_
  refine z_lload C dX0_setBend_4 3 rfl ?_
  obtain ⟨q1, h2, hf⟩ := z_bind hf
  refine z_callSl C (rest := []) (tX0_commonDivisor (ze_l E) (ze_D E) t _ h2) gX0_setBend_X0_commonDivisor rfl hdX0_commonDivisor ⟨(Nat.le_of_ble_eq_true rfl), (Nat.le_of_ble_eq_true rfl)⟩ ⟨Nat.zero_le _, Nat.zero_le _⟩ rfl rfl (Nat.le_of_ble_eq_true rfl) dX0_setBend_6 ?_
  refine z_lstore C [(6, .long q1), (0, .ref (a 1)), (1, .int v1), (2, .long v2), (4, .long v4)] dX0_setBend_9 (by decide) rfl ?_
  refine z_aload_n C dX0_setBend_11 rfl 1 rfl ?_
  refine cg_Bends_aboves C uX0_setBend_0 (by decide +kernel) dX0_setBend_12 ?_
  refine z_iload_n C dX0_setBend_15 rfl 2 rfl ?_
  refine z_lload C dX0_setBend_16 0 rfl ?_
  refine z_lconst C dX0_setBend_18 0 rfl ?_
  refine z_lcmp_le C 30 dX0_setBend_19 dX0_setBend_20 (by decide) (fun c3 => ?_) (fun c3 => ?_)
  · replace hf := z_ift c3 hf
    refine z_lconst C dX0_setBend_30 0 rfl ?_
    exact z_sub [1, 2, 4, 0] rfl (kX0_setBend_31 E t a out C R _ _ _ _ _ _ hf)
  · replace hf := z_iff c3 hf
    refine z_lload_n C dX0_setBend_23 rfl 3 rfl ?_
    refine z_lload C dX0_setBend_24 0 rfl ?_
    obtain ⟨h4, hf⟩ := z_div hf
    refine z_ldiv C h4 dX0_setBend_26 ?_
    refine z_goto C 31 dX0_setBend_27 (by decide) ?_
    exact z_sub [1, 2, 4, 0] rfl (kX0_setBend_31 E t a out C R _ _ _ _ _ _ hf)
theorem uX0_productOf_0 : ∀ w ∈ wsX00, w ∈ wsX0_productOf := by decide +kernel
set_option maxHeartbeats 4000000 in
set_option maxRecDepth 100000 in
theorem kX0_productOf_5 (E : zE) (t : zTy) (a : Nat → Nat) (out : Int64 × ST) (C : zC E cX0_productOf 6 RX0 wsX0_productOf (zrm 0 0) t) (R : zRl E cX0_productOf 6 out.1 (CW t a out.2)) : ∀ (n : Nat) (v1 : Int32) (v2 : Int32) (v3 : Int64) (v5 : Int32) (x : ST), fX0_productOf_5 n v1 v2 v3 v5 x = some out → zG E 6 0 0 (CW t a x) 5 [(0, .ref (a 1)), (1, .int v1), (2, .int v2), (3, .long v3), (5, .int v5)] [] := by
  intro n
  induction n with
  | zero =>
    intro v1 v2 v3 v5 x hf
    cases hf
  | succ n ih =>
    intro v1 v2 v3 v5 x hf
    rw [fX0_productOf_5] at hf
    refine z_iload C dX0_productOf_5 4 rfl ?_
    refine z_bipush C dX0_productOf_7 8 rfl ?_
    refine z_icmp_ge C 47 dX0_productOf_9 (by decide) (fun c1 => ?_) (fun c1 => ?_)
    · replace hf := z_ift c1 hf
      refine z_lload_n C dX0_productOf_47 rfl 3 rfl ?_
      cases hf
      exact R _ _ dX0_productOf_48
    · replace hf := z_iff c1 hf
      refine z_lload_n C dX0_productOf_12 rfl 3 rfl ?_
      refine z_aload_n C dX0_productOf_13 rfl 0 rfl ?_
      refine cg_Bends_columns C uX0_productOf_0 (by decide +kernel) dX0_productOf_14 ?_
      refine z_iload_n C dX0_productOf_17 rfl 1 rfl ?_
      refine z_bipush C dX0_productOf_18 8 rfl ?_
      refine z_imul C dX0_productOf_20 ?_
      refine z_iload C dX0_productOf_21 4 rfl ?_
      refine z_iadd C dX0_productOf_23 ?_
      obtain ⟨h2, hf⟩ := z_some hf
      refine z_iald C 12 cw_at_12 h2 dX0_productOf_24 ?_
      refine z_aload_n C dX0_productOf_25 rfl 0 rfl ?_
      refine cg_Bends_columns C uX0_productOf_0 (by decide +kernel) dX0_productOf_26 ?_
      refine z_iload_n C dX0_productOf_29 rfl 2 rfl ?_
      refine z_bipush C dX0_productOf_30 8 rfl ?_
      refine z_imul C dX0_productOf_32 ?_
      refine z_iload C dX0_productOf_33 4 rfl ?_
      refine z_iadd C dX0_productOf_35 ?_
      obtain ⟨h3, hf⟩ := z_some hf
      refine z_iald C 12 cw_at_12 h3 dX0_productOf_36 ?_
      refine z_imul C dX0_productOf_37 ?_
      refine z_i2l C dX0_productOf_38 ?_
      refine z_ladd C dX0_productOf_39 ?_
      refine z_lstore_n C [(3, .long (v3 + (((gA x 12 ((v1 * 8) + v5).toNatClampNeg) * (gA x 12 ((v2 * 8) + v5).toNatClampNeg)).toInt64))), (0, .ref (a 1)), (1, .int v1), (2, .int v2), (5, .int v5)] dX0_productOf_40 rfl (by decide) rfl ?_
      refine z_iinc C (v5 + 1) [(5, .int (v5 + 1)), (3, .long (v3 + (((gA x 12 ((v1 * 8) + v5).toNatClampNeg) * (gA x 12 ((v2 * 8) + v5).toNatClampNeg)).toInt64))), (0, .ref (a 1)), (1, .int v1), (2, .int v2)] dX0_productOf_41 4 rfl rfl (by decide) rfl ?_
      refine z_goto C 5 dX0_productOf_44 (by decide) ?_
      exact z_sub [2, 3, 4, 1, 0] rfl (ih _ _ _ _ _ hf)
theorem hdX0_productOf : yX0_productOf.cls = RX0 ∧ yX0_productOf.cls ≠ "java/lang/invoke/MethodHandle" ∧ yX0_productOf.cls ≠ "java/lang/invoke/VarHandle" ∧ (parseMethodDescriptor yX0_productOf.desc).map (fun d => d.parameters.length) = some 2 := by decide +kernel
set_option maxHeartbeats 4000000 in
set_option maxRecDepth 100000 in
theorem tX0_productOf (l : Launch) (D : va_G) (t : zTy) (a : Nat → Nat) {v1 : Int32} {v2 : Int32} {x : ST} {out : Int64 × ST} (hf : fX0_productOf v1 v2 x = some out) : zMl l yX0_productOf wsX0_productOf 0 0 D t [.ref (a 1), .int v1, .int v2] (CW t a x) out.1 (CW t a out.2) := by
  refine z_entry_l (cc := cX0_productOf) (nL := 6) (by decide) rfl (Nat.le_of_ble_eq_true rfl) (fun E _ _ C R => ?_)
  refine z_sub (lv' := [(0, .ref (a 1)), (1, .int v1), (2, .int v2)]) [0, 1, 2] rfl ?_
  rw [fX0_productOf] at hf
  refine z_lconst C dX0_productOf_0 0 rfl ?_
  refine z_lstore_n C [(3, .long 0), (0, .ref (a 1)), (1, .int v1), (2, .int v2)] dX0_productOf_1 rfl (by decide) rfl ?_
  refine z_iconst C dX0_productOf_2 0 rfl ?_
  refine z_istore C [(5, .int 0), (3, .long 0), (0, .ref (a 1)), (1, .int v1), (2, .int v2)] dX0_productOf_3 (by decide) rfl ?_
  exact z_sub [2, 3, 4, 1, 0] rfl (kX0_productOf_5 E t a out C R 200 _ _ _ _ _ hf)
theorem uX0_expand_0 : ∀ w ∈ wsX00, w ∈ wsX0_expand := by decide +kernel
set_option maxHeartbeats 4000000 in
set_option maxRecDepth 100000 in
theorem kX0_expand_81 (E : zE) (t : zTy) (a : Nat → Nat) (out : Int64 × ST) (C : zC E cX0_expand 10 RX0 wsX0_expand (zrm 0 0) t) (R : zRl E cX0_expand 10 out.1 (CW t a out.2)) (kb11 : Int32 → Int32 → Int64 → Int32 → Int32 → ST → Option (Int64 × ST)) (Kb11 : ∀ (v1 : Int32) (v2 : Int32) (v4 : Int64) (v6 : Int32) (v7 : Int32) (x : ST), kb11 v1 v2 v4 v6 v7 x = some out → zG E 10 0 0 (CW t a x) 11 [(0, .ref (a 1)), (1, .int v1), (2, .int v2), (4, .long v4), (6, .int v6), (7, .int v7)] []) : ∀ (v1 : Int32) (v2 : Int32) (v4 : Int64) (v6 : Int32) (v7 : Int32) (x : ST), fX0_expand_81 kb11 v1 v2 v4 v6 v7 x = some out → zG E 10 0 0 (CW t a x) 81 [(0, .ref (a 1)), (1, .int v1), (2, .int v2), (4, .long v4), (6, .int v6), (7, .int v7)] [] := by
  intro v1 v2 v4 v6 v7 x hf
  rw [fX0_expand_81] at hf
  refine z_iinc C (v7 + (-1)) [(7, .int (v7 + (-1))), (0, .ref (a 1)), (1, .int v1), (2, .int v2), (4, .long v4), (6, .int v6)] dX0_expand_81 5 rfl rfl (by decide) rfl ?_
  refine z_goto C 11 dX0_expand_84 (by decide) ?_
  exact z_sub [1, 2, 3, 4, 5, 0] rfl (Kb11 _ _ _ _ _ _ hf)
set_option maxHeartbeats 4000000 in
set_option maxRecDepth 100000 in
theorem kX0_expand_79 (E : zE) (t : zTy) (a : Nat → Nat) (out : Int64 × ST) (C : zC E cX0_expand 10 RX0 wsX0_expand (zrm 0 0) t) (R : zRl E cX0_expand 10 out.1 (CW t a out.2)) (kb11 : Int32 → Int32 → Int64 → Int32 → Int32 → ST → Option (Int64 × ST)) (Kb11 : ∀ (v1 : Int32) (v2 : Int32) (v4 : Int64) (v6 : Int32) (v7 : Int32) (x : ST), kb11 v1 v2 v4 v6 v7 x = some out → zG E 10 0 0 (CW t a x) 11 [(0, .ref (a 1)), (1, .int v1), (2, .int v2), (4, .long v4), (6, .int v6), (7, .int v7)] []) : ∀ (v1 : Int32) (v2 : Int32) (v4 : Int64) (v7 : Int32) (s0 : Int32) (x : ST), fX0_expand_79 kb11 v1 v2 v4 v7 s0 x = some out → zG E 10 0 0 (CW t a x) 79 [(0, .ref (a 1)), (1, .int v1), (2, .int v2), (4, .long v4), (7, .int v7)] [.int s0] := by
  intro v1 v2 v4 v7 s0 x hf
  rw [fX0_expand_79] at hf
  refine z_istore C [(6, .int s0), (0, .ref (a 1)), (1, .int v1), (2, .int v2), (4, .long v4), (7, .int v7)] dX0_expand_79 (by decide) rfl ?_
  exact z_sub [1, 2, 3, 4, 0, 5] rfl (kX0_expand_81 E t a out C R (kb11) (Kb11) _ _ _ _ _ _ hf)
set_option maxHeartbeats 4000000 in
set_option maxRecDepth 100000 in
theorem kX0_expand_66 (E : zE) (t : zTy) (a : Nat → Nat) (out : Int64 × ST) (C : zC E cX0_expand 10 RX0 wsX0_expand (zrm 0 0) t) (R : zRl E cX0_expand 10 out.1 (CW t a out.2)) (kb11 : Int32 → Int32 → Int64 → Int32 → Int32 → ST → Option (Int64 × ST)) (Kb11 : ∀ (v1 : Int32) (v2 : Int32) (v4 : Int64) (v6 : Int32) (v7 : Int32) (x : ST), kb11 v1 v2 v4 v6 v7 x = some out → zG E 10 0 0 (CW t a x) 11 [(0, .ref (a 1)), (1, .int v1), (2, .int v2), (4, .long v4), (6, .int v6), (7, .int v7)] []) : ∀ (v1 : Int32) (v2 : Int32) (v6 : Int32) (v7 : Int32) (s0 : Int64) (s1 : Int64) (x : ST), fX0_expand_66 kb11 v1 v2 v6 v7 s0 s1 x = some out → zG E 10 0 0 (CW t a x) 66 [(0, .ref (a 1)), (1, .int v1), (2, .int v2), (6, .int v6), (7, .int v7)] [.long s0, .long s1] := by
  intro v1 v2 v6 v7 s0 s1 x hf
  rw [fX0_expand_66] at hf
  refine z_ladd C dX0_expand_66 ?_
  refine z_lstore C [(4, .long (s1 + s0)), (0, .ref (a 1)), (1, .int v1), (2, .int v2), (6, .int v6), (7, .int v7)] dX0_expand_67 (by decide) rfl ?_
  refine z_iload C dX0_expand_69 4 rfl ?_
  refine z_if_ne C 78 dX0_expand_71 (by decide) (fun c6 => ?_) (fun c6 => ?_)
  · replace hf := z_iff c6 hf
    refine z_iconst C dX0_expand_78 0 rfl ?_
    exact z_sub [1, 2, 3, 0, 5] rfl (kX0_expand_79 E t a out C R (kb11) (Kb11) _ _ _ _ _ _ hf)
  · replace hf := z_ift c6 hf
    refine z_iconst C dX0_expand_74 1 rfl ?_
    refine z_goto C 79 dX0_expand_75 (by decide) ?_
    exact z_sub [1, 2, 3, 0, 5] rfl (kX0_expand_79 E t a out C R (kb11) (Kb11) _ _ _ _ _ _ hf)
set_option maxHeartbeats 4000000 in
set_option maxRecDepth 100000 in
theorem kX0_expand_11 (E : zE) (t : zTy) (a : Nat → Nat) (out : Int64 × ST) (C : zC E cX0_expand 10 RX0 wsX0_expand (zrm 0 0) t) (R : zRl E cX0_expand 10 out.1 (CW t a out.2)) : ∀ (n : Nat) (v1 : Int32) (v2 : Int32) (v4 : Int64) (v6 : Int32) (v7 : Int32) (x : ST), fX0_expand_11 n v1 v2 v4 v6 v7 x = some out → zG E 10 0 0 (CW t a x) 11 [(0, .ref (a 1)), (1, .int v1), (2, .int v2), (4, .long v4), (6, .int v6), (7, .int v7)] [] := by
  intro n
  induction n with
  | zero =>
    intro v1 v2 v4 v6 v7 x hf
    cases hf
  | succ n ih =>
    intro v1 v2 v4 v6 v7 x hf
    rw [fX0_expand_11] at hf
    refine z_iload C dX0_expand_11 5 rfl ?_
    refine z_if_lt C 87 dX0_expand_13 (by decide) (fun c1 => ?_) (fun c1 => ?_)
    · replace hf := z_ift c1 hf
      refine z_lload C dX0_expand_87 3 rfl ?_
      cases hf
      exact R _ _ dX0_expand_89
    · replace hf := z_iff c1 hf
      refine z_iload_n C dX0_expand_16 rfl 1 rfl ?_
      refine z_iconst C dX0_expand_17 1 rfl ?_
      refine z_iload C dX0_expand_18 5 rfl ?_
      refine z_ishl C dX0_expand_20 ?_
      refine z_iand C dX0_expand_21 ?_
      refine z_if_eq C 81 dX0_expand_22 (by decide) (fun c2 => ?_) (fun c2 => ?_)
      · replace hf := z_ift c2 hf
        exact z_sub [0, 1, 2, 3, 4, 5] rfl (kX0_expand_81 E t a out C R (fX0_expand_11 n) (ih) _ _ _ _ _ _ hf)
      · replace hf := z_iff c2 hf
        refine z_aload_n C dX0_expand_25 rfl 0 rfl ?_
        refine cg_Bends_grid C uX0_expand_0 (by decide +kernel) dX0_expand_26 ?_
        refine z_iload_n C dX0_expand_29 rfl 2 rfl ?_
        refine z_bipush C dX0_expand_30 6 rfl ?_
        refine z_imul C dX0_expand_32 ?_
        refine z_iload C dX0_expand_33 5 rfl ?_
        refine z_iadd C dX0_expand_35 ?_
        obtain ⟨h3, hf⟩ := z_some hf
        refine z_lald C 15 cw_at_15 h3 dX0_expand_36 ?_
        refine z_aload_n C dX0_expand_37 rfl 0 rfl ?_
        refine cg_Bends_minors C uX0_expand_0 (by decide +kernel) dX0_expand_38 ?_
        refine z_iload_n C dX0_expand_41 rfl 1 rfl ?_
        refine z_iconst C dX0_expand_42 1 rfl ?_
        refine z_iload C dX0_expand_43 5 rfl ?_
        refine z_ishl C dX0_expand_45 ?_
        refine z_ixor C dX0_expand_46 ?_
        obtain ⟨h4, hf⟩ := z_some hf
        refine z_lald C 16 cw_at_16 h4 dX0_expand_47 ?_
        refine z_lmul C dX0_expand_48 ?_
        refine z_lstore C [(8, .long ((gB x 15 ((v2 * 6) + v7).toNatClampNeg) * (gB x 16 (v1 ^^^ ((1 : Int32) <<< (v7 &&& 31))).toNatClampNeg))), (0, .ref (a 1)), (1, .int v1), (2, .int v2), (4, .long v4), (6, .int v6), (7, .int v7)] dX0_expand_49 (by decide) rfl ?_
        refine z_lload C dX0_expand_51 4 rfl ?_
        refine z_iload C dX0_expand_53 5 rfl ?_
        refine z_if_eq C 64 dX0_expand_55 (by decide) (fun c5 => ?_) (fun c5 => ?_)
        · replace hf := z_ift c5 hf
          refine z_lload C dX0_expand_64 0 rfl ?_
          exact z_sub [1, 2, 3, 5, 6] rfl (kX0_expand_66 E t a out C R (fX0_expand_11 n) (ih) _ _ _ _ _ _ _ hf)
        · replace hf := z_iff c5 hf
          refine z_lload C dX0_expand_58 0 rfl ?_
          refine z_lneg C dX0_expand_60 ?_
          refine z_goto C 66 dX0_expand_61 (by decide) ?_
          exact z_sub [1, 2, 3, 5, 6] rfl (kX0_expand_66 E t a out C R (fX0_expand_11 n) (ih) _ _ _ _ _ _ _ hf)
theorem hdX0_expand : yX0_expand.cls = RX0 ∧ yX0_expand.cls ≠ "java/lang/invoke/MethodHandle" ∧ yX0_expand.cls ≠ "java/lang/invoke/VarHandle" ∧ (parseMethodDescriptor yX0_expand.desc).map (fun d => d.parameters.length) = some 3 := by decide +kernel
set_option maxHeartbeats 4000000 in
set_option maxRecDepth 100000 in
theorem tX0_expand (l : Launch) (D : va_G) (t : zTy) (a : Nat → Nat) {v1 : Int32} {v2 : Int32} {v3 : Int32} {x : ST} {out : Int64 × ST} (hf : fX0_expand v1 v2 v3 x = some out) : zMl l yX0_expand wsX0_expand 0 0 D t [.ref (a 1), .int v1, .int v2, .int v3] (CW t a x) out.1 (CW t a out.2) := by
  refine z_entry_l (cc := cX0_expand) (nL := 10) (by decide) rfl (Nat.le_of_ble_eq_true rfl) (fun E _ _ C R => ?_)
  refine z_sub (lv' := [(0, .ref (a 1)), (1, .int v1), (2, .int v2), (3, .int v3)]) [0, 1, 2, 3] rfl ?_
  rw [fX0_expand] at hf
  refine z_lconst C dX0_expand_0 0 rfl ?_
  refine z_lstore C [(4, .long 0), (0, .ref (a 1)), (1, .int v1), (2, .int v2), (3, .int v3)] dX0_expand_1 (by decide) rfl ?_
  refine z_iconst C dX0_expand_3 0 rfl ?_
  refine z_istore C [(6, .int 0), (4, .long 0), (0, .ref (a 1)), (1, .int v1), (2, .int v2), (3, .int v3)] dX0_expand_4 (by decide) rfl ?_
  refine z_iload_n C dX0_expand_6 rfl 5 rfl ?_
  refine z_iconst C dX0_expand_7 1 rfl ?_
  refine z_isub C dX0_expand_8 ?_
  refine z_istore C [(7, .int (v3 - 1)), (6, .int 0), (4, .long 0), (0, .ref (a 1)), (1, .int v1), (2, .int v2), (3, .int v3)] dX0_expand_9 (by decide) rfl ?_
  exact z_sub [3, 4, 5, 2, 1, 0] rfl (kX0_expand_11 E t a out C R 200 _ _ _ _ _ _ hf)
theorem uX0_takeMinors_0 : ∀ w ∈ wsX00, w ∈ wsX0_takeMinors := by decide +kernel
set_option maxHeartbeats 4000000 in
set_option maxRecDepth 100000 in
theorem kX0_takeMinors_44 (E : zE) (t : zTy) (a : Nat → Nat) (out : ST) (C : zC E cX0_takeMinors 4 RX0 wsX0_takeMinors (zrm 1 29) t) (R : zRv E cX0_takeMinors 4 (CW t a out)) (kb9 : Int32 → Int32 → ST → Option (ST)) (Kb9 : ∀ (v1 : Int32) (v2 : Int32) (x : ST), kb9 v1 v2 x = some out → zG E 4 0 0 (CW t a x) 9 [(0, .ref (a 1)), (1, .int v1), (2, .int v2)] []) : ∀ (v1 : Int32) (v2 : Int32) (s0 : Int64) (s1 : Int32) (x : ST), fX0_takeMinors_44 kb9 v1 v2 s0 s1 x = some out → zG E 4 0 0 (CW t a x) 44 [(0, .ref (a 1)), (1, .int v1), (2, .int v2)] [.long s0, .int s1, .ref (a 16)] := by
  intro v1 v2 s0 s1 x hf
  rw [fX0_takeMinors_44] at hf
  obtain ⟨h8, hf⟩ := z_some hf
  refine z_last C 16 cw_at_16 h8 (w' := CW t a (sB x 16 s1 s0)) cw_up_16 dX0_takeMinors_44 ?_
  refine z_iinc C (v2 + 1) [(2, .int (v2 + 1)), (0, .ref (a 1)), (1, .int v1)] dX0_takeMinors_45 2 rfl rfl (by decide) rfl ?_
  refine z_goto C 9 dX0_takeMinors_48 (by decide) ?_
  exact z_sub [1, 2, 0] rfl (Kb9 _ _ _ hf)
set_option maxHeartbeats 4000000 in
set_option maxRecDepth 100000 in
theorem kX0_takeMinors_9 (E : zE) (t : zTy) (a : Nat → Nat) (out : ST) (C : zC E cX0_takeMinors 4 RX0 wsX0_takeMinors (zrm 1 29) t) (R : zRv E cX0_takeMinors 4 (CW t a out)) : ∀ (n : Nat) (v1 : Int32) (v2 : Int32) (x : ST), fX0_takeMinors_9 n v1 v2 x = some out → zG E 4 0 0 (CW t a x) 9 [(0, .ref (a 1)), (1, .int v1), (2, .int v2)] [] := by
  intro n
  induction n with
  | zero =>
    intro v1 v2 x hf
    cases hf
  | succ n ih =>
    intro v1 v2 x hf
    rw [fX0_takeMinors_9] at hf
    refine z_iload_n C dX0_takeMinors_9 rfl 2 rfl ?_
    refine z_iconst C dX0_takeMinors_10 1 rfl ?_
    refine z_iload_n C dX0_takeMinors_11 rfl 1 rfl ?_
    refine z_ishl C dX0_takeMinors_12 ?_
    refine z_icmp_ge C 51 dX0_takeMinors_13 (by decide) (fun c2 => ?_) (fun c2 => ?_)
    · replace hf := z_ift c2 hf
      cases hf
      exact R _ _ dX0_takeMinors_51
    · replace hf := z_iff c2 hf
      refine z_iload_n C dX0_takeMinors_16 rfl 2 rfl ?_
      obtain ⟨q3, h4, hf⟩ := z_bind hf
      refine z_callSi C (rest := []) (tJ6_bitCount_0f7a4 (ze_l E) (ze_D E) t _ h4) gX0_takeMinors_J6_bitCount_0f7a4 rfl hdJ6_bitCount_0f7a4 ⟨(Nat.le_of_ble_eq_true rfl), (Nat.le_of_ble_eq_true rfl)⟩ ⟨Nat.zero_le _, Nat.zero_le _⟩ rfl rfl (Nat.le_of_ble_eq_true rfl) dX0_takeMinors_17 ?_
      refine z_iconst C dX0_takeMinors_20 1 rfl ?_
      refine z_isub C dX0_takeMinors_21 ?_
      refine z_istore_n C [(3, .int (q3 - 1)), (0, .ref (a 1)), (1, .int v1), (2, .int v2)] dX0_takeMinors_22 rfl (by decide) rfl ?_
      refine z_aload_n C dX0_takeMinors_23 rfl 1 rfl ?_
      refine cg_Bends_minors C uX0_takeMinors_0 (by decide +kernel) dX0_takeMinors_24 ?_
      refine z_iload_n C dX0_takeMinors_27 rfl 3 rfl ?_
      refine z_iload_n C dX0_takeMinors_28 rfl 0 rfl ?_
      refine z_iconst C dX0_takeMinors_29 5 rfl ?_
      refine z_icmp_ge C 43 dX0_takeMinors_30 (by decide) (fun c5 => ?_) (fun c5 => ?_)
      · replace hf := z_ift c5 hf
        refine z_lconst C dX0_takeMinors_43 0 rfl ?_
        exact z_sub [1, 2, 3] rfl (kX0_takeMinors_44 E t a out C R (fX0_takeMinors_9 n) (ih) _ _ _ _ _ hf)
      · replace hf := z_iff c5 hf
        refine z_aload_n C dX0_takeMinors_33 rfl 1 rfl ?_
        refine z_iload_n C dX0_takeMinors_34 rfl 3 rfl ?_
        refine z_iload_n C dX0_takeMinors_35 rfl 0 rfl ?_
        refine z_iload_n C dX0_takeMinors_36 rfl 2 rfl ?_
        obtain ⟨q6, h7, hf⟩ := z_bind hf
        refine z_callVl C (rest := [.int v2, .ref (a 16)]) (tX0_expand (ze_l E) (ze_D E) t a h7) gX0_takeMinors_X0_expand rfl hdX0_expand ⟨(Nat.le_of_ble_eq_true rfl), (Nat.le_of_ble_eq_true rfl)⟩ ⟨Nat.zero_le _, Nat.zero_le _⟩ 1 cw_at_1 rfl rfl rfl (Nat.le_of_ble_eq_true rfl) dX0_takeMinors_37 ?_
        refine z_goto C 44 dX0_takeMinors_40 (by decide) ?_
        exact z_sub [1, 2, 3] rfl (kX0_takeMinors_44 E t a out C R (fX0_takeMinors_9 n) (ih) _ _ _ _ _ hf)
theorem hdX0_takeMinors : yX0_takeMinors.cls = RX0 ∧ yX0_takeMinors.cls ≠ "java/lang/invoke/MethodHandle" ∧ yX0_takeMinors.cls ≠ "java/lang/invoke/VarHandle" ∧ (parseMethodDescriptor yX0_takeMinors.desc).map (fun d => d.parameters.length) = some 1 := by decide +kernel
set_option maxHeartbeats 4000000 in
set_option maxRecDepth 100000 in
theorem tX0_takeMinors (l : Launch) (D : va_G) (t : zTy) (a : Nat → Nat) {v1 : Int32} {x : ST} {out : ST} (hf : fX0_takeMinors v1 x = some out) : zMv l yX0_takeMinors wsX0_takeMinors 1 29 D t [.ref (a 1), .int v1] (CW t a x) (CW t a out) := by
  refine z_entry_v (cc := cX0_takeMinors) (nL := 4) (by decide) rfl (Nat.le_of_ble_eq_true rfl) (fun E _ _ C R => ?_)
  refine z_sub (lv' := [(0, .ref (a 1)), (1, .int v1)]) [0, 1] rfl ?_
  rw [fX0_takeMinors] at hf
  refine z_aload_n C dX0_takeMinors_0 rfl 0 rfl ?_
  refine cg_Bends_minors C uX0_takeMinors_0 (by decide +kernel) dX0_takeMinors_1 ?_
  refine z_iconst C dX0_takeMinors_4 0 rfl ?_
  refine z_lconst C dX0_takeMinors_5 1 rfl ?_
  obtain ⟨h1, hf⟩ := z_some hf
  refine z_last C 16 cw_at_16 h1 (w' := CW t a (sB x 16 0 1)) cw_up_16 dX0_takeMinors_6 ?_
  refine z_iconst C dX0_takeMinors_7 1 rfl ?_
  refine z_istore_n C [(2, .int 1), (0, .ref (a 1)), (1, .int v1)] dX0_takeMinors_8 rfl (by decide) rfl ?_
  exact z_sub [1, 2, 0] rfl (kX0_takeMinors_9 E t a out C R 200 _ _ _ hf)
theorem uX0_considerPart_0 : ∀ w ∈ wsX00, w ∈ wsX0_considerPart := by decide +kernel
set_option maxHeartbeats 4000000 in
set_option maxRecDepth 100000 in
theorem kX0_considerPart_68 (E : zE) (t : zTy) (a : Nat → Nat) (out : ST) (C : zC E cX0_considerPart 5 RX0 wsX0_considerPart (zrm 2 52) t) (R : zRv E cX0_considerPart 5 (CW t a out)) : ∀ (x : ST), fX0_considerPart_68 x = some out → zG E 5 0 0 (CW t a x) 68 [(0, .ref (a 1))] [] := by
  intro x hf
  rw [fX0_considerPart_68] at hf
  refine z_aload_n C dX0_considerPart_68 rfl 0 rfl ?_
  refine z_aload_n C dX0_considerPart_69 rfl 0 rfl ?_
  refine cg_Bends_seenCount C uX0_considerPart_0 (by decide +kernel) dX0_considerPart_70 ?_
  refine z_iconst C dX0_considerPart_73 1 rfl ?_
  refine z_iadd C dX0_considerPart_74 ?_
  obtain ⟨q8, h9, hf⟩ := z_bind hf
  refine z_callVv C (rest := []) (tX0_takeMinors (ze_l E) (ze_D E) t a h9) gX0_considerPart_X0_takeMinors rfl hdX0_takeMinors ⟨(Nat.le_of_ble_eq_true rfl), (Nat.le_of_ble_eq_true rfl)⟩ ⟨Nat.zero_le _, Nat.zero_le _⟩ 1 cw_at_1 rfl rfl rfl (Nat.le_of_ble_eq_true rfl) dX0_considerPart_75 ?_
  refine z_aload_n C dX0_considerPart_78 rfl 0 rfl ?_
  refine cg_Bends_minors C uX0_considerPart_0 (by decide +kernel) dX0_considerPart_79 ?_
  refine z_iconst C dX0_considerPart_82 1 rfl ?_
  refine z_aload_n C dX0_considerPart_83 rfl 0 rfl ?_
  refine cg_Bends_seenCount C uX0_considerPart_0 (by decide +kernel) dX0_considerPart_84 ?_
  refine z_iconst C dX0_considerPart_87 1 rfl ?_
  refine z_iadd C dX0_considerPart_88 ?_
  refine z_ishl C dX0_considerPart_89 ?_
  refine z_iconst C dX0_considerPart_90 1 rfl ?_
  refine z_isub C dX0_considerPart_91 ?_
  obtain ⟨h10, hf⟩ := z_some hf
  refine z_lald C 16 cw_at_16 h10 dX0_considerPart_92 ?_
  refine z_lconst C dX0_considerPart_93 0 rfl ?_
  refine z_lcmp_eq C 108 dX0_considerPart_94 dX0_considerPart_95 (by decide) (fun c11 => ?_) (fun c11 => ?_)
  · replace hf := z_ift c11 hf
    cases hf
    exact R _ _ dX0_considerPart_108
  · replace hf := z_iff c11 hf
    refine z_aload_n C dX0_considerPart_98 rfl 0 rfl ?_
    refine z_dup C dX0_considerPart_99 rfl ?_
    refine cg_Bends_seenCount C uX0_considerPart_0 (by decide +kernel) dX0_considerPart_100 ?_
    refine z_iconst C dX0_considerPart_103 1 rfl ?_
    refine z_iadd C dX0_considerPart_104 ?_
    refine cp_Bends_seenCount C uX0_considerPart_0 (by decide +kernel) dX0_considerPart_105 ?_
    cases hf
    exact R _ _ dX0_considerPart_108
set_option maxHeartbeats 4000000 in
set_option maxRecDepth 100000 in
theorem kX0_considerPart_12 (E : zE) (t : zTy) (a : Nat → Nat) (out : ST) (C : zC E cX0_considerPart 5 RX0 wsX0_considerPart (zrm 2 52) t) (R : zRv E cX0_considerPart 5 (CW t a out)) : ∀ (n : Nat) (v1 : Int32) (v2 : Int32) (x : ST), fX0_considerPart_12 n v1 v2 x = some out → zG E 5 0 0 (CW t a x) 12 [(0, .ref (a 1)), (1, .int v1), (2, .int v2)] [] := by
  intro n
  induction n with
  | zero =>
    intro v1 v2 x hf
    cases hf
  | succ n ih =>
    intro v1 v2 x hf
    rw [fX0_considerPart_12] at hf
    refine z_iload_n C dX0_considerPart_12 rfl 2 rfl ?_
    refine z_aload_n C dX0_considerPart_13 rfl 0 rfl ?_
    refine cg_Bends_seenCount C uX0_considerPart_0 (by decide +kernel) dX0_considerPart_14 ?_
    refine z_icmp_gt C 68 dX0_considerPart_17 (by decide) (fun c2 => ?_) (fun c2 => ?_)
    · replace hf := z_ift c2 hf
      exact z_sub [0] rfl (kX0_considerPart_68 E t a out C R _ hf)
    · replace hf := z_iff c2 hf
      refine z_aload_n C dX0_considerPart_20 rfl 0 rfl ?_
      refine z_iload_n C dX0_considerPart_21 rfl 1 rfl ?_
      refine z_aload_n C dX0_considerPart_22 rfl 0 rfl ?_
      refine cg_Bends_seenOnes C uX0_considerPart_0 (by decide +kernel) dX0_considerPart_23 ?_
      refine z_iload_n C dX0_considerPart_26 rfl 2 rfl ?_
      obtain ⟨h3, hf⟩ := z_some hf
      refine z_iald C 14 cw_at_14 h3 dX0_considerPart_27 ?_
      obtain ⟨q4, h5, hf⟩ := z_bind hf
      refine z_callVl C (rest := []) (tX0_productOf (ze_l E) (ze_D E) t a h5) gX0_considerPart_X0_productOf rfl hdX0_productOf ⟨(Nat.le_of_ble_eq_true rfl), (Nat.le_of_ble_eq_true rfl)⟩ ⟨Nat.zero_le _, Nat.zero_le _⟩ 1 cw_at_1 rfl rfl rfl (Nat.le_of_ble_eq_true rfl) dX0_considerPart_28 ?_
      refine z_lstore_n C [(3, .long q4.1), (0, .ref (a 1)), (1, .int v1), (2, .int v2)] dX0_considerPart_31 rfl (by decide) rfl ?_
      refine z_aload_n C dX0_considerPart_32 rfl 1 rfl ?_
      refine cg_Bends_grid C uX0_considerPart_0 (by decide +kernel) dX0_considerPart_33 ?_
      refine z_iload_n C dX0_considerPart_36 rfl 3 rfl ?_
      refine z_bipush C dX0_considerPart_37 6 rfl ?_
      refine z_imul C dX0_considerPart_39 ?_
      refine z_aload_n C dX0_considerPart_40 rfl 1 rfl ?_
      refine cg_Bends_seenCount C uX0_considerPart_0 (by decide +kernel) dX0_considerPart_41 ?_
      refine z_iadd C dX0_considerPart_44 ?_
      refine z_lload_n C dX0_considerPart_45 rfl 0 rfl ?_
      obtain ⟨h6, hf⟩ := z_some hf
      refine z_last C 15 cw_at_15 h6 (w' := CW t a (sB q4.2 15 ((v2 * 6) + (gI q4.2 0)) q4.1)) cw_up_15 dX0_considerPart_46 ?_
      refine z_aload_n C dX0_considerPart_47 rfl 1 rfl ?_
      refine cg_Bends_grid C uX0_considerPart_0 (by decide +kernel) dX0_considerPart_48 ?_
      refine z_aload_n C dX0_considerPart_51 rfl 1 rfl ?_
      refine cg_Bends_seenCount C uX0_considerPart_0 (by decide +kernel) dX0_considerPart_52 ?_
      refine z_bipush C dX0_considerPart_55 6 rfl ?_
      refine z_imul C dX0_considerPart_57 ?_
      refine z_iload_n C dX0_considerPart_58 rfl 3 rfl ?_
      refine z_iadd C dX0_considerPart_59 ?_
      refine z_lload_n C dX0_considerPart_60 rfl 0 rfl ?_
      obtain ⟨h7, hf⟩ := z_some hf
      refine z_last C 15 cw_at_15 h7 (w' := CW t a (sB (sB q4.2 15 ((v2 * 6) + (gI q4.2 0)) q4.1) 15 (((gI (sB q4.2 15 ((v2 * 6) + (gI q4.2 0)) q4.1) 0) * 6) + v2) q4.1)) cw_up_15 dX0_considerPart_61 ?_
      refine z_iinc C (v2 + 1) [(2, .int (v2 + 1)), (3, .long q4.1), (0, .ref (a 1)), (1, .int v1)] dX0_considerPart_62 3 rfl rfl (by decide) rfl ?_
      refine z_goto C 12 dX0_considerPart_65 (by decide) ?_
      exact z_sub [2, 3, 0] rfl (ih _ _ _ hf)
theorem hdX0_considerPart : yX0_considerPart.cls = RX0 ∧ yX0_considerPart.cls ≠ "java/lang/invoke/MethodHandle" ∧ yX0_considerPart.cls ≠ "java/lang/invoke/VarHandle" ∧ (parseMethodDescriptor yX0_considerPart.desc).map (fun d => d.parameters.length) = some 1 := by decide +kernel
set_option maxHeartbeats 4000000 in
set_option maxRecDepth 100000 in
theorem tX0_considerPart (l : Launch) (D : va_G) (t : zTy) (a : Nat → Nat) {v1 : Int32} {x : ST} {out : ST} (hf : fX0_considerPart v1 x = some out) : zMv l yX0_considerPart wsX0_considerPart 2 52 D t [.ref (a 1), .int v1] (CW t a x) (CW t a out) := by
  refine z_entry_v (cc := cX0_considerPart) (nL := 5) (by decide) rfl (Nat.le_of_ble_eq_true rfl) (fun E _ _ C R => ?_)
  refine z_sub (lv' := [(0, .ref (a 1)), (1, .int v1)]) [0, 1] rfl ?_
  rw [fX0_considerPart] at hf
  refine z_aload_n C dX0_considerPart_0 rfl 0 rfl ?_
  refine cg_Bends_seenOnes C uX0_considerPart_0 (by decide +kernel) dX0_considerPart_1 ?_
  refine z_aload_n C dX0_considerPart_4 rfl 0 rfl ?_
  refine cg_Bends_seenCount C uX0_considerPart_0 (by decide +kernel) dX0_considerPart_5 ?_
  refine z_iload_n C dX0_considerPart_8 rfl 1 rfl ?_
  obtain ⟨h1, hf⟩ := z_some hf
  refine z_iast C 14 cw_at_14 h1 (w' := CW t a (sA x 14 (gI x 0) v1)) cw_up_14 dX0_considerPart_9 ?_
  refine z_iconst C dX0_considerPart_10 0 rfl ?_
  refine z_istore_n C [(2, .int 0), (0, .ref (a 1)), (1, .int v1)] dX0_considerPart_11 rfl (by decide) rfl ?_
  exact z_sub [1, 2, 0] rfl (kX0_considerPart_12 E t a out C R 200 _ _ _ hf)
theorem uX0_productWithSlopes_0 : ∀ w ∈ wsX00, w ∈ wsX0_productWithSlopes := by decide +kernel
set_option maxHeartbeats 4000000 in
set_option maxRecDepth 100000 in
theorem kX0_productWithSlopes_5 (E : zE) (t : zTy) (a : Nat → Nat) (out : Int64 × ST) (C : zC E cX0_productWithSlopes 5 RX0 wsX0_productWithSlopes (zrm 0 0) t) (R : zRl E cX0_productWithSlopes 5 out.1 (CW t a out.2)) : ∀ (n : Nat) (v1 : Int32) (v2 : Int64) (v4 : Int32) (x : ST), fX0_productWithSlopes_5 n v1 v2 v4 x = some out → zG E 5 0 0 (CW t a x) 5 [(0, .ref (a 1)), (1, .int v1), (2, .long v2), (4, .int v4)] [] := by
  intro n
  induction n with
  | zero =>
    intro v1 v2 v4 x hf
    cases hf
  | succ n ih =>
    intro v1 v2 v4 x hf
    rw [fX0_productWithSlopes_5] at hf
    refine z_iload C dX0_productWithSlopes_5 3 rfl ?_
    refine z_bipush C dX0_productWithSlopes_7 8 rfl ?_
    refine z_icmp_ge C 42 dX0_productWithSlopes_9 (by decide) (fun c1 => ?_) (fun c1 => ?_)
    · replace hf := z_ift c1 hf
      refine z_lload_n C dX0_productWithSlopes_42 rfl 2 rfl ?_
      cases hf
      exact R _ _ dX0_productWithSlopes_43
    · replace hf := z_iff c1 hf
      refine z_lload_n C dX0_productWithSlopes_12 rfl 2 rfl ?_
      refine z_aload_n C dX0_productWithSlopes_13 rfl 0 rfl ?_
      refine cg_Bends_columns C uX0_productWithSlopes_0 (by decide +kernel) dX0_productWithSlopes_14 ?_
      refine z_iload_n C dX0_productWithSlopes_17 rfl 1 rfl ?_
      refine z_bipush C dX0_productWithSlopes_18 8 rfl ?_
      refine z_imul C dX0_productWithSlopes_20 ?_
      refine z_iload C dX0_productWithSlopes_21 3 rfl ?_
      refine z_iadd C dX0_productWithSlopes_23 ?_
      obtain ⟨h2, hf⟩ := z_some hf
      refine z_iald C 12 cw_at_12 h2 dX0_productWithSlopes_24 ?_
      refine z_aload_n C dX0_productWithSlopes_25 rfl 0 rfl ?_
      refine cg_Bends_slopes C uX0_productWithSlopes_0 (by decide +kernel) dX0_productWithSlopes_26 ?_
      refine z_iload C dX0_productWithSlopes_29 3 rfl ?_
      obtain ⟨h3, hf⟩ := z_some hf
      refine z_iald C 13 cw_at_13 h3 dX0_productWithSlopes_31 ?_
      refine z_imul C dX0_productWithSlopes_32 ?_
      refine z_i2l C dX0_productWithSlopes_33 ?_
      refine z_ladd C dX0_productWithSlopes_34 ?_
      refine z_lstore_n C [(2, .long (v2 + (((gA x 12 ((v1 * 8) + v4).toNatClampNeg) * (gA x 13 v4.toNatClampNeg)).toInt64))), (0, .ref (a 1)), (1, .int v1), (4, .int v4)] dX0_productWithSlopes_35 rfl (by decide) rfl ?_
      refine z_iinc C (v4 + 1) [(4, .int (v4 + 1)), (2, .long (v2 + (((gA x 12 ((v1 * 8) + v4).toNatClampNeg) * (gA x 13 v4.toNatClampNeg)).toInt64))), (0, .ref (a 1)), (1, .int v1)] dX0_productWithSlopes_36 3 rfl rfl (by decide) rfl ?_
      refine z_goto C 5 dX0_productWithSlopes_39 (by decide) ?_
      exact z_sub [2, 3, 1, 0] rfl (ih _ _ _ _ hf)
theorem hdX0_productWithSlopes : yX0_productWithSlopes.cls = RX0 ∧ yX0_productWithSlopes.cls ≠ "java/lang/invoke/MethodHandle" ∧ yX0_productWithSlopes.cls ≠ "java/lang/invoke/VarHandle" ∧ (parseMethodDescriptor yX0_productWithSlopes.desc).map (fun d => d.parameters.length) = some 1 := by decide +kernel
set_option maxHeartbeats 4000000 in
set_option maxRecDepth 100000 in
theorem tX0_productWithSlopes (l : Launch) (D : va_G) (t : zTy) (a : Nat → Nat) {v1 : Int32} {x : ST} {out : Int64 × ST} (hf : fX0_productWithSlopes v1 x = some out) : zMl l yX0_productWithSlopes wsX0_productWithSlopes 0 0 D t [.ref (a 1), .int v1] (CW t a x) out.1 (CW t a out.2) := by
  refine z_entry_l (cc := cX0_productWithSlopes) (nL := 5) (by decide) rfl (Nat.le_of_ble_eq_true rfl) (fun E _ _ C R => ?_)
  refine z_sub (lv' := [(0, .ref (a 1)), (1, .int v1)]) [0, 1] rfl ?_
  rw [fX0_productWithSlopes] at hf
  refine z_lconst C dX0_productWithSlopes_0 0 rfl ?_
  refine z_lstore_n C [(2, .long 0), (0, .ref (a 1)), (1, .int v1)] dX0_productWithSlopes_1 rfl (by decide) rfl ?_
  refine z_iconst C dX0_productWithSlopes_2 0 rfl ?_
  refine z_istore C [(4, .int 0), (2, .long 0), (0, .ref (a 1)), (1, .int v1)] dX0_productWithSlopes_3 (by decide) rfl ?_
  exact z_sub [2, 3, 1, 0] rfl (kX0_productWithSlopes_5 E t a out C R 200 _ _ _ _ hf)
theorem uX0_solve_0 : ∀ w ∈ wsX00, w ∈ wsX0_solve := by decide +kernel
set_option maxHeartbeats 4000000 in
set_option maxRecDepth 100000 in
theorem kX0_solve_125 (E : zE) (t : zTy) (a : Nat → Nat) (out : ST) (C : zC E cX0_solve 7 RX0 wsX0_solve (zrm 3 72) t) (R : zRv E cX0_solve 7 (CW t a out)) (kb73 : Int32 → Int64 → Int32 → ST → Option (ST)) (Kb73 : ∀ (v1 : Int32) (v2 : Int64) (v4 : Int32) (x : ST), kb73 v1 v2 v4 x = some out → zG E 7 0 0 (CW t a x) 73 [(0, .ref (a 1)), (1, .int v1), (2, .long v2), (4, .int v4)] []) : ∀ (v1 : Int32) (v2 : Int64) (v4 : Int32) (s0 : Int64) (s1 : Int32) (x : ST), fX0_solve_125 kb73 v1 v2 v4 s0 s1 x = some out → zG E 7 0 0 (CW t a x) 125 [(0, .ref (a 1)), (1, .int v1), (2, .long v2), (4, .int v4)] [.long s0, .int s1, .ref (a 1)] := by
  intro v1 v2 v4 s0 s1 x hf
  rw [fX0_solve_125] at hf
  refine z_lload_n C dX0_solve_125 rfl 2 rfl ?_
  obtain ⟨q14, h15, hf⟩ := z_bind hf
  refine z_callVv C (rest := []) (tX0_setBend (ze_l E) (ze_D E) t a h15) gX0_solve_X0_setBend rfl hdX0_setBend ⟨(Nat.le_of_ble_eq_true rfl), (Nat.le_of_ble_eq_true rfl)⟩ ⟨Nat.zero_le _, Nat.zero_le _⟩ 1 cw_at_1 rfl rfl rfl (Nat.le_of_ble_eq_true rfl) dX0_solve_126 ?_
  refine z_iinc C (v4 + 1) [(4, .int (v4 + 1)), (0, .ref (a 1)), (1, .int v1), (2, .long v2)] dX0_solve_129 3 rfl rfl (by decide) rfl ?_
  refine z_goto C 73 dX0_solve_132 (by decide) ?_
  exact z_sub [1, 2, 3, 0] rfl (Kb73 _ _ _ _ hf)
set_option maxHeartbeats 4000000 in
set_option maxRecDepth 100000 in
theorem kX0_solve_73 (E : zE) (t : zTy) (a : Nat → Nat) (out : ST) (C : zC E cX0_solve 7 RX0 wsX0_solve (zrm 3 72) t) (R : zRv E cX0_solve 7 (CW t a out)) : ∀ (n : Nat) (v1 : Int32) (v2 : Int64) (v4 : Int32) (x : ST), fX0_solve_73 n v1 v2 v4 x = some out → zG E 7 0 0 (CW t a x) 73 [(0, .ref (a 1)), (1, .int v1), (2, .long v2), (4, .int v4)] [] := by
  intro n
  induction n with
  | zero =>
    intro v1 v2 v4 x hf
    cases hf
  | succ n ih =>
    intro v1 v2 v4 x hf
    rw [fX0_solve_73] at hf
    refine z_iload C dX0_solve_73 3 rfl ?_
    refine z_aload_n C dX0_solve_75 rfl 0 rfl ?_
    refine cg_Bends_seenCount C uX0_solve_0 (by decide +kernel) dX0_solve_76 ?_
    refine z_icmp_ge C 135 dX0_solve_79 (by decide) (fun c9 => ?_) (fun c9 => ?_)
    · replace hf := z_ift c9 hf
      cases hf
      exact R _ _ dX0_solve_135
    · replace hf := z_iff c9 hf
      refine z_aload_n C dX0_solve_82 rfl 0 rfl ?_
      refine cg_Bends_minors C uX0_solve_0 (by decide +kernel) dX0_solve_83 ?_
      refine z_iload_n C dX0_solve_86 rfl 1 rfl ?_
      refine z_iconst C dX0_solve_87 1 rfl ?_
      refine z_iload C dX0_solve_88 3 rfl ?_
      refine z_ishl C dX0_solve_90 ?_
      refine z_ixor C dX0_solve_91 ?_
      obtain ⟨h10, hf⟩ := z_some hf
      refine z_lald C 16 cw_at_16 h10 dX0_solve_92 ?_
      refine z_lstore C [(5, .long (gB x 16 (v1 ^^^ ((1 : Int32) <<< (v4 &&& 31))).toNatClampNeg)), (0, .ref (a 1)), (1, .int v1), (2, .long v2), (4, .int v4)] dX0_solve_93 (by decide) rfl ?_
      refine z_aload_n C dX0_solve_95 rfl 1 rfl ?_
      refine z_aload_n C dX0_solve_96 rfl 1 rfl ?_
      refine cg_Bends_seenOnes C uX0_solve_0 (by decide +kernel) dX0_solve_97 ?_
      refine z_iload C dX0_solve_100 4 rfl ?_
      obtain ⟨h11, hf⟩ := z_some hf
      refine z_iald C 14 cw_at_14 h11 dX0_solve_102 ?_
      refine z_aload_n C dX0_solve_103 rfl 1 rfl ?_
      refine cg_Bends_seenCount C uX0_solve_0 (by decide +kernel) dX0_solve_104 ?_
      refine z_iconst C dX0_solve_107 1 rfl ?_
      refine z_isub C dX0_solve_108 ?_
      refine z_iload C dX0_solve_109 4 rfl ?_
      refine z_isub C dX0_solve_111 ?_
      refine z_iconst C dX0_solve_112 2 rfl ?_
      obtain ⟨h12, hf⟩ := z_div hf
      refine z_irem C h12 dX0_solve_113 ?_
      refine z_if_ne C 122 dX0_solve_114 (by decide) (fun c13 => ?_) (fun c13 => ?_)
      · replace hf := z_iff c13 hf
        refine z_lload C dX0_solve_122 0 rfl ?_
        refine z_lneg C dX0_solve_124 ?_
        exact z_sub [1, 2, 3, 4] rfl (kX0_solve_125 E t a out C R (fX0_solve_73 n) (ih) _ _ _ _ _ _ hf)
      · replace hf := z_ift c13 hf
        refine z_lload C dX0_solve_117 0 rfl ?_
        refine z_goto C 125 dX0_solve_119 (by decide) ?_
        exact z_sub [1, 2, 3, 4] rfl (kX0_solve_125 E t a out C R (fX0_solve_73 n) (ih) _ _ _ _ _ _ hf)
set_option maxHeartbeats 4000000 in
set_option maxRecDepth 100000 in
theorem kX0_solve_40 (E : zE) (t : zTy) (a : Nat → Nat) (out : ST) (C : zC E cX0_solve 7 RX0 wsX0_solve (zrm 3 72) t) (R : zRv E cX0_solve 7 (CW t a out)) : ∀ (x : ST), fX0_solve_40 x = some out → zG E 7 0 0 (CW t a x) 40 [(0, .ref (a 1))] [] := by
  intro x hf
  rw [fX0_solve_40] at hf
  refine z_aload_n C dX0_solve_40 rfl 0 rfl ?_
  refine z_aload_n C dX0_solve_41 rfl 0 rfl ?_
  refine cg_Bends_seenCount C uX0_solve_0 (by decide +kernel) dX0_solve_42 ?_
  refine z_iconst C dX0_solve_45 1 rfl ?_
  refine z_iadd C dX0_solve_46 ?_
  obtain ⟨q6, h7, hf⟩ := z_bind hf
  refine z_callVv C (rest := []) (tX0_takeMinors (ze_l E) (ze_D E) t a h7) gX0_solve_X0_takeMinors rfl hdX0_takeMinors ⟨(Nat.le_of_ble_eq_true rfl), (Nat.le_of_ble_eq_true rfl)⟩ ⟨Nat.zero_le _, Nat.zero_le _⟩ 1 cw_at_1 rfl rfl rfl (Nat.le_of_ble_eq_true rfl) dX0_solve_47 ?_
  refine z_iconst C dX0_solve_50 1 rfl ?_
  refine z_aload_n C dX0_solve_51 rfl 0 rfl ?_
  refine cg_Bends_seenCount C uX0_solve_0 (by decide +kernel) dX0_solve_52 ?_
  refine z_iconst C dX0_solve_55 1 rfl ?_
  refine z_iadd C dX0_solve_56 ?_
  refine z_ishl C dX0_solve_57 ?_
  refine z_iconst C dX0_solve_58 1 rfl ?_
  refine z_isub C dX0_solve_59 ?_
  refine z_istore_n C [(1, .int (((1 : Int32) <<< (((gI q6 0) + 1) &&& 31)) - 1)), (0, .ref (a 1))] dX0_solve_60 rfl (by decide) rfl ?_
  refine z_aload_n C dX0_solve_61 rfl 1 rfl ?_
  refine cg_Bends_minors C uX0_solve_0 (by decide +kernel) dX0_solve_62 ?_
  refine z_iload_n C dX0_solve_65 rfl 0 rfl ?_
  refine z_iconst C dX0_solve_66 1 rfl ?_
  refine z_ishr C dX0_solve_67 ?_
  obtain ⟨h8, hf⟩ := z_some hf
  refine z_lald C 16 cw_at_16 h8 dX0_solve_68 ?_
  refine z_lstore_n C [(2, .long (gB q6 16 ((((1 : Int32) <<< (((gI q6 0) + 1) &&& 31)) - 1) >>> ((1 : Int32) &&& 31)).toNatClampNeg)), (1, .int (((1 : Int32) <<< (((gI q6 0) + 1) &&& 31)) - 1)), (0, .ref (a 1))] dX0_solve_69 rfl (by decide) rfl ?_
  refine z_iconst C dX0_solve_70 0 rfl ?_
  refine z_istore C [(4, .int 0), (2, .long (gB q6 16 ((((1 : Int32) <<< (((gI q6 0) + 1) &&& 31)) - 1) >>> ((1 : Int32) &&& 31)).toNatClampNeg)), (1, .int (((1 : Int32) <<< (((gI q6 0) + 1) &&& 31)) - 1)), (0, .ref (a 1))] dX0_solve_71 (by decide) rfl ?_
  exact z_sub [3, 2, 1, 0] rfl (kX0_solve_73 E t a out C R 200 _ _ _ _ hf)
set_option maxHeartbeats 4000000 in
set_option maxRecDepth 100000 in
theorem kX0_solve_2 (E : zE) (t : zTy) (a : Nat → Nat) (out : ST) (C : zC E cX0_solve 7 RX0 wsX0_solve (zrm 3 72) t) (R : zRv E cX0_solve 7 (CW t a out)) : ∀ (n : Nat) (v1 : Int32) (x : ST), fX0_solve_2 n v1 x = some out → zG E 7 0 0 (CW t a x) 2 [(0, .ref (a 1)), (1, .int v1)] [] := by
  intro n
  induction n with
  | zero =>
    intro v1 x hf
    cases hf
  | succ n ih =>
    intro v1 x hf
    rw [fX0_solve_2] at hf
    refine z_iload_n C dX0_solve_2 rfl 1 rfl ?_
    refine z_aload_n C dX0_solve_3 rfl 0 rfl ?_
    refine cg_Bends_seenCount C uX0_solve_0 (by decide +kernel) dX0_solve_4 ?_
    refine z_icmp_ge C 40 dX0_solve_7 (by decide) (fun c1 => ?_) (fun c1 => ?_)
    · replace hf := z_ift c1 hf
      exact z_sub [0] rfl (kX0_solve_40 E t a out C R _ hf)
    · replace hf := z_iff c1 hf
      refine z_aload_n C dX0_solve_10 rfl 0 rfl ?_
      refine cg_Bends_grid C uX0_solve_0 (by decide +kernel) dX0_solve_11 ?_
      refine z_iload_n C dX0_solve_14 rfl 1 rfl ?_
      refine z_bipush C dX0_solve_15 6 rfl ?_
      refine z_imul C dX0_solve_17 ?_
      refine z_aload_n C dX0_solve_18 rfl 0 rfl ?_
      refine cg_Bends_seenCount C uX0_solve_0 (by decide +kernel) dX0_solve_19 ?_
      refine z_iadd C dX0_solve_22 ?_
      refine z_aload_n C dX0_solve_23 rfl 0 rfl ?_
      refine z_aload_n C dX0_solve_24 rfl 0 rfl ?_
      refine cg_Bends_seenOnes C uX0_solve_0 (by decide +kernel) dX0_solve_25 ?_
      refine z_iload_n C dX0_solve_28 rfl 1 rfl ?_
      obtain ⟨h2, hf⟩ := z_some hf
      refine z_iald C 14 cw_at_14 h2 dX0_solve_29 ?_
      obtain ⟨q3, h4, hf⟩ := z_bind hf
      refine z_callVl C (rest := [.int ((v1 * 6) + (gI x 0)), .ref (a 15)]) (tX0_productWithSlopes (ze_l E) (ze_D E) t a h4) gX0_solve_X0_productWithSlopes rfl hdX0_productWithSlopes ⟨(Nat.le_of_ble_eq_true rfl), (Nat.le_of_ble_eq_true rfl)⟩ ⟨Nat.zero_le _, Nat.zero_le _⟩ 1 cw_at_1 rfl rfl rfl (Nat.le_of_ble_eq_true rfl) dX0_solve_30 ?_
      obtain ⟨h5, hf⟩ := z_some hf
      refine z_last C 15 cw_at_15 h5 (w' := CW t a (sB q3.2 15 ((v1 * 6) + (gI x 0)) q3.1)) cw_up_15 dX0_solve_33 ?_
      refine z_iinc C (v1 + 1) [(1, .int (v1 + 1)), (0, .ref (a 1))] dX0_solve_34 1 rfl rfl (by decide) rfl ?_
      refine z_goto C 2 dX0_solve_37 (by decide) ?_
      exact z_sub [1, 0] rfl (ih _ _ hf)
theorem hdX0_solve : yX0_solve.cls = RX0 ∧ yX0_solve.cls ≠ "java/lang/invoke/MethodHandle" ∧ yX0_solve.cls ≠ "java/lang/invoke/VarHandle" ∧ (parseMethodDescriptor yX0_solve.desc).map (fun d => d.parameters.length) = some 0 := by decide +kernel
set_option maxHeartbeats 4000000 in
set_option maxRecDepth 100000 in
theorem tX0_solve (l : Launch) (D : va_G) (t : zTy) (a : Nat → Nat)  {x : ST} {out : ST} (hf : fX0_solve  x = some out) : zMv l yX0_solve wsX0_solve 3 72 D t [.ref (a 1)] (CW t a x) (CW t a out) := by
  refine z_entry_v (cc := cX0_solve) (nL := 7) (by decide) rfl (Nat.le_of_ble_eq_true rfl) (fun E _ _ C R => ?_)
  refine z_sub (lv' := [(0, .ref (a 1))]) [0] rfl ?_
  rw [fX0_solve] at hf
  refine z_iconst C dX0_solve_0 0 rfl ?_
  refine z_istore_n C [(1, .int 0), (0, .ref (a 1))] dX0_solve_1 rfl (by decide) rfl ?_
  exact z_sub [1, 0] rfl (kX0_solve_2 E t a out C R 200 _ _ hf)
theorem uX0_find_0 : ∀ w ∈ wsX00, w ∈ wsX0_find := by decide +kernel
set_option maxHeartbeats 4000000 in
set_option maxRecDepth 100000 in
theorem kX0_find_52 (E : zE) (t : zTy) (a : Nat → Nat) (out : ST) (C : zC E cX0_find 5 RX0 wsX0_find (zrm 4 98) t) (R : zRv E cX0_find 5 (CW t a out)) (kb20 : Int32 → ST → Option (ST)) (Kb20 : ∀ (v4 : Int32) (x : ST), kb20 v4 x = some out → zG E 5 0 0 (CW t a x) 20 [(0, .ref (a 1)), (3, .ref (a 7)), (4, .int v4)] []) : ∀ (v4 : Int32) (x : ST), fX0_find_52 kb20 v4 x = some out → zG E 5 0 0 (CW t a x) 52 [(0, .ref (a 1)), (3, .ref (a 7)), (4, .int v4)] [] := by
  intro v4 x hf
  rw [fX0_find_52] at hf
  refine z_iinc C (v4 + 1) [(4, .int (v4 + 1)), (0, .ref (a 1)), (3, .ref (a 7))] dX0_find_52 2 rfl rfl (by decide) rfl ?_
  refine z_goto C 20 dX0_find_55 (by decide) ?_
  exact z_sub [1, 2, 0] rfl (Kb20 _ _ hf)
set_option maxHeartbeats 4000000 in
set_option maxRecDepth 100000 in
theorem kX0_find_107 (E : zE) (t : zTy) (a : Nat → Nat) (out : ST) (C : zC E cX0_find 5 RX0 wsX0_find (zrm 4 98) t) (R : zRv E cX0_find 5 (CW t a out)) (kb65 : Int32 → ST → Option (ST)) (Kb65 : ∀ (v4 : Int32) (x : ST), kb65 v4 x = some out → zG E 5 0 0 (CW t a x) 65 [(0, .ref (a 1)), (3, .ref (a 7)), (4, .int v4)] []) : ∀ (v4 : Int32) (x : ST), fX0_find_107 kb65 v4 x = some out → zG E 5 0 0 (CW t a x) 107 [(0, .ref (a 1)), (3, .ref (a 7)), (4, .int v4)] [] := by
  intro v4 x hf
  rw [fX0_find_107] at hf
  refine z_iinc C (v4 + 1) [(4, .int (v4 + 1)), (0, .ref (a 1)), (3, .ref (a 7))] dX0_find_107 2 rfl rfl (by decide) rfl ?_
  refine z_goto C 65 dX0_find_110 (by decide) ?_
  exact z_sub [1, 2, 0] rfl (Kb65 _ _ hf)
set_option maxHeartbeats 4000000 in
set_option maxRecDepth 100000 in
theorem kX0_find_65 (E : zE) (t : zTy) (a : Nat → Nat) (out : ST) (C : zC E cX0_find 5 RX0 wsX0_find (zrm 4 98) t) (R : zRv E cX0_find 5 (CW t a out)) : ∀ (n : Nat) (v4 : Int32) (x : ST), fX0_find_65 n v4 x = some out → zG E 5 0 0 (CW t a x) 65 [(0, .ref (a 1)), (3, .ref (a 7)), (4, .int v4)] [] := by
  intro n
  induction n with
  | zero =>
    intro v4 x hf
    cases hf
  | succ n ih =>
    intro v4 x hf
    rw [fX0_find_65] at hf
    refine z_iload C dX0_find_65 2 rfl ?_
    refine z_aload_n C dX0_find_67 rfl 1 rfl ?_
    obtain ⟨q17, h18, hf⟩ := z_bind hf
    refine z_callVi C (rest := [.int v4]) (tX6_count (ze_l E) (ze_D E) t a h18) gX0_find_X6_count rfl hdX6_count ⟨(Nat.le_of_ble_eq_true rfl), (Nat.le_of_ble_eq_true rfl)⟩ ⟨Nat.zero_le _, Nat.zero_le _⟩ 7 cw_at_7 rfl rfl rfl (Nat.le_of_ble_eq_true rfl) dX0_find_68 ?_
    refine z_icmp_ge C 113 dX0_find_71 (by decide) (fun c19 => ?_) (fun c19 => ?_)
    · replace hf := z_ift c19 hf
      cases hf
      exact R _ _ dX0_find_113
    · replace hf := z_iff c19 hf
      refine z_aload_n C dX0_find_74 rfl 1 rfl ?_
      refine z_iload C dX0_find_75 2 rfl ?_
      obtain ⟨q20, h21, hf⟩ := z_bind hf
      refine z_callVi C (rest := []) (tX6_isDead (ze_l E) (ze_D E) t a h21) gX0_find_X6_isDead rfl hdX6_isDead ⟨(Nat.le_of_ble_eq_true rfl), (Nat.le_of_ble_eq_true rfl)⟩ ⟨Nat.zero_le _, Nat.zero_le _⟩ 7 cw_at_7 rfl rfl rfl (Nat.le_of_ble_eq_true rfl) dX0_find_77 ?_
      refine z_if_eq C 107 dX0_find_80 (by decide) (fun c22 => ?_) (fun c22 => ?_)
      · replace hf := z_ift c22 hf
        exact z_sub [0, 1, 2] rfl (kX0_find_107 E t a out C R (fX0_find_65 n) (ih) _ _ hf)
      · replace hf := z_iff c22 hf
        refine z_aload_n C dX0_find_83 rfl 0 rfl ?_
        refine z_iload C dX0_find_84 2 rfl ?_
        refine z_aload_n C dX0_find_86 rfl 0 rfl ?_
        refine cg_Bends_aboves C uX0_find_0 (by decide +kernel) dX0_find_87 ?_
        refine z_iload C dX0_find_90 2 rfl ?_
        refine z_iconst C dX0_find_92 1 rfl ?_
        refine z_isub C dX0_find_93 ?_
        obtain ⟨h23, hf⟩ := z_some hf
        refine z_lald C 17 cw_at_17 h23 dX0_find_94 ?_
        refine z_aload_n C dX0_find_95 rfl 0 rfl ?_
        refine cg_Bends_belows C uX0_find_0 (by decide +kernel) dX0_find_96 ?_
        refine z_iload C dX0_find_99 2 rfl ?_
        refine z_iconst C dX0_find_101 1 rfl ?_
        refine z_isub C dX0_find_102 ?_
        obtain ⟨h24, hf⟩ := z_some hf
        refine z_lald C 18 cw_at_18 h24 dX0_find_103 ?_
        obtain ⟨q25, h26, hf⟩ := z_bind hf
        refine z_callVv C (rest := []) (tX0_setBend (ze_l E) (ze_D E) t a h26) gX0_find_X0_setBend rfl hdX0_setBend ⟨(Nat.le_of_ble_eq_true rfl), (Nat.le_of_ble_eq_true rfl)⟩ ⟨Nat.zero_le _, Nat.zero_le _⟩ 1 cw_at_1 rfl rfl rfl (Nat.le_of_ble_eq_true rfl) dX0_find_104 ?_
        exact z_sub [0, 1, 2] rfl (kX0_find_107 E t a out C R (fX0_find_65 n) (ih) _ _ hf)
set_option maxHeartbeats 4000000 in
set_option maxRecDepth 100000 in
theorem kX0_find_58 (E : zE) (t : zTy) (a : Nat → Nat) (out : ST) (C : zC E cX0_find 5 RX0 wsX0_find (zrm 4 98) t) (R : zRv E cX0_find 5 (CW t a out)) : ∀ (x : ST), fX0_find_58 x = some out → zG E 5 0 0 (CW t a x) 58 [(0, .ref (a 1)), (3, .ref (a 7))] [] := by
  intro x hf
  rw [fX0_find_58] at hf
  refine z_aload_n C dX0_find_58 rfl 0 rfl ?_
  obtain ⟨q15, h16, hf⟩ := z_bind hf
  refine z_callVv C (rest := []) (tX0_solve (ze_l E) (ze_D E) t a h16) gX0_find_X0_solve rfl hdX0_solve ⟨(Nat.le_of_ble_eq_true rfl), (Nat.le_of_ble_eq_true rfl)⟩ ⟨Nat.zero_le _, Nat.zero_le _⟩ 1 cw_at_1 rfl rfl rfl (Nat.le_of_ble_eq_true rfl) dX0_find_59 ?_
  refine z_iconst C dX0_find_62 1 rfl ?_
  refine z_istore C [(4, .int 1), (0, .ref (a 1)), (3, .ref (a 7))] dX0_find_63 (by decide) rfl ?_
  exact z_sub [1, 2, 0] rfl (kX0_find_65 E t a out C R 200 _ _ hf)
set_option maxHeartbeats 4000000 in
set_option maxRecDepth 100000 in
theorem kX0_find_20 (E : zE) (t : zTy) (a : Nat → Nat) (out : ST) (C : zC E cX0_find 5 RX0 wsX0_find (zrm 4 98) t) (R : zRv E cX0_find 5 (CW t a out)) : ∀ (n : Nat) (v4 : Int32) (x : ST), fX0_find_20 n v4 x = some out → zG E 5 0 0 (CW t a x) 20 [(0, .ref (a 1)), (3, .ref (a 7)), (4, .int v4)] [] := by
  intro n
  induction n with
  | zero =>
    intro v4 x hf
    cases hf
  | succ n ih =>
    intro v4 x hf
    rw [fX0_find_20] at hf
    refine z_iload C dX0_find_20 2 rfl ?_
    refine z_aload_n C dX0_find_22 rfl 1 rfl ?_
    obtain ⟨q5, h6, hf⟩ := z_bind hf
    refine z_callVi C (rest := [.int v4]) (tX6_count (ze_l E) (ze_D E) t a h6) gX0_find_X6_count rfl hdX6_count ⟨(Nat.le_of_ble_eq_true rfl), (Nat.le_of_ble_eq_true rfl)⟩ ⟨Nat.zero_le _, Nat.zero_le _⟩ 7 cw_at_7 rfl rfl rfl (Nat.le_of_ble_eq_true rfl) dX0_find_23 ?_
    refine z_icmp_ge C 58 dX0_find_26 (by decide) (fun c7 => ?_) (fun c7 => ?_)
    · replace hf := z_ift c7 hf
      exact z_sub [0, 1] rfl (kX0_find_58 E t a out C R _ hf)
    · replace hf := z_iff c7 hf
      refine z_aload_n C dX0_find_29 rfl 0 rfl ?_
      refine z_iload C dX0_find_30 2 rfl ?_
      refine z_lconst C dX0_find_32 0 rfl ?_
      refine z_lconst C dX0_find_33 1 rfl ?_
      obtain ⟨q8, h9, hf⟩ := z_bind hf
      refine z_callVv C (rest := []) (tX0_setBend (ze_l E) (ze_D E) t a h9) gX0_find_X0_setBend rfl hdX0_setBend ⟨(Nat.le_of_ble_eq_true rfl), (Nat.le_of_ble_eq_true rfl)⟩ ⟨Nat.zero_le _, Nat.zero_le _⟩ 1 cw_at_1 rfl rfl rfl (Nat.le_of_ble_eq_true rfl) dX0_find_34 ?_
      refine z_aload_n C dX0_find_37 rfl 1 rfl ?_
      refine z_iload C dX0_find_38 2 rfl ?_
      obtain ⟨q10, h11, hf⟩ := z_bind hf
      refine z_callVi C (rest := []) (tX6_isDead (ze_l E) (ze_D E) t a h11) gX0_find_X6_isDead rfl hdX6_isDead ⟨(Nat.le_of_ble_eq_true rfl), (Nat.le_of_ble_eq_true rfl)⟩ ⟨Nat.zero_le _, Nat.zero_le _⟩ 7 cw_at_7 rfl rfl rfl (Nat.le_of_ble_eq_true rfl) dX0_find_40 ?_
      refine z_if_ne C 52 dX0_find_43 (by decide) (fun c12 => ?_) (fun c12 => ?_)
      · replace hf := z_iff c12 hf
        exact z_sub [0, 1, 2] rfl (kX0_find_52 E t a out C R (fX0_find_20 n) (ih) _ _ hf)
      · replace hf := z_ift c12 hf
        refine z_aload_n C dX0_find_46 rfl 0 rfl ?_
        refine z_iload C dX0_find_47 2 rfl ?_
        obtain ⟨q13, h14, hf⟩ := z_bind hf
        refine z_callVv C (rest := []) (tX0_considerPart (ze_l E) (ze_D E) t a h14) gX0_find_X0_considerPart rfl hdX0_considerPart ⟨(Nat.le_of_ble_eq_true rfl), (Nat.le_of_ble_eq_true rfl)⟩ ⟨Nat.zero_le _, Nat.zero_le _⟩ 1 cw_at_1 rfl rfl rfl (Nat.le_of_ble_eq_true rfl) dX0_find_49 ?_
        exact z_sub [0, 1, 2] rfl (kX0_find_52 E t a out C R (fX0_find_20 n) (ih) _ _ hf)
theorem hdX0_find : yX0_find.cls = RX0 ∧ yX0_find.cls ≠ "java/lang/invoke/MethodHandle" ∧ yX0_find.cls ≠ "java/lang/invoke/VarHandle" ∧ (parseMethodDescriptor yX0_find.desc).map (fun d => d.parameters.length) = some 3 := by decide +kernel
set_option maxHeartbeats 4000000 in
set_option maxRecDepth 100000 in
theorem tX0_find (l : Launch) (D : va_G) (t : zTy) (a : Nat → Nat)  {x : ST} {out : ST} (hf : fX0_find  x = some out) : zMv l yX0_find wsX0_find 4 98 D t [.ref (a 1), .ref (a 10), .ref (a 11), .ref (a 7)] (CW t a x) (CW t a out) := by
  refine z_entry_v (cc := cX0_find) (nL := 5) (by decide) rfl (Nat.le_of_ble_eq_true rfl) (fun E _ _ C R => ?_)
  refine z_sub (lv' := [(0, .ref (a 1)), (1, .ref (a 10)), (2, .ref (a 11)), (3, .ref (a 7))]) [0, 1, 2, 3] rfl ?_
  rw [fX0_find] at hf
  refine z_aload_n C dX0_find_0 rfl 0 rfl ?_
  refine z_aload_n C dX0_find_1 rfl 1 rfl ?_
  refine z_aload_n C dX0_find_2 rfl 2 rfl ?_
  refine z_aload_n C dX0_find_3 rfl 3 rfl ?_
  obtain ⟨q1, h2, hf⟩ := z_bind hf
  refine z_callVv C (rest := []) (tX0_takeColumns (ze_l E) (ze_D E) t a h2) gX0_find_X0_takeColumns rfl hdX0_takeColumns ⟨(Nat.le_of_ble_eq_true rfl), (Nat.le_of_ble_eq_true rfl)⟩ ⟨Nat.zero_le _, Nat.zero_le _⟩ 1 cw_at_1 rfl rfl rfl (Nat.le_of_ble_eq_true rfl) dX0_find_4 ?_
  refine z_aload_n C dX0_find_7 rfl 0 rfl ?_
  refine z_aload_n C dX0_find_8 rfl 1 rfl ?_
  obtain ⟨q3, h4, hf⟩ := z_bind hf
  refine z_callVv C (rest := []) (tX0_takeSlopes (ze_l E) (ze_D E) t a h4) gX0_find_X0_takeSlopes rfl hdX0_takeSlopes ⟨(Nat.le_of_ble_eq_true rfl), (Nat.le_of_ble_eq_true rfl)⟩ ⟨Nat.zero_le _, Nat.zero_le _⟩ 1 cw_at_1 rfl rfl rfl (Nat.le_of_ble_eq_true rfl) dX0_find_9 ?_
  refine z_aload_n C dX0_find_12 rfl 0 rfl ?_
  refine z_iconst C dX0_find_13 0 rfl ?_
  refine cp_Bends_seenCount C uX0_find_0 (by decide +kernel) dX0_find_14 ?_
  refine z_iconst C dX0_find_17 0 rfl ?_
  refine z_istore C [(4, .int 0), (0, .ref (a 1)), (1, .ref (a 10)), (2, .ref (a 11)), (3, .ref (a 7))] dX0_find_18 (by decide) rfl ?_
  exact z_sub [1, 4, 0] rfl (kX0_find_20 E t a out C R 200 _ _ hf)
theorem uX2_wish_2 : ∀ w ∈ wsX20, w ∈ wsX2_wish := by decide +kernel
theorem hdX2_wish : yX2_wish.cls = RX2 ∧ yX2_wish.cls ≠ "java/lang/invoke/MethodHandle" ∧ yX2_wish.cls ≠ "java/lang/invoke/VarHandle" ∧ (parseMethodDescriptor yX2_wish.desc).map (fun d => d.parameters.length) = some 2 := by decide +kernel
set_option maxHeartbeats 4000000 in
set_option maxRecDepth 100000 in
theorem tX2_wish (l : Launch) (D : va_G) (t : zTy) (a : Nat → Nat) {v1 : Int32} {v2 : Int32} {x : ST} {out : ST} (hf : fX2_wish v1 v2 x = some out) : zMv l yX2_wish wsX2_wish 0 0 D t [.ref (a 3), .int v1, .int v2] (CW t a x) (CW t a out) := by
  refine z_entry_v (cc := cX2_wish) (nL := 3) (by decide) rfl (Nat.le_of_ble_eq_true rfl) (fun E _ _ C R => ?_)
  refine z_sub (lv' := [(0, .ref (a 3)), (1, .int v1), (2, .int v2)]) [0, 1, 2] rfl ?_
  rw [fX2_wish] at hf
  refine z_aload_n C dX2_wish_0 rfl 0 rfl ?_
  refine cg_Fit_wished C uX2_wish_2 (by decide +kernel) dX2_wish_1 ?_
  refine z_iload_n C dX2_wish_4 rfl 1 rfl ?_
  refine z_iload_n C dX2_wish_5 rfl 2 rfl ?_
  obtain ⟨h1, hf⟩ := z_some hf
  refine z_iast C 21 cw_at_21 h1 (w' := CW t a (sA x 21 v1 v2)) cw_up_21 dX2_wish_6 ?_
  cases hf
  exact R _ _ dX2_wish_7
theorem uX2_unitsOf_2 : ∀ w ∈ wsX20, w ∈ wsX2_unitsOf := by decide +kernel
theorem hdX2_unitsOf : yX2_unitsOf.cls = RX2 ∧ yX2_unitsOf.cls ≠ "java/lang/invoke/MethodHandle" ∧ yX2_unitsOf.cls ≠ "java/lang/invoke/VarHandle" ∧ (parseMethodDescriptor yX2_unitsOf.desc).map (fun d => d.parameters.length) = some 1 := by decide +kernel
set_option maxHeartbeats 4000000 in
set_option maxRecDepth 100000 in
theorem tX2_unitsOf (l : Launch) (D : va_G) (t : zTy) (a : Nat → Nat) {v1 : Int32} {x : ST} {out : Int32 × ST} (hf : fX2_unitsOf v1 x = some out) : zMi l yX2_unitsOf wsX2_unitsOf 0 0 D t [.ref (a 3), .int v1] (CW t a x) out.1 (CW t a out.2) := by
  refine z_entry_i (cc := cX2_unitsOf) (nL := 2) (by decide) rfl (Nat.le_of_ble_eq_true rfl) (fun E _ _ C R => ?_)
  refine z_sub (lv' := [(0, .ref (a 3)), (1, .int v1)]) [0, 1] rfl ?_
  rw [fX2_unitsOf] at hf
  refine z_aload_n C dX2_unitsOf_0 rfl 0 rfl ?_
  refine cg_Fit_row C uX2_unitsOf_2 (by decide +kernel) dX2_unitsOf_1 ?_
  refine z_iload_n C dX2_unitsOf_4 rfl 1 rfl ?_
  obtain ⟨h1, hf⟩ := z_some hf
  refine z_iald C 24 cw_at_24 h1 dX2_unitsOf_5 ?_
  cases hf
  exact R _ _ dX2_unitsOf_6
theorem uX2_squares_2 : ∀ w ∈ wsX20, w ∈ wsX2_squares := by decide +kernel
theorem hdX2_squares : yX2_squares.cls = RX2 ∧ yX2_squares.cls ≠ "java/lang/invoke/MethodHandle" ∧ yX2_squares.cls ≠ "java/lang/invoke/VarHandle" ∧ (parseMethodDescriptor yX2_squares.desc).map (fun d => d.parameters.length) = some 0 := by decide +kernel
set_option maxHeartbeats 4000000 in
set_option maxRecDepth 100000 in
theorem tX2_squares (l : Launch) (D : va_G) (t : zTy) (a : Nat → Nat)  {x : ST} {out : Int64 × ST} (hf : fX2_squares  x = some out) : zMl l yX2_squares wsX2_squares 0 0 D t [.ref (a 3)] (CW t a x) out.1 (CW t a out.2) := by
  refine z_entry_l (cc := cX2_squares) (nL := 1) (by decide) rfl (Nat.le_of_ble_eq_true rfl) (fun E _ _ C R => ?_)
  refine z_sub (lv' := [(0, .ref (a 3))]) [0] rfl ?_
  rw [fX2_squares] at hf
  refine z_aload_n C dX2_squares_0 rfl 0 rfl ?_
  refine cg_Fit_squares C uX2_squares_2 (by decide +kernel) dX2_squares_1 ?_
  cases hf
  exact R _ _ dX2_squares_4
theorem uX2_behind_2 : ∀ w ∈ wsX20, w ∈ wsX2_behind := by decide +kernel
theorem hdX2_behind : yX2_behind.cls = RX2 ∧ yX2_behind.cls ≠ "java/lang/invoke/MethodHandle" ∧ yX2_behind.cls ≠ "java/lang/invoke/VarHandle" ∧ (parseMethodDescriptor yX2_behind.desc).map (fun d => d.parameters.length) = some 3 := by decide +kernel
set_option maxHeartbeats 4000000 in
set_option maxRecDepth 100000 in
theorem tX2_behind (l : Launch) (D : va_G) (t : zTy) (a : Nat → Nat) {v1 : Int32} {v2 : Int32} {x : ST} {out : Int32 × ST} (hf : fX2_behind v1 v2 x = some out) : zMi l yX2_behind wsX2_behind 2 36 D t [.ref (a 3), .int v1, .int v2, .ref (a 7)] (CW t a x) out.1 (CW t a out.2) := by
  refine z_entry_i (cc := cX2_behind) (nL := 4) (by decide) rfl (Nat.le_of_ble_eq_true rfl) (fun E _ _ C R => ?_)
  refine z_sub (lv' := [(0, .ref (a 3)), (1, .int v1), (2, .int v2), (3, .ref (a 7))]) [0, 1, 2, 3] rfl ?_
  rw [fX2_behind] at hf
  refine z_aload_n C dX2_behind_0 rfl 3 rfl ?_
  refine z_iload_n C dX2_behind_1 rfl 1 rfl ?_
  obtain ⟨q1, h2, hf⟩ := z_bind hf
  refine z_callVi C (rest := []) (tX6_isDead (ze_l E) (ze_D E) t a h2) gX2_behind_X6_isDead rfl hdX6_isDead ⟨(Nat.le_of_ble_eq_true rfl), (Nat.le_of_ble_eq_true rfl)⟩ ⟨Nat.zero_le _, Nat.zero_le _⟩ 7 cw_at_7 rfl rfl rfl (Nat.le_of_ble_eq_true rfl) dX2_behind_2 ?_
  refine z_if_eq C 10 dX2_behind_5 (by decide) (fun c3 => ?_) (fun c3 => ?_)
  · replace hf := z_ift c3 hf
    refine z_aload_n C dX2_behind_10 rfl 0 rfl ?_
    refine cg_Fit_cheapest C uX2_behind_2 (by decide +kernel) dX2_behind_11 ?_
    refine z_iload_n C dX2_behind_14 rfl 1 rfl ?_
    obtain ⟨h4, hf⟩ := z_some hf
    refine z_iald C 23 cw_at_23 h4 dX2_behind_15 ?_
    refine z_aload_n C dX2_behind_16 rfl 0 rfl ?_
    refine cg_Fit_limit C uX2_behind_2 (by decide +kernel) dX2_behind_17 ?_
    refine z_ineg C dX2_behind_20 ?_
    refine z_iload_n C dX2_behind_21 rfl 2 rfl ?_
    refine z_aload_n C dX2_behind_22 rfl 0 rfl ?_
    refine cg_Fit_near C uX2_behind_2 (by decide +kernel) dX2_behind_23 ?_
    refine z_isub C dX2_behind_26 ?_
    refine z_mmax C (by decide +kernel) (by decide +kernel) (by decide +kernel) (by decide +kernel) (Nat.le_of_ble_eq_true rfl) (Nat.le_of_ble_eq_true rfl) (Nat.zero_le _) (Nat.zero_le _) dX2_behind_27 ?_
    refine z_aload_n C dX2_behind_30 rfl 0 rfl ?_
    refine cg_Fit_limit C uX2_behind_2 (by decide +kernel) dX2_behind_31 ?_
    refine z_iload_n C dX2_behind_34 rfl 2 rfl ?_
    refine z_aload_n C dX2_behind_35 rfl 0 rfl ?_
    refine cg_Fit_near C uX2_behind_2 (by decide +kernel) dX2_behind_36 ?_
    refine z_iadd C dX2_behind_39 ?_
    refine z_mmin C (by decide +kernel) (by decide +kernel) (by decide +kernel) (by decide +kernel) (Nat.le_of_ble_eq_true rfl) (Nat.le_of_ble_eq_true rfl) (Nat.zero_le _) (Nat.zero_le _) dX2_behind_40 ?_
    obtain ⟨q5, h6, hf⟩ := z_bind hf
    refine z_callNi C (rest := []) (tX11_held (ze_l E) (ze_D E) t _ h6) gX2_behind_X11_held_n36 (host := RX11) (by decide +kernel) (by decide +kernel) (by decide +kernel) rfl hdX11_held ⟨(Nat.le_of_ble_eq_true rfl), (Nat.le_of_ble_eq_true rfl)⟩ ⟨Nat.zero_le _, Nat.zero_le _⟩ rfl rfl (Nat.le_of_ble_eq_true rfl) dX2_behind_43 ?_
    cases hf
    exact R _ _ dX2_behind_46
  · replace hf := z_iff c3 hf
    refine z_iload_n C dX2_behind_8 rfl 2 rfl ?_
    cases hf
    exact R _ _ dX2_behind_9
theorem uX2_weigh_2 : ∀ w ∈ wsX20, w ∈ wsX2_weigh := by decide +kernel
set_option maxHeartbeats 4000000 in
set_option maxRecDepth 100000 in
theorem kX2_weigh_129 (E : zE) (t : zTy) (a : Nat → Nat) (out : ST) (C : zC E cX2_weigh 9 RX2 wsX2_weigh (zrm 3 59) t) (R : zRv E cX2_weigh 9 (CW t a out)) (kb17 : Int32 → Int32 → ST → Option (ST)) (Kb17 : ∀ (v1 : Int32) (v3 : Int32) (x : ST), kb17 v1 v3 x = some out → zG E 9 0 0 (CW t a x) 17 [(0, .ref (a 3)), (1, .int v1), (2, .ref (a 7)), (3, .int v3)] []) : ∀ (v1 : Int32) (v3 : Int32) (x : ST), fX2_weigh_129 kb17 v1 v3 x = some out → zG E 9 0 0 (CW t a x) 129 [(0, .ref (a 3)), (1, .int v1), (2, .ref (a 7)), (3, .int v3)] [] := by
  intro v1 v3 x hf
  rw [fX2_weigh_129] at hf
  refine z_iinc C (v3 + 1) [(3, .int (v3 + 1)), (0, .ref (a 3)), (1, .int v1), (2, .ref (a 7))] dX2_weigh_129 3 rfl rfl (by decide) rfl ?_
  refine z_goto C 17 dX2_weigh_132 (by decide) ?_
  exact z_sub [1, 2, 3, 0] rfl (Kb17 _ _ _ hf)
set_option maxHeartbeats 4000000 in
set_option maxRecDepth 100000 in
theorem kX2_weigh_73 (E : zE) (t : zTy) (a : Nat → Nat) (out : ST) (C : zC E cX2_weigh 9 RX2 wsX2_weigh (zrm 3 59) t) (R : zRv E cX2_weigh 9 (CW t a out)) (kb17 : Int32 → Int32 → ST → Option (ST)) (Kb17 : ∀ (v1 : Int32) (v3 : Int32) (x : ST), kb17 v1 v3 x = some out → zG E 9 0 0 (CW t a x) 17 [(0, .ref (a 3)), (1, .int v1), (2, .ref (a 7)), (3, .int v3)] []) : ∀ (v1 : Int32) (v3 : Int32) (v4 : Int64) (s0 : Int64) (x : ST), fX2_weigh_73 kb17 v1 v3 v4 s0 x = some out → zG E 9 0 0 (CW t a x) 73 [(0, .ref (a 3)), (1, .int v1), (2, .ref (a 7)), (3, .int v3), (4, .long v4)] [.long s0] := by
  intro v1 v3 v4 s0 x hf
  rw [fX2_weigh_73] at hf
  refine z_lstore C [(7, .long s0), (0, .ref (a 3)), (1, .int v1), (2, .ref (a 7)), (3, .int v3), (4, .long v4)] dX2_weigh_73 (by decide) rfl ?_
  refine z_aload_n C dX2_weigh_75 rfl 1 rfl ?_
  refine cg_Fit_costs C uX2_weigh_2 (by decide +kernel) dX2_weigh_76 ?_
  refine z_iload_n C dX2_weigh_79 rfl 2 rfl ?_
  refine z_iload_n C dX2_weigh_80 rfl 4 rfl ?_
  obtain ⟨q12, h13, hf⟩ := z_bind hf
  refine z_callSi C (rest := [.ref (a 22)]) (tX2_place (ze_l E) (ze_D E) t _ h13) gX2_weigh_X2_place rfl hdX2_place ⟨(Nat.le_of_ble_eq_true rfl), (Nat.le_of_ble_eq_true rfl)⟩ ⟨Nat.zero_le _, Nat.zero_le _⟩ rfl rfl (Nat.le_of_ble_eq_true rfl) dX2_weigh_81 ?_
  refine z_lload C dX2_weigh_84 5 rfl ?_
  refine z_lload C dX2_weigh_86 5 rfl ?_
  refine z_lmul C dX2_weigh_88 ?_
  refine z_lload C dX2_weigh_89 0 rfl ?_
  refine z_ladd C dX2_weigh_91 ?_
  obtain ⟨h14, hf⟩ := z_some hf
  refine z_last C 22 cw_at_22 h14 (w' := CW t a (sB x 22 q12 ((v4 * v4) + s0))) cw_up_22 dX2_weigh_92 ?_
  refine z_aload_n C dX2_weigh_93 rfl 1 rfl ?_
  refine cg_Fit_costs C uX2_weigh_2 (by decide +kernel) dX2_weigh_94 ?_
  refine z_iload_n C dX2_weigh_97 rfl 2 rfl ?_
  refine z_iload_n C dX2_weigh_98 rfl 4 rfl ?_
  obtain ⟨q15, h16, hf⟩ := z_bind hf
  refine z_callSi C (rest := [.ref (a 22)]) (tX2_place (ze_l E) (ze_D E) t _ h16) gX2_weigh_X2_place rfl hdX2_place ⟨(Nat.le_of_ble_eq_true rfl), (Nat.le_of_ble_eq_true rfl)⟩ ⟨Nat.zero_le _, Nat.zero_le _⟩ rfl rfl (Nat.le_of_ble_eq_true rfl) dX2_weigh_99 ?_
  obtain ⟨h17, hf⟩ := z_some hf
  refine z_lald C 22 cw_at_22 h17 dX2_weigh_102 ?_
  refine z_aload_n C dX2_weigh_103 rfl 1 rfl ?_
  refine cg_Fit_costs C uX2_weigh_2 (by decide +kernel) dX2_weigh_104 ?_
  refine z_iload_n C dX2_weigh_107 rfl 2 rfl ?_
  refine z_aload_n C dX2_weigh_108 rfl 1 rfl ?_
  refine cg_Fit_cheapest C uX2_weigh_2 (by decide +kernel) dX2_weigh_109 ?_
  refine z_iload_n C dX2_weigh_112 rfl 2 rfl ?_
  obtain ⟨h18, hf⟩ := z_some hf
  refine z_iald C 23 cw_at_23 h18 dX2_weigh_113 ?_
  obtain ⟨q19, h20, hf⟩ := z_bind hf
  refine z_callSi C (rest := [.ref (a 22), .long (gB (sB x 22 q12 ((v4 * v4) + s0)) 22 q15.toNatClampNeg)]) (tX2_place (ze_l E) (ze_D E) t _ h20) gX2_weigh_X2_place rfl hdX2_place ⟨(Nat.le_of_ble_eq_true rfl), (Nat.le_of_ble_eq_true rfl)⟩ ⟨Nat.zero_le _, Nat.zero_le _⟩ rfl rfl (Nat.le_of_ble_eq_true rfl) dX2_weigh_114 ?_
  obtain ⟨h21, hf⟩ := z_some hf
  refine z_lald C 22 cw_at_22 h21 dX2_weigh_117 ?_
  refine z_lcmp_ge C 129 dX2_weigh_118 dX2_weigh_119 (by decide) (fun c22 => ?_) (fun c22 => ?_)
  · replace hf := z_ift c22 hf
    exact z_sub [1, 2, 3, 4] rfl (kX2_weigh_129 E t a out C R (kb17) (Kb17) _ _ _ hf)
  · replace hf := z_iff c22 hf
    refine z_aload_n C dX2_weigh_122 rfl 1 rfl ?_
    refine cg_Fit_cheapest C uX2_weigh_2 (by decide +kernel) dX2_weigh_123 ?_
    refine z_iload_n C dX2_weigh_126 rfl 2 rfl ?_
    refine z_iload_n C dX2_weigh_127 rfl 4 rfl ?_
    obtain ⟨h23, hf⟩ := z_some hf
    refine z_iast C 23 cw_at_23 h23 (w' := CW t a (sA (sB x 22 q12 ((v4 * v4) + s0)) 23 v1 v3)) cw_up_23 dX2_weigh_128 ?_
    exact z_sub [1, 2, 3, 4] rfl (kX2_weigh_129 E t a out C R (kb17) (Kb17) _ _ _ hf)
set_option maxHeartbeats 4000000 in
set_option maxRecDepth 100000 in
theorem kX2_weigh_17 (E : zE) (t : zTy) (a : Nat → Nat) (out : ST) (C : zC E cX2_weigh 9 RX2 wsX2_weigh (zrm 3 59) t) (R : zRv E cX2_weigh 9 (CW t a out)) : ∀ (n : Nat) (v1 : Int32) (v3 : Int32) (x : ST), fX2_weigh_17 n v1 v3 x = some out → zG E 9 0 0 (CW t a x) 17 [(0, .ref (a 3)), (1, .int v1), (2, .ref (a 7)), (3, .int v3)] [] := by
  intro n
  induction n with
  | zero =>
    intro v1 v3 x hf
    cases hf
  | succ n ih =>
    intro v1 v3 x hf
    rw [fX2_weigh_17] at hf
    refine z_iload_n C dX2_weigh_17 rfl 3 rfl ?_
    refine z_aload_n C dX2_weigh_18 rfl 0 rfl ?_
    refine cg_Fit_limit C uX2_weigh_2 (by decide +kernel) dX2_weigh_19 ?_
    refine z_icmp_gt C 135 dX2_weigh_22 (by decide) (fun c2 => ?_) (fun c2 => ?_)
    · replace hf := z_ift c2 hf
      cases hf
      exact R _ _ dX2_weigh_135
    · replace hf := z_iff c2 hf
      refine z_iload_n C dX2_weigh_25 rfl 3 rfl ?_
      refine z_i2l C dX2_weigh_26 ?_
      refine z_aload_n C dX2_weigh_27 rfl 0 rfl ?_
      refine cg_Fit_wished C uX2_weigh_2 (by decide +kernel) dX2_weigh_28 ?_
      refine z_iload_n C dX2_weigh_31 rfl 1 rfl ?_
      obtain ⟨h3, hf⟩ := z_some hf
      refine z_iald C 21 cw_at_21 h3 dX2_weigh_32 ?_
      refine z_i2l C dX2_weigh_33 ?_
      refine z_lsub C dX2_weigh_34 ?_
      refine z_lstore C [(4, .long (v3.toInt64 - ((gA x 21 v1.toNatClampNeg).toInt64))), (0, .ref (a 3)), (1, .int v1), (2, .ref (a 7)), (3, .int v3)] dX2_weigh_35 (by decide) rfl ?_
      refine z_iload_n C dX2_weigh_37 rfl 2 rfl ?_
      refine z_iconst C dX2_weigh_38 1 rfl ?_
      refine z_iadd C dX2_weigh_39 ?_
      refine z_istore C [(6, .int (v1 + 1)), (4, .long (v3.toInt64 - ((gA x 21 v1.toNatClampNeg).toInt64))), (0, .ref (a 3)), (1, .int v1), (2, .ref (a 7)), (3, .int v3)] dX2_weigh_40 (by decide) rfl ?_
      refine z_iload C dX2_weigh_42 0 rfl ?_
      refine z_aload_n C dX2_weigh_44 rfl 4 rfl ?_
      obtain ⟨q4, h5, hf⟩ := z_bind hf
      refine z_callVi C (rest := [.int (v1 + 1)]) (tX6_count (ze_l E) (ze_D E) t a h5) gX2_weigh_X6_count rfl hdX6_count ⟨(Nat.le_of_ble_eq_true rfl), (Nat.le_of_ble_eq_true rfl)⟩ ⟨Nat.zero_le _, Nat.zero_le _⟩ 7 cw_at_7 rfl rfl rfl (Nat.le_of_ble_eq_true rfl) dX2_weigh_45 ?_
      refine z_icmp_ge C 72 dX2_weigh_48 (by decide) (fun c6 => ?_) (fun c6 => ?_)
      · replace hf := z_ift c6 hf
        refine z_lconst C dX2_weigh_72 0 rfl ?_
        exact z_sub [2, 3, 4, 5, 1] rfl (kX2_weigh_73 E t a out C R (fX2_weigh_17 n) (ih) _ _ _ _ _ hf)
      · replace hf := z_iff c6 hf
        refine z_aload_n C dX2_weigh_51 rfl 2 rfl ?_
        refine cg_Fit_costs C uX2_weigh_2 (by decide +kernel) dX2_weigh_52 ?_
        refine z_iload C dX2_weigh_55 0 rfl ?_
        refine z_aload_n C dX2_weigh_57 rfl 2 rfl ?_
        refine z_iload C dX2_weigh_58 0 rfl ?_
        refine z_iload_n C dX2_weigh_60 rfl 5 rfl ?_
        refine z_aload_n C dX2_weigh_61 rfl 4 rfl ?_
        obtain ⟨q7, h8, hf⟩ := z_bind hf
        refine z_callVi C (rest := [.int (v1 + 1), .ref (a 22)]) (tX2_behind (ze_l E) (ze_D E) t a h8) gX2_weigh_X2_behind rfl hdX2_behind ⟨(Nat.le_of_ble_eq_true rfl), (Nat.le_of_ble_eq_true rfl)⟩ ⟨Nat.zero_le _, Nat.zero_le _⟩ 3 cw_at_3 rfl rfl rfl (Nat.le_of_ble_eq_true rfl) dX2_weigh_62 ?_
        obtain ⟨q9, h10, hf⟩ := z_bind hf
        refine z_callSi C (rest := [.ref (a 22)]) (tX2_place (ze_l E) (ze_D E) t _ h10) gX2_weigh_X2_place rfl hdX2_place ⟨(Nat.le_of_ble_eq_true rfl), (Nat.le_of_ble_eq_true rfl)⟩ ⟨Nat.zero_le _, Nat.zero_le _⟩ rfl rfl (Nat.le_of_ble_eq_true rfl) dX2_weigh_65 ?_
        obtain ⟨h11, hf⟩ := z_some hf
        refine z_lald C 22 cw_at_22 h11 dX2_weigh_68 ?_
        refine z_goto C 73 dX2_weigh_69 (by decide) ?_
        exact z_sub [2, 3, 4, 5, 1] rfl (kX2_weigh_73 E t a out C R (fX2_weigh_17 n) (ih) _ _ _ _ _ hf)
theorem hdX2_weigh : yX2_weigh.cls = RX2 ∧ yX2_weigh.cls ≠ "java/lang/invoke/MethodHandle" ∧ yX2_weigh.cls ≠ "java/lang/invoke/VarHandle" ∧ (parseMethodDescriptor yX2_weigh.desc).map (fun d => d.parameters.length) = some 2 := by decide +kernel
set_option maxHeartbeats 4000000 in
set_option maxRecDepth 100000 in
theorem tX2_weigh (l : Launch) (D : va_G) (t : zTy) (a : Nat → Nat) {v1 : Int32} {x : ST} {out : ST} (hf : fX2_weigh v1 x = some out) : zMv l yX2_weigh wsX2_weigh 3 59 D t [.ref (a 3), .int v1, .ref (a 7)] (CW t a x) (CW t a out) := by
  refine z_entry_v (cc := cX2_weigh) (nL := 9) (by decide) rfl (Nat.le_of_ble_eq_true rfl) (fun E _ _ C R => ?_)
  refine z_sub (lv' := [(0, .ref (a 3)), (1, .int v1), (2, .ref (a 7))]) [0, 1, 2] rfl ?_
  rw [fX2_weigh] at hf
  refine z_aload_n C dX2_weigh_0 rfl 0 rfl ?_
  refine cg_Fit_cheapest C uX2_weigh_2 (by decide +kernel) dX2_weigh_1 ?_
  refine z_iload_n C dX2_weigh_4 rfl 1 rfl ?_
  refine z_aload_n C dX2_weigh_5 rfl 0 rfl ?_
  refine cg_Fit_limit C uX2_weigh_2 (by decide +kernel) dX2_weigh_6 ?_
  refine z_ineg C dX2_weigh_9 ?_
  obtain ⟨h1, hf⟩ := z_some hf
  refine z_iast C 23 cw_at_23 h1 (w' := CW t a (sA x 23 v1 (-(gI x 3)))) cw_up_23 dX2_weigh_10 ?_
  refine z_aload_n C dX2_weigh_11 rfl 0 rfl ?_
  refine cg_Fit_limit C uX2_weigh_2 (by decide +kernel) dX2_weigh_12 ?_
  refine z_ineg C dX2_weigh_15 ?_
  refine z_istore_n C [(3, .int (-(gI (sA x 23 v1 (-(gI x 3))) 3))), (0, .ref (a 3)), (1, .int v1), (2, .ref (a 7))] dX2_weigh_16 rfl (by decide) rfl ?_
  exact z_sub [1, 2, 3, 0] rfl (kX2_weigh_17 E t a out C R 200 _ _ _ hf)
theorem uX2_find_2 : ∀ w ∈ wsX20, w ∈ wsX2_find := by decide +kernel
set_option maxHeartbeats 4000000 in
set_option maxRecDepth 100000 in
theorem kX2_find_76 (E : zE) (t : zTy) (a : Nat → Nat) (out : ST) (C : zC E cX2_find 5 RX2 wsX2_find (zrm 4 87) t) (R : zRv E cX2_find 5 (CW t a out)) : ∀ (n : Nat) (v4 : Int32) (x : ST), fX2_find_76 n v4 x = some out → zG E 5 0 0 (CW t a x) 76 [(0, .ref (a 3)), (1, .ref (a 7)), (4, .int v4)] [] := by
  intro n
  induction n with
  | zero =>
    intro v4 x hf
    cases hf
  | succ n ih =>
    intro v4 x hf
    rw [fX2_find_76] at hf
    refine z_iload C dX2_find_76 2 rfl ?_
    refine z_aload_n C dX2_find_78 rfl 1 rfl ?_
    obtain ⟨q14, h15, hf⟩ := z_bind hf
    refine z_callVi C (rest := [.int v4]) (tX6_count (ze_l E) (ze_D E) t a h15) gX2_find_X6_count rfl hdX6_count ⟨(Nat.le_of_ble_eq_true rfl), (Nat.le_of_ble_eq_true rfl)⟩ ⟨Nat.zero_le _, Nat.zero_le _⟩ 7 cw_at_7 rfl rfl rfl (Nat.le_of_ble_eq_true rfl) dX2_find_79 ?_
    refine z_icmp_ge C 114 dX2_find_82 (by decide) (fun c16 => ?_) (fun c16 => ?_)
    · replace hf := z_ift c16 hf
      cases hf
      exact R _ _ dX2_find_114
    · replace hf := z_iff c16 hf
      refine z_aload_n C dX2_find_85 rfl 0 rfl ?_
      refine cg_Fit_row C uX2_find_2 (by decide +kernel) dX2_find_86 ?_
      refine z_iload C dX2_find_89 2 rfl ?_
      refine z_aload_n C dX2_find_91 rfl 0 rfl ?_
      refine z_iload C dX2_find_92 2 rfl ?_
      refine z_aload_n C dX2_find_94 rfl 0 rfl ?_
      refine cg_Fit_row C uX2_find_2 (by decide +kernel) dX2_find_95 ?_
      refine z_iload C dX2_find_98 2 rfl ?_
      refine z_iconst C dX2_find_100 1 rfl ?_
      refine z_isub C dX2_find_101 ?_
      obtain ⟨h17, hf⟩ := z_some hf
      refine z_iald C 24 cw_at_24 h17 dX2_find_102 ?_
      refine z_aload_n C dX2_find_103 rfl 1 rfl ?_
      obtain ⟨q18, h19, hf⟩ := z_bind hf
      refine z_callVi C (rest := [.int v4, .ref (a 24)]) (tX2_behind (ze_l E) (ze_D E) t a h19) gX2_find_X2_behind rfl hdX2_behind ⟨(Nat.le_of_ble_eq_true rfl), (Nat.le_of_ble_eq_true rfl)⟩ ⟨Nat.zero_le _, Nat.zero_le _⟩ 3 cw_at_3 rfl rfl rfl (Nat.le_of_ble_eq_true rfl) dX2_find_104 ?_
      obtain ⟨h20, hf⟩ := z_some hf
      refine z_iast C 24 cw_at_24 h20 (w' := CW t a (sA q18.2 24 v4 q18.1)) cw_up_24 dX2_find_107 ?_
      refine z_iinc C (v4 + 1) [(4, .int (v4 + 1)), (0, .ref (a 3)), (1, .ref (a 7))] dX2_find_108 2 rfl rfl (by decide) rfl ?_
      refine z_goto C 76 dX2_find_111 (by decide) ?_
      exact z_sub [1, 2, 0] rfl (ih _ _ hf)
set_option maxHeartbeats 4000000 in
set_option maxRecDepth 100000 in
theorem kX2_find_42 (E : zE) (t : zTy) (a : Nat → Nat) (out : ST) (C : zC E cX2_find 5 RX2 wsX2_find (zrm 4 87) t) (R : zRv E cX2_find 5 (CW t a out)) : ∀ (x : ST), fX2_find_42 x = some out → zG E 5 0 0 (CW t a x) 42 [(0, .ref (a 3)), (1, .ref (a 7))] [] := by
  intro x hf
  rw [fX2_find_42] at hf
  refine z_aload_n C dX2_find_42 rfl 0 rfl ?_
  refine cg_Fit_row C uX2_find_2 (by decide +kernel) dX2_find_43 ?_
  refine z_iconst C dX2_find_46 0 rfl ?_
  refine z_aload_n C dX2_find_47 rfl 0 rfl ?_
  refine cg_Fit_cheapest C uX2_find_2 (by decide +kernel) dX2_find_48 ?_
  refine z_iconst C dX2_find_51 0 rfl ?_
  obtain ⟨h8, hf⟩ := z_some hf
  refine z_iald C 23 cw_at_23 h8 dX2_find_52 ?_
  obtain ⟨h9, hf⟩ := z_some hf
  refine z_iast C 24 cw_at_24 h9 (w' := CW t a (sA x 24 0 (gA x 23 (0 : Int32).toNatClampNeg))) cw_up_24 dX2_find_53 ?_
  refine z_aload_n C dX2_find_54 rfl 0 rfl ?_
  refine z_aload_n C dX2_find_55 rfl 0 rfl ?_
  refine cg_Fit_costs C uX2_find_2 (by decide +kernel) dX2_find_56 ?_
  refine z_iconst C dX2_find_59 0 rfl ?_
  refine z_aload_n C dX2_find_60 rfl 0 rfl ?_
  refine cg_Fit_row C uX2_find_2 (by decide +kernel) dX2_find_61 ?_
  refine z_iconst C dX2_find_64 0 rfl ?_
  obtain ⟨h10, hf⟩ := z_some hf
  refine z_iald C 24 cw_at_24 h10 dX2_find_65 ?_
  obtain ⟨q11, h12, hf⟩ := z_bind hf
  refine z_callSi C (rest := [.ref (a 22), .ref (a 3)]) (tX2_place (ze_l E) (ze_D E) t _ h12) gX2_find_X2_place rfl hdX2_place ⟨(Nat.le_of_ble_eq_true rfl), (Nat.le_of_ble_eq_true rfl)⟩ ⟨Nat.zero_le _, Nat.zero_le _⟩ rfl rfl (Nat.le_of_ble_eq_true rfl) dX2_find_66 ?_
  obtain ⟨h13, hf⟩ := z_some hf
  refine z_lald C 22 cw_at_22 h13 dX2_find_69 ?_
  refine cp_Fit_squares C uX2_find_2 (by decide +kernel) dX2_find_70 ?_
  refine z_iconst C dX2_find_73 1 rfl ?_
  refine z_istore C [(4, .int 1), (0, .ref (a 3)), (1, .ref (a 7))] dX2_find_74 (by decide) rfl ?_
  exact z_sub [1, 2, 0] rfl (kX2_find_76 E t a out C R 200 _ _ hf)
set_option maxHeartbeats 4000000 in
set_option maxRecDepth 100000 in
theorem kX2_find_24 (E : zE) (t : zTy) (a : Nat → Nat) (out : ST) (C : zC E cX2_find 5 RX2 wsX2_find (zrm 4 87) t) (R : zRv E cX2_find 5 (CW t a out)) : ∀ (n : Nat) (v4 : Int32) (x : ST), fX2_find_24 n v4 x = some out → zG E 5 0 0 (CW t a x) 24 [(0, .ref (a 3)), (1, .ref (a 7)), (4, .int v4)] [] := by
  intro n
  induction n with
  | zero =>
    intro v4 x hf
    cases hf
  | succ n ih =>
    intro v4 x hf
    rw [fX2_find_24] at hf
    refine z_iload C dX2_find_24 2 rfl ?_
    refine z_if_lt C 42 dX2_find_26 (by decide) (fun c5 => ?_) (fun c5 => ?_)
    · replace hf := z_ift c5 hf
      exact z_sub [0, 1] rfl (kX2_find_42 E t a out C R _ hf)
    · replace hf := z_iff c5 hf
      refine z_aload_n C dX2_find_29 rfl 0 rfl ?_
      refine z_iload C dX2_find_30 2 rfl ?_
      refine z_aload_n C dX2_find_32 rfl 1 rfl ?_
      obtain ⟨q6, h7, hf⟩ := z_bind hf
      refine z_callVv C (rest := []) (tX2_weigh (ze_l E) (ze_D E) t a h7) gX2_find_X2_weigh rfl hdX2_weigh ⟨(Nat.le_of_ble_eq_true rfl), (Nat.le_of_ble_eq_true rfl)⟩ ⟨Nat.zero_le _, Nat.zero_le _⟩ 3 cw_at_3 rfl rfl rfl (Nat.le_of_ble_eq_true rfl) dX2_find_33 ?_
      refine z_iinc C (v4 + (-1)) [(4, .int (v4 + (-1))), (0, .ref (a 3)), (1, .ref (a 7))] dX2_find_36 2 rfl rfl (by decide) rfl ?_
      refine z_goto C 24 dX2_find_39 (by decide) ?_
      exact z_sub [1, 2, 0] rfl (ih _ _ hf)
theorem hdX2_find : yX2_find.cls = RX2 ∧ yX2_find.cls ≠ "java/lang/invoke/MethodHandle" ∧ yX2_find.cls ≠ "java/lang/invoke/VarHandle" ∧ (parseMethodDescriptor yX2_find.desc).map (fun d => d.parameters.length) = some 3 := by decide +kernel
set_option maxHeartbeats 4000000 in
set_option maxRecDepth 100000 in
theorem tX2_find (l : Launch) (D : va_G) (t : zTy) (a : Nat → Nat) {v2 : Int32} {v3 : Int32} {x : ST} {out : ST} (hf : fX2_find v2 v3 x = some out) : zMv l yX2_find wsX2_find 4 87 D t [.ref (a 3), .ref (a 7), .int v2, .int v3] (CW t a x) (CW t a out) := by
  refine z_entry_v (cc := cX2_find) (nL := 5) (by decide) rfl (Nat.le_of_ble_eq_true rfl) (fun E _ _ C R => ?_)
  refine z_sub (lv' := [(0, .ref (a 3)), (1, .ref (a 7)), (2, .int v2), (3, .int v3)]) [0, 1, 2, 3] rfl ?_
  rw [fX2_find] at hf
  refine z_aload_n C dX2_find_0 rfl 0 rfl ?_
  refine z_iload_n C dX2_find_1 rfl 2 rfl ?_
  refine z_iconst C dX2_find_2 0 rfl ?_
  refine z_bipush C dX2_find_3 60 rfl ?_
  obtain ⟨q1, h2, hf⟩ := z_bind hf
  refine z_callNi C (rest := [.ref (a 3)]) (tX11_held (ze_l E) (ze_D E) t _ h2) gX2_find_X11_held_n36 (host := RX11) (by decide +kernel) (by decide +kernel) (by decide +kernel) rfl hdX11_held ⟨(Nat.le_of_ble_eq_true rfl), (Nat.le_of_ble_eq_true rfl)⟩ ⟨Nat.zero_le _, Nat.zero_le _⟩ rfl rfl (Nat.le_of_ble_eq_true rfl) dX2_find_5 ?_
  refine cp_Fit_limit C uX2_find_2 (by decide +kernel) dX2_find_8 ?_
  refine z_aload_n C dX2_find_11 rfl 0 rfl ?_
  refine z_iload_n C dX2_find_12 rfl 3 rfl ?_
  refine cp_Fit_near C uX2_find_2 (by decide +kernel) dX2_find_13 ?_
  refine z_aload_n C dX2_find_16 rfl 1 rfl ?_
  obtain ⟨q3, h4, hf⟩ := z_bind hf
  refine z_callVi C (rest := []) (tX6_count (ze_l E) (ze_D E) t a h4) gX2_find_X6_count rfl hdX6_count ⟨(Nat.le_of_ble_eq_true rfl), (Nat.le_of_ble_eq_true rfl)⟩ ⟨Nat.zero_le _, Nat.zero_le _⟩ 7 cw_at_7 rfl rfl rfl (Nat.le_of_ble_eq_true rfl) dX2_find_17 ?_
  refine z_iconst C dX2_find_20 1 rfl ?_
  refine z_isub C dX2_find_21 ?_
  refine z_istore C [(4, .int (q3.1 - 1)), (0, .ref (a 3)), (1, .ref (a 7)), (2, .int v2), (3, .int v3)] dX2_find_22 (by decide) rfl ?_
  exact z_sub [1, 2, 0] rfl (kX2_find_24 E t a out C R 200 _ _ hf)

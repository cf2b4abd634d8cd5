theorem uX12_dead_12 : ∀ w ∈ wsX120, w ∈ wsX12_dead := by decide +kernel
set_option maxHeartbeats 4000000 in
set_option maxRecDepth 100000 in
theorem kX12_dead_28 (E : zE) (t : zTy) (a : Nat → Nat) (out : Int32 × ST) (C : zC E cX12_dead 4 RX12 wsX12_dead (zrm 2 46) t) (R : zRi E cX12_dead 4 out.1 (MW t a out.2)) : ∀ (v1 : Int32) (v2 : Int32) (s0 : Int32) (x : ST), fX12_dead_28 v1 v2 s0 x = some out → zG E 4 0 0 (MW t a x) 28 [(0, .ref (a 0)), (1, .int v1), (2, .int v2)] [.int s0] := by
  intro v1 v2 s0 x hf
  rw [fX12_dead_28] at hf
  refine z_istore_n C [(3, .int s0), (0, .ref (a 0)), (1, .int v1), (2, .int v2)] dX12_dead_28 rfl (by decide) rfl ?_
  refine z_aload_n C dX12_dead_29 rfl 1 rfl ?_
  refine mg_StillStarsModel_isDead C uX12_dead_12 (by decide +kernel) dX12_dead_30 ?_
  refine z_iload_n C dX12_dead_33 rfl 2 rfl ?_
  refine z_iload_n C dX12_dead_34 rfl 3 rfl ?_
  obtain ⟨h7, hf⟩ := z_some hf
  refine z_zast C 10 mw_at_10 h7 (w' := MW t a (sA x 10 v1 (vp_nar .boolean v2))) mw_up_10 dX12_dead_35 ?_
  refine z_iload_n C dX12_dead_36 rfl 0 rfl ?_
  cases hf
  exact R _ _ dX12_dead_37
theorem hdX12_dead : yX12_dead.cls = RX12 ∧ yX12_dead.cls ≠ "java/lang/invoke/MethodHandle" ∧ yX12_dead.cls ≠ "java/lang/invoke/VarHandle" ∧ (parseMethodDescriptor yX12_dead.desc).map (fun d => d.parameters.length) = some 2 := by decide +kernel
set_option maxHeartbeats 4000000 in
set_option maxRecDepth 100000 in
theorem tX12_dead (l : Launch) (D : va_G) (t : zTy) (a : Nat → Nat) {v1 : Int32} {v2 : Int32} {x : ST} {out : Int32 × ST} (hf : fX12_dead v1 v2 x = some out) : zMi l yX12_dead wsX12_dead 2 46 D t [.ref (a 0), .int v1, .int v2] (MW t a x) out.1 (MW t a out.2) := by
  refine z_entry_i (cc := cX12_dead) (nL := 4) (by decide) rfl (Nat.le_of_ble_eq_true rfl) (fun E _ _ C R => ?_)
  refine z_sub (lv' := [(0, .ref (a 0)), (1, .int v1), (2, .int v2)]) [0, 1, 2] rfl ?_
  rw [fX12_dead] at hf
  refine z_aload_n C dX12_dead_0 rfl 0 rfl ?_
  refine z_iload_n C dX12_dead_1 rfl 1 rfl ?_
  obtain ⟨q1, h2, hf⟩ := z_bind hf
  refine z_callVi C (rest := []) (tX12_isPart (ze_l E) (ze_D E) t a h2) gX12_dead_X12_isPart rfl hdX12_isPart ⟨(Nat.le_of_ble_eq_true rfl), (Nat.le_of_ble_eq_true rfl)⟩ ⟨Nat.zero_le _, Nat.zero_le _⟩ 0 mw_at_0 rfl rfl rfl (Nat.le_of_ble_eq_true rfl) dX12_dead_2 ?_
  refine z_if_eq C 12 dX12_dead_5 (by decide) (fun c3 => ?_) (fun c3 => ?_)
  · replace hf := z_ift c3 hf
    refine z_iconst C dX12_dead_12 (-1) rfl ?_
    cases hf
    exact R _ _ dX12_dead_13
  · replace hf := z_iff c3 hf
    refine z_iload_n C dX12_dead_8 rfl 1 rfl ?_
    refine z_if_ne C 14 dX12_dead_9 (by decide) (fun c4 => ?_) (fun c4 => ?_)
    · replace hf := z_iff c4 hf
      refine z_aload_n C dX12_dead_14 rfl 0 rfl ?_
      refine mg_StillStarsModel_isDead C uX12_dead_12 (by decide +kernel) dX12_dead_15 ?_
      refine z_iload_n C dX12_dead_18 rfl 1 rfl ?_
      obtain ⟨h5, hf⟩ := z_some hf
      refine z_zald C 10 mw_at_10 h5 dX12_dead_19 ?_
      refine z_if_eq C 27 dX12_dead_20 (by decide) (fun c6 => ?_) (fun c6 => ?_)
      · replace hf := z_ift c6 hf
        refine z_iconst C dX12_dead_27 0 rfl ?_
        exact z_sub [0, 1, 2] rfl (kX12_dead_28 E t a out C R _ _ _ _ hf)
      · replace hf := z_iff c6 hf
        refine z_iconst C dX12_dead_23 1 rfl ?_
        refine z_goto C 28 dX12_dead_24 (by decide) ?_
        exact z_sub [0, 1, 2] rfl (kX12_dead_28 E t a out C R _ _ _ _ hf)
    · replace hf := z_ift c4 hf
      refine z_iconst C dX12_dead_12 (-1) rfl ?_
      cases hf
      exact R _ _ dX12_dead_13
theorem uX12_productOf_12 : ∀ w ∈ wsX120, w ∈ wsX12_productOf := by decide +kernel
set_option maxHeartbeats 4000000 in
set_option maxRecDepth 100000 in
theorem kX12_productOf_5 (E : zE) (t : zTy) (a : Nat → Nat) (out : Int64 × ST) (C : zC E cX12_productOf 6 RX12 wsX12_productOf (zrm 0 0) t) (R : zRl E cX12_productOf 6 out.1 (MW t a out.2)) : ∀ (n : Nat) (v1 : Int32) (v2 : Int32) (v3 : Int64) (v5 : Int32) (x : ST), fX12_productOf_5 n v1 v2 v3 v5 x = some out → zG E 6 0 0 (MW t a x) 5 [(0, .ref (a 0)), (1, .int v1), (2, .int v2), (3, .long v3), (5, .int v5)] [] := by
  intro n
  induction n with
  | zero =>
    intro v1 v2 v3 v5 x hf
    cases hf
  | succ n ih =>
    intro v1 v2 v3 v5 x hf
    rw [fX12_productOf_5] at hf
    refine z_iload C dX12_productOf_5 4 rfl ?_
    refine z_aload_n C dX12_productOf_7 rfl 0 rfl ?_
    refine mg_StillStarsModel_spots C uX12_productOf_12 (by decide +kernel) dX12_productOf_8 ?_
    refine z_icmp_ge C 48 dX12_productOf_11 (by decide) (fun c1 => ?_) (fun c1 => ?_)
    · replace hf := z_ift c1 hf
      refine z_lload_n C dX12_productOf_48 rfl 3 rfl ?_
      cases hf
      exact R _ _ dX12_productOf_49
    · replace hf := z_iff c1 hf
      refine z_lload_n C dX12_productOf_14 rfl 3 rfl ?_
      refine z_aload_n C dX12_productOf_15 rfl 0 rfl ?_
      refine mg_StillStarsModel_columns C uX12_productOf_12 (by decide +kernel) dX12_productOf_16 ?_
      refine z_bipush C dX12_productOf_19 8 rfl ?_
      refine z_iload_n C dX12_productOf_21 rfl 1 rfl ?_
      refine z_imul C dX12_productOf_22 ?_
      refine z_iload C dX12_productOf_23 4 rfl ?_
      refine z_iadd C dX12_productOf_25 ?_
      obtain ⟨h2, hf⟩ := z_some hf
      refine z_lald C 11 mw_at_11 h2 dX12_productOf_26 ?_
      refine z_aload_n C dX12_productOf_27 rfl 0 rfl ?_
      refine mg_StillStarsModel_columns C uX12_productOf_12 (by decide +kernel) dX12_productOf_28 ?_
      refine z_bipush C dX12_productOf_31 8 rfl ?_
      refine z_iload_n C dX12_productOf_33 rfl 2 rfl ?_
      refine z_imul C dX12_productOf_34 ?_
      refine z_iload C dX12_productOf_35 4 rfl ?_
      refine z_iadd C dX12_productOf_37 ?_
      obtain ⟨h3, hf⟩ := z_some hf
      refine z_lald C 11 mw_at_11 h3 dX12_productOf_38 ?_
      refine z_lmul C dX12_productOf_39 ?_
      refine z_ladd C dX12_productOf_40 ?_
      refine z_lstore_n C [(3, .long (v3 + ((gB x 11 ((8 * v1) + v5).toNatClampNeg) * (gB x 11 ((8 * v2) + v5).toNatClampNeg)))), (0, .ref (a 0)), (1, .int v1), (2, .int v2), (5, .int v5)] dX12_productOf_41 rfl (by decide) rfl ?_
      refine z_iinc C (v5 + 1) [(5, .int (v5 + 1)), (3, .long (v3 + ((gB x 11 ((8 * v1) + v5).toNatClampNeg) * (gB x 11 ((8 * v2) + v5).toNatClampNeg)))), (0, .ref (a 0)), (1, .int v1), (2, .int v2)] dX12_productOf_42 4 rfl rfl (by decide) rfl ?_
      refine z_goto C 5 dX12_productOf_45 (by decide) ?_
      exact z_sub [2, 3, 4, 1, 0] rfl (ih _ _ _ _ _ hf)
theorem hdX12_productOf : yX12_productOf.cls = RX12 ∧ yX12_productOf.cls ≠ "java/lang/invoke/MethodHandle" ∧ yX12_productOf.cls ≠ "java/lang/invoke/VarHandle" ∧ (parseMethodDescriptor yX12_productOf.desc).map (fun d => d.parameters.length) = some 2 := by decide +kernel
set_option maxHeartbeats 4000000 in
set_option maxRecDepth 100000 in
theorem tX12_productOf (l : Launch) (D : va_G) (t : zTy) (a : Nat → Nat) {v1 : Int32} {v2 : Int32} {x : ST} {out : Int64 × ST} (hf : fX12_productOf v1 v2 x = some out) : zMl l yX12_productOf wsX12_productOf 0 0 D t [.ref (a 0), .int v1, .int v2] (MW t a x) out.1 (MW t a out.2) := by
  refine z_entry_l (cc := cX12_productOf) (nL := 6) (by decide) rfl (Nat.le_of_ble_eq_true rfl) (fun E _ _ C R => ?_)
  refine z_sub (lv' := [(0, .ref (a 0)), (1, .int v1), (2, .int v2)]) [0, 1, 2] rfl ?_
  rw [fX12_productOf] at hf
  refine z_lconst C dX12_productOf_0 0 rfl ?_
  refine z_lstore_n C [(3, .long 0), (0, .ref (a 0)), (1, .int v1), (2, .int v2)] dX12_productOf_1 rfl (by decide) rfl ?_
  refine z_iconst C dX12_productOf_2 0 rfl ?_
  refine z_istore C [(5, .int 0), (3, .long 0), (0, .ref (a 0)), (1, .int v1), (2, .int v2)] dX12_productOf_3 (by decide) rfl ?_
  exact z_sub [2, 3, 4, 1, 0] rfl (kX12_productOf_5 E t a out C R 200 _ _ _ _ _ hf)
theorem uX12_slopesBy_12 : ∀ w ∈ wsX120, w ∈ wsX12_slopesBy := by decide +kernel
set_option maxHeartbeats 4000000 in
set_option maxRecDepth 100000 in
theorem kX12_slopesBy_48 (E : zE) (t : zTy) (a : Nat → Nat) (out : Int64 × ST) (C : zC E cX12_slopesBy 5 RX12 wsX12_slopesBy (zrm 4 90) t) (R : zRl E cX12_slopesBy 5 out.1 (MW t a out.2)) (kb5 : Int32 → Int64 → Int32 → ST → Option (Int64 × ST)) (Kb5 : ∀ (v1 : Int32) (v2 : Int64) (v4 : Int32) (x : ST), kb5 v1 v2 v4 x = some out → zG E 5 0 0 (MW t a x) 5 [(0, .ref (a 0)), (1, .int v1), (2, .long v2), (4, .int v4)] []) : ∀ (v1 : Int32) (v4 : Int32) (s0 : Int64) (s1 : Int64) (x : ST), fX12_slopesBy_48 kb5 v1 v4 s0 s1 x = some out → zG E 5 0 0 (MW t a x) 48 [(0, .ref (a 0)), (1, .int v1), (4, .int v4)] [.long s0, .long s1] := by
  intro v1 v4 s0 s1 x hf
  rw [fX12_slopesBy_48] at hf
  refine z_ladd C dX12_slopesBy_48 ?_
  refine z_lstore_n C [(2, .long (s1 + s0)), (0, .ref (a 0)), (1, .int v1), (4, .int v4)] dX12_slopesBy_49 rfl (by decide) rfl ?_
  refine z_iinc C (v4 + 1) [(4, .int (v4 + 1)), (2, .long (s1 + s0)), (0, .ref (a 0)), (1, .int v1)] dX12_slopesBy_50 3 rfl rfl (by decide) rfl ?_
  refine z_goto C 5 dX12_slopesBy_53 (by decide) ?_
  exact z_sub [2, 3, 1, 0] rfl (Kb5 _ _ _ _ hf)
set_option maxHeartbeats 4000000 in
set_option maxRecDepth 100000 in
theorem kX12_slopesBy_5 (E : zE) (t : zTy) (a : Nat → Nat) (out : Int64 × ST) (C : zC E cX12_slopesBy 5 RX12 wsX12_slopesBy (zrm 4 90) t) (R : zRl E cX12_slopesBy 5 out.1 (MW t a out.2)) : ∀ (n : Nat) (v1 : Int32) (v2 : Int64) (v4 : Int32) (x : ST), fX12_slopesBy_5 n v1 v2 v4 x = some out → zG E 5 0 0 (MW t a x) 5 [(0, .ref (a 0)), (1, .int v1), (2, .long v2), (4, .int v4)] [] := by
  intro n
  induction n with
  | zero =>
    intro v1 v2 v4 x hf
    cases hf
  | succ n ih =>
    intro v1 v2 v4 x hf
    rw [fX12_slopesBy_5] at hf
    refine z_iload C dX12_slopesBy_5 3 rfl ?_
    refine z_aload_n C dX12_slopesBy_7 rfl 0 rfl ?_
    refine mg_StillStarsModel_spots C uX12_slopesBy_12 (by decide +kernel) dX12_slopesBy_8 ?_
    refine z_icmp_ge C 56 dX12_slopesBy_11 (by decide) (fun c1 => ?_) (fun c1 => ?_)
    · replace hf := z_ift c1 hf
      refine z_lload_n C dX12_slopesBy_56 rfl 2 rfl ?_
      cases hf
      exact R _ _ dX12_slopesBy_57
    · replace hf := z_iff c1 hf
      refine z_lload_n C dX12_slopesBy_14 rfl 2 rfl ?_
      refine z_aload_n C dX12_slopesBy_15 rfl 0 rfl ?_
      refine z_iload C dX12_slopesBy_16 3 rfl ?_
      obtain ⟨q2, h3, hf⟩ := z_bind hf
      refine z_callVi C (rest := [.long v2]) (tX12_isLost (ze_l E) (ze_D E) t a h3) gX12_slopesBy_X12_isLost rfl hdX12_isLost ⟨(Nat.le_of_ble_eq_true rfl), (Nat.le_of_ble_eq_true rfl)⟩ ⟨Nat.zero_le _, Nat.zero_le _⟩ 0 mw_at_0 rfl rfl rfl (Nat.le_of_ble_eq_true rfl) dX12_slopesBy_18 ?_
      refine z_if_eq C 28 dX12_slopesBy_21 (by decide) (fun c4 => ?_) (fun c4 => ?_)
      · replace hf := z_ift c4 hf
        refine z_aload_n C dX12_slopesBy_28 rfl 0 rfl ?_
        refine mg_StillStarsModel_columns C uX12_slopesBy_12 (by decide +kernel) dX12_slopesBy_29 ?_
        refine z_bipush C dX12_slopesBy_32 8 rfl ?_
        refine z_iload_n C dX12_slopesBy_34 rfl 1 rfl ?_
        refine z_imul C dX12_slopesBy_35 ?_
        refine z_iload C dX12_slopesBy_36 3 rfl ?_
        refine z_iadd C dX12_slopesBy_38 ?_
        obtain ⟨h5, hf⟩ := z_some hf
        refine z_lald C 11 mw_at_11 h5 dX12_slopesBy_39 ?_
        refine z_aload_n C dX12_slopesBy_40 rfl 0 rfl ?_
        refine z_iload C dX12_slopesBy_41 3 rfl ?_
        obtain ⟨q6, h7, hf⟩ := z_bind hf
        refine z_callVi C (rest := [.long (gB q2.2 11 ((8 * v1) + v4).toNatClampNeg), .long v2]) (tX12_slopeOf (ze_l E) (ze_D E) t a h7) gX12_slopesBy_X12_slopeOf rfl hdX12_slopeOf ⟨(Nat.le_of_ble_eq_true rfl), (Nat.le_of_ble_eq_true rfl)⟩ ⟨Nat.zero_le _, Nat.zero_le _⟩ 0 mw_at_0 rfl rfl rfl (Nat.le_of_ble_eq_true rfl) dX12_slopesBy_43 ?_
        refine z_i2l C dX12_slopesBy_46 ?_
        refine z_lmul C dX12_slopesBy_47 ?_
        exact z_sub [0, 1, 3] rfl (kX12_slopesBy_48 E t a out C R (fX12_slopesBy_5 n) (ih) _ _ _ _ _ hf)
      · replace hf := z_iff c4 hf
        refine z_lconst C dX12_slopesBy_24 0 rfl ?_
        refine z_goto C 48 dX12_slopesBy_25 (by decide) ?_
        exact z_sub [0, 1, 3] rfl (kX12_slopesBy_48 E t a out C R (fX12_slopesBy_5 n) (ih) _ _ _ _ _ hf)
theorem hdX12_slopesBy : yX12_slopesBy.cls = RX12 ∧ yX12_slopesBy.cls ≠ "java/lang/invoke/MethodHandle" ∧ yX12_slopesBy.cls ≠ "java/lang/invoke/VarHandle" ∧ (parseMethodDescriptor yX12_slopesBy.desc).map (fun d => d.parameters.length) = some 1 := by decide +kernel
set_option maxHeartbeats 4000000 in
set_option maxRecDepth 100000 in
theorem tX12_slopesBy (l : Launch) (D : va_G) (t : zTy) (a : Nat → Nat) {v1 : Int32} {x : ST} {out : Int64 × ST} (hf : fX12_slopesBy v1 x = some out) : zMl l yX12_slopesBy wsX12_slopesBy 4 90 D t [.ref (a 0), .int v1] (MW t a x) out.1 (MW t a out.2) := by
  refine z_entry_l (cc := cX12_slopesBy) (nL := 5) (by decide) rfl (Nat.le_of_ble_eq_true rfl) (fun E _ _ C R => ?_)
  refine z_sub (lv' := [(0, .ref (a 0)), (1, .int v1)]) [0, 1] rfl ?_
  rw [fX12_slopesBy] at hf
  refine z_lconst C dX12_slopesBy_0 0 rfl ?_
  refine z_lstore_n C [(2, .long 0), (0, .ref (a 0)), (1, .int v1)] dX12_slopesBy_1 rfl (by decide) rfl ?_
  refine z_iconst C dX12_slopesBy_2 0 rfl ?_
  refine z_istore C [(4, .int 0), (2, .long 0), (0, .ref (a 0)), (1, .int v1)] dX12_slopesBy_3 (by decide) rfl ?_
  exact z_sub [2, 3, 1, 0] rfl (kX12_slopesBy_5 E t a out C R 200 _ _ _ _ hf)
theorem uX12_spanOf_12 : ∀ w ∈ wsX120, w ∈ wsX12_spanOf := by decide +kernel
set_option maxHeartbeats 4000000 in
set_option maxRecDepth 100000 in
theorem kX12_spanOf_130 (E : zE) (t : zTy) (a : Nat → Nat) (out : Int64 × ST) (C : zC E cX12_spanOf 11 RX12 wsX12_spanOf (zrm 0 0) t) (R : zRl E cX12_spanOf 11 out.1 (MW t a out.2)) (kb9 : Int32 → Int32 → Int32 → ST → Option (Int64 × ST)) (Kb9 : ∀ (v1 : Int32) (v2 : Int32) (v3 : Int32) (x : ST), kb9 v1 v2 v3 x = some out → zG E 11 0 0 (MW t a x) 9 [(0, .ref (a 0)), (1, .int v1), (2, .int v2), (3, .int v3)] []) (kb52 : Int32 → Int32 → Int32 → Int32 → Int64 → Int32 → Int32 → ST → Option (Int64 × ST)) (Kb52 : ∀ (v1 : Int32) (v2 : Int32) (v3 : Int32) (v4 : Int32) (v5 : Int64) (v7 : Int32) (v8 : Int32) (x : ST), kb52 v1 v2 v3 v4 v5 v7 v8 x = some out → zG E 11 0 0 (MW t a x) 52 [(0, .ref (a 0)), (1, .int v1), (2, .int v2), (3, .int v3), (4, .int v4), (5, .long v5), (7, .int v7), (8, .int v8)] []) : ∀ (v1 : Int32) (v2 : Int32) (v3 : Int32) (v4 : Int32) (v5 : Int64) (v7 : Int32) (v8 : Int32) (x : ST), fX12_spanOf_130 kb9 kb52 v1 v2 v3 v4 v5 v7 v8 x = some out → zG E 11 0 0 (MW t a x) 130 [(0, .ref (a 0)), (1, .int v1), (2, .int v2), (3, .int v3), (4, .int v4), (5, .long v5), (7, .int v7), (8, .int v8)] [] := by
  intro v1 v2 v3 v4 v5 v7 v8 x hf
  rw [fX12_spanOf_130] at hf
  refine z_iinc C (v8 + 1) [(8, .int (v8 + 1)), (0, .ref (a 0)), (1, .int v1), (2, .int v2), (3, .int v3), (4, .int v4), (5, .long v5), (7, .int v7)] dX12_spanOf_130 7 rfl rfl (by decide) rfl ?_
  refine z_goto C 52 dX12_spanOf_133 (by decide) ?_
  exact z_sub [1, 2, 3, 4, 5, 6, 7, 0] rfl (Kb52 _ _ _ _ _ _ _ _ hf)
set_option maxHeartbeats 4000000 in
set_option maxRecDepth 100000 in
theorem kX12_spanOf_124 (E : zE) (t : zTy) (a : Nat → Nat) (out : Int64 × ST) (C : zC E cX12_spanOf 11 RX12 wsX12_spanOf (zrm 0 0) t) (R : zRl E cX12_spanOf 11 out.1 (MW t a out.2)) (kb9 : Int32 → Int32 → Int32 → ST → Option (Int64 × ST)) (Kb9 : ∀ (v1 : Int32) (v2 : Int32) (v3 : Int32) (x : ST), kb9 v1 v2 v3 x = some out → zG E 11 0 0 (MW t a x) 9 [(0, .ref (a 0)), (1, .int v1), (2, .int v2), (3, .int v3)] []) (kb52 : Int32 → Int32 → Int32 → Int32 → Int64 → Int32 → Int32 → ST → Option (Int64 × ST)) (Kb52 : ∀ (v1 : Int32) (v2 : Int32) (v3 : Int32) (v4 : Int32) (v5 : Int64) (v7 : Int32) (v8 : Int32) (x : ST), kb52 v1 v2 v3 v4 v5 v7 v8 x = some out → zG E 11 0 0 (MW t a x) 52 [(0, .ref (a 0)), (1, .int v1), (2, .int v2), (3, .int v3), (4, .int v4), (5, .long v5), (7, .int v7), (8, .int v8)] []) : ∀ (v1 : Int32) (v2 : Int32) (v3 : Int32) (v4 : Int32) (v7 : Int32) (v8 : Int32) (s0 : Int64) (s1 : Int64) (x : ST), fX12_spanOf_124 kb9 kb52 v1 v2 v3 v4 v7 v8 s0 s1 x = some out → zG E 11 0 0 (MW t a x) 124 [(0, .ref (a 0)), (1, .int v1), (2, .int v2), (3, .int v3), (4, .int v4), (7, .int v7), (8, .int v8)] [.long s0, .long s1] := by
  intro v1 v2 v3 v4 v7 v8 s0 s1 x hf
  rw [fX12_spanOf_124] at hf
  refine z_ladd C dX12_spanOf_124 ?_
  refine z_lstore C [(5, .long (s1 + s0)), (0, .ref (a 0)), (1, .int v1), (2, .int v2), (3, .int v3), (4, .int v4), (7, .int v7), (8, .int v8)] dX12_spanOf_125 (by decide) rfl ?_
  refine z_iinc C (v7 + (-1)) [(7, .int (v7 + (-1))), (5, .long (s1 + s0)), (0, .ref (a 0)), (1, .int v1), (2, .int v2), (3, .int v3), (4, .int v4), (8, .int v8)] dX12_spanOf_127 6 rfl rfl (by decide) rfl ?_
  exact z_sub [2, 3, 4, 5, 6, 1, 0, 7] rfl (kX12_spanOf_130 E t a out C R (kb9) (Kb9) (kb52) (Kb52) _ _ _ _ _ _ _ _ hf)
set_option maxHeartbeats 4000000 in
set_option maxRecDepth 100000 in
theorem kX12_spanOf_89 (E : zE) (t : zTy) (a : Nat → Nat) (out : Int64 × ST) (C : zC E cX12_spanOf 11 RX12 wsX12_spanOf (zrm 0 0) t) (R : zRl E cX12_spanOf 11 out.1 (MW t a out.2)) (kb9 : Int32 → Int32 → Int32 → ST → Option (Int64 × ST)) (Kb9 : ∀ (v1 : Int32) (v2 : Int32) (v3 : Int32) (x : ST), kb9 v1 v2 v3 x = some out → zG E 11 0 0 (MW t a x) 9 [(0, .ref (a 0)), (1, .int v1), (2, .int v2), (3, .int v3)] []) (kb52 : Int32 → Int32 → Int32 → Int32 → Int64 → Int32 → Int32 → ST → Option (Int64 × ST)) (Kb52 : ∀ (v1 : Int32) (v2 : Int32) (v3 : Int32) (v4 : Int32) (v5 : Int64) (v7 : Int32) (v8 : Int32) (x : ST), kb52 v1 v2 v3 v4 v5 v7 v8 x = some out → zG E 11 0 0 (MW t a x) 52 [(0, .ref (a 0)), (1, .int v1), (2, .int v2), (3, .int v3), (4, .int v4), (5, .long v5), (7, .int v7), (8, .int v8)] []) : ∀ (v1 : Int32) (v2 : Int32) (v3 : Int32) (v4 : Int32) (v5 : Int64) (v7 : Int32) (v8 : Int32) (s0 : Int32) (s1 : Int32) (x : ST), fX12_spanOf_89 kb9 kb52 v1 v2 v3 v4 v5 v7 v8 s0 s1 x = some out → zG E 11 0 0 (MW t a x) 89 [(0, .ref (a 0)), (1, .int v1), (2, .int v2), (3, .int v3), (4, .int v4), (5, .long v5), (7, .int v7), (8, .int v8)] [.int s0, .int s1, .ref (a 13)] := by
  intro v1 v2 v3 v4 v5 v7 v8 s0 s1 x hf
  rw [fX12_spanOf_89] at hf
  refine z_iadd C dX12_spanOf_89 ?_
  obtain ⟨h9, hf⟩ := z_some hf
  refine z_lald C 13 mw_at_13 h9 dX12_spanOf_90 ?_
  refine z_aload_n C dX12_spanOf_91 rfl 0 rfl ?_
  refine mg_StillStarsModel_minors C uX12_spanOf_12 (by decide +kernel) dX12_spanOf_92 ?_
  refine z_iload_n C dX12_spanOf_95 rfl 3 rfl ?_
  refine z_iconst C dX12_spanOf_96 1 rfl ?_
  refine z_iload C dX12_spanOf_97 7 rfl ?_
  refine z_ishl C dX12_spanOf_99 ?_
  refine z_iconst C dX12_spanOf_100 (-1) rfl ?_
  refine z_ixor C dX12_spanOf_101 ?_
  refine z_iand C dX12_spanOf_102 ?_
  obtain ⟨h10, hf⟩ := z_some hf
  refine z_lald C 14 mw_at_14 h10 dX12_spanOf_103 ?_
  refine z_lmul C dX12_spanOf_104 ?_
  refine z_lstore C [(9, .long ((gB x 13 (s1 + s0).toNatClampNeg) * (gB x 14 (v3 &&& (((1 : Int32) <<< (v8 &&& 31)) ^^^ (-1))).toNatClampNeg))), (0, .ref (a 0)), (1, .int v1), (2, .int v2), (3, .int v3), (4, .int v4), (5, .long v5), (7, .int v7), (8, .int v8)] dX12_spanOf_105 (by decide) rfl ?_
  refine z_lload C dX12_spanOf_107 6 rfl ?_
  refine z_iload C dX12_spanOf_109 7 rfl ?_
  refine z_iconst C dX12_spanOf_111 2 rfl ?_
  obtain ⟨h11, hf⟩ := z_div hf
  refine z_irem C h11 dX12_spanOf_112 ?_
  refine z_if_ne C 121 dX12_spanOf_113 (by decide) (fun c12 => ?_) (fun c12 => ?_)
  · replace hf := z_iff c12 hf
    refine z_lload C dX12_spanOf_121 0 rfl ?_
    refine z_lneg C dX12_spanOf_123 ?_
    exact z_sub [1, 2, 3, 4, 5, 7, 8] rfl (kX12_spanOf_124 E t a out C R (kb9) (Kb9) (kb52) (Kb52) _ _ _ _ _ _ _ _ _ hf)
  · replace hf := z_ift c12 hf
    refine z_lload C dX12_spanOf_116 0 rfl ?_
    refine z_goto C 124 dX12_spanOf_118 (by decide) ?_
    exact z_sub [1, 2, 3, 4, 5, 7, 8] rfl (kX12_spanOf_124 E t a out C R (kb9) (Kb9) (kb52) (Kb52) _ _ _ _ _ _ _ _ _ hf)
set_option maxHeartbeats 4000000 in
set_option maxRecDepth 100000 in
theorem kX12_spanOf_136 (E : zE) (t : zTy) (a : Nat → Nat) (out : Int64 × ST) (C : zC E cX12_spanOf 11 RX12 wsX12_spanOf (zrm 0 0) t) (R : zRl E cX12_spanOf 11 out.1 (MW t a out.2)) (kb9 : Int32 → Int32 → Int32 → ST → Option (Int64 × ST)) (Kb9 : ∀ (v1 : Int32) (v2 : Int32) (v3 : Int32) (x : ST), kb9 v1 v2 v3 x = some out → zG E 11 0 0 (MW t a x) 9 [(0, .ref (a 0)), (1, .int v1), (2, .int v2), (3, .int v3)] []) : ∀ (v1 : Int32) (v2 : Int32) (v3 : Int32) (v5 : Int64) (x : ST), fX12_spanOf_136 kb9 v1 v2 v3 v5 x = some out → zG E 11 0 0 (MW t a x) 136 [(0, .ref (a 0)), (1, .int v1), (2, .int v2), (3, .int v3), (5, .long v5)] [] := by
  intro v1 v2 v3 v5 x hf
  rw [fX12_spanOf_136] at hf
  refine z_aload_n C dX12_spanOf_136 rfl 0 rfl ?_
  refine mg_StillStarsModel_minors C uX12_spanOf_12 (by decide +kernel) dX12_spanOf_137 ?_
  refine z_iload_n C dX12_spanOf_140 rfl 3 rfl ?_
  refine z_lload C dX12_spanOf_141 4 rfl ?_
  obtain ⟨h8, hf⟩ := z_some hf
  refine z_last C 14 mw_at_14 h8 (w' := MW t a (sB x 14 v3 v5)) mw_up_14 dX12_spanOf_143 ?_
  refine z_iinc C (v3 + 1) [(3, .int (v3 + 1)), (0, .ref (a 0)), (1, .int v1), (2, .int v2), (5, .long v5)] dX12_spanOf_144 3 rfl rfl (by decide) rfl ?_
  refine z_goto C 9 dX12_spanOf_147 (by decide) ?_
  exact z_sub [1, 2, 3, 0] rfl (Kb9 _ _ _ _ hf)
set_option maxHeartbeats 4000000 in
set_option maxRecDepth 100000 in
theorem kX12_spanOf_52 (E : zE) (t : zTy) (a : Nat → Nat) (out : Int64 × ST) (C : zC E cX12_spanOf 11 RX12 wsX12_spanOf (zrm 0 0) t) (R : zRl E cX12_spanOf 11 out.1 (MW t a out.2)) (kb9 : Int32 → Int32 → Int32 → ST → Option (Int64 × ST)) (Kb9 : ∀ (v1 : Int32) (v2 : Int32) (v3 : Int32) (x : ST), kb9 v1 v2 v3 x = some out → zG E 11 0 0 (MW t a x) 9 [(0, .ref (a 0)), (1, .int v1), (2, .int v2), (3, .int v3)] []) : ∀ (n : Nat) (v1 : Int32) (v2 : Int32) (v3 : Int32) (v4 : Int32) (v5 : Int64) (v7 : Int32) (v8 : Int32) (x : ST), fX12_spanOf_52 kb9 n v1 v2 v3 v4 v5 v7 v8 x = some out → zG E 11 0 0 (MW t a x) 52 [(0, .ref (a 0)), (1, .int v1), (2, .int v2), (3, .int v3), (4, .int v4), (5, .long v5), (7, .int v7), (8, .int v8)] [] := by
  intro n
  induction n with
  | zero =>
    intro v1 v2 v3 v4 v5 v7 v8 x hf
    cases hf
  | succ n ih =>
    intro v1 v2 v3 v4 v5 v7 v8 x hf
    rw [fX12_spanOf_52] at hf
    refine z_iload C dX12_spanOf_52 7 rfl ?_
    refine z_iload_n C dX12_spanOf_54 rfl 1 rfl ?_
    refine z_icmp_ge C 136 dX12_spanOf_55 (by decide) (fun c5 => ?_) (fun c5 => ?_)
    · replace hf := z_ift c5 hf
      exact z_sub [0, 1, 2, 3, 5] rfl (kX12_spanOf_136 E t a out C R (kb9) (Kb9) _ _ _ _ _ hf)
    · replace hf := z_iff c5 hf
      refine z_iload_n C dX12_spanOf_58 rfl 3 rfl ?_
      refine z_iload C dX12_spanOf_59 7 rfl ?_
      refine z_ishr C dX12_spanOf_61 ?_
      refine z_iconst C dX12_spanOf_62 1 rfl ?_
      refine z_iand C dX12_spanOf_63 ?_
      refine z_iconst C dX12_spanOf_64 1 rfl ?_
      refine z_icmp_ne C 130 dX12_spanOf_65 (by decide) (fun c6 => ?_) (fun c6 => ?_)
      · replace hf := z_iff c6 hf
        exact z_sub [0, 1, 2, 3, 4, 5, 6, 7] rfl (kX12_spanOf_130 E t a out C R (kb9) (Kb9) (fX12_spanOf_52 kb9 n) (ih) _ _ _ _ _ _ _ _ hf)
      · replace hf := z_ift c6 hf
        refine z_aload_n C dX12_spanOf_68 rfl 0 rfl ?_
        refine mg_StillStarsModel_products C uX12_spanOf_12 (by decide +kernel) dX12_spanOf_69 ?_
        refine z_bipush C dX12_spanOf_72 6 rfl ?_
        refine z_iload C dX12_spanOf_74 4 rfl ?_
        refine z_imul C dX12_spanOf_76 ?_
        refine z_iload C dX12_spanOf_77 7 rfl ?_
        refine z_iload_n C dX12_spanOf_79 rfl 2 rfl ?_
        refine z_icmp_ne C 87 dX12_spanOf_80 (by decide) (fun c7 => ?_) (fun c7 => ?_)
        · replace hf := z_iff c7 hf
          refine z_iload C dX12_spanOf_87 7 rfl ?_
          exact z_sub [0, 1, 2, 3, 4, 5, 6, 7] rfl (kX12_spanOf_89 E t a out C R (kb9) (Kb9) (fX12_spanOf_52 kb9 n) (ih) _ _ _ _ _ _ _ _ _ _ hf)
        · replace hf := z_ift c7 hf
          refine z_iconst C dX12_spanOf_83 5 rfl ?_
          refine z_goto C 89 dX12_spanOf_84 (by decide) ?_
          exact z_sub [0, 1, 2, 3, 4, 5, 6, 7] rfl (kX12_spanOf_89 E t a out C R (kb9) (Kb9) (fX12_spanOf_52 kb9 n) (ih) _ _ _ _ _ _ _ _ _ _ hf)
set_option maxHeartbeats 4000000 in
set_option maxRecDepth 100000 in
theorem kX12_spanOf_42 (E : zE) (t : zTy) (a : Nat → Nat) (out : Int64 × ST) (C : zC E cX12_spanOf 11 RX12 wsX12_spanOf (zrm 0 0) t) (R : zRl E cX12_spanOf 11 out.1 (MW t a out.2)) (kb9 : Int32 → Int32 → Int32 → ST → Option (Int64 × ST)) (Kb9 : ∀ (v1 : Int32) (v2 : Int32) (v3 : Int32) (x : ST), kb9 v1 v2 v3 x = some out → zG E 11 0 0 (MW t a x) 9 [(0, .ref (a 0)), (1, .int v1), (2, .int v2), (3, .int v3)] []) : ∀ (v1 : Int32) (v2 : Int32) (v3 : Int32) (v4 : Int32) (x : ST), fX12_spanOf_42 kb9 v1 v2 v3 v4 x = some out → zG E 11 0 0 (MW t a x) 42 [(0, .ref (a 0)), (1, .int v1), (2, .int v2), (3, .int v3), (4, .int v4)] [] := by
  intro v1 v2 v3 v4 x hf
  rw [fX12_spanOf_42] at hf
  refine z_lconst C dX12_spanOf_42 0 rfl ?_
  refine z_lstore C [(5, .long 0), (0, .ref (a 0)), (1, .int v1), (2, .int v2), (3, .int v3), (4, .int v4)] dX12_spanOf_43 (by decide) rfl ?_
  refine z_iload C dX12_spanOf_45 5 rfl ?_
  refine z_istore C [(7, .int v4), (5, .long 0), (0, .ref (a 0)), (1, .int v1), (2, .int v2), (3, .int v3), (4, .int v4)] dX12_spanOf_47 (by decide) rfl ?_
  refine z_iconst C dX12_spanOf_49 0 rfl ?_
  refine z_istore C [(8, .int 0), (7, .int v4), (5, .long 0), (0, .ref (a 0)), (1, .int v1), (2, .int v2), (3, .int v3), (4, .int v4)] dX12_spanOf_50 (by decide) rfl ?_
  exact z_sub [3, 4, 5, 6, 7, 2, 1, 0] rfl (kX12_spanOf_52 E t a out C R (kb9) (Kb9) 200 _ _ _ _ _ _ _ _ hf)
set_option maxHeartbeats 4000000 in
set_option maxRecDepth 100000 in
theorem kX12_spanOf_22 (E : zE) (t : zTy) (a : Nat → Nat) (out : Int64 × ST) (C : zC E cX12_spanOf 11 RX12 wsX12_spanOf (zrm 0 0) t) (R : zRl E cX12_spanOf 11 out.1 (MW t a out.2)) (kb9 : Int32 → Int32 → Int32 → ST → Option (Int64 × ST)) (Kb9 : ∀ (v1 : Int32) (v2 : Int32) (v3 : Int32) (x : ST), kb9 v1 v2 v3 x = some out → zG E 11 0 0 (MW t a x) 9 [(0, .ref (a 0)), (1, .int v1), (2, .int v2), (3, .int v3)] []) : ∀ (n : Nat) (v1 : Int32) (v2 : Int32) (v3 : Int32) (v4 : Int32) (v5 : Int32) (x : ST), fX12_spanOf_22 kb9 n v1 v2 v3 v4 v5 x = some out → zG E 11 0 0 (MW t a x) 22 [(0, .ref (a 0)), (1, .int v1), (2, .int v2), (3, .int v3), (4, .int v4), (5, .int v5)] [] := by
  intro n
  induction n with
  | zero =>
    intro v1 v2 v3 v4 v5 x hf
    cases hf
  | succ n ih =>
    intro v1 v2 v3 v4 v5 x hf
    rw [fX12_spanOf_22] at hf
    refine z_iload C dX12_spanOf_22 5 rfl ?_
    refine z_if_eq C 42 dX12_spanOf_24 (by decide) (fun c4 => ?_) (fun c4 => ?_)
    · replace hf := z_ift c4 hf
      exact z_sub [0, 1, 2, 3, 4] rfl (kX12_spanOf_42 E t a out C R (kb9) (Kb9) _ _ _ _ _ hf)
    · replace hf := z_iff c4 hf
      refine z_iinc C (v4 + 1) [(4, .int (v4 + 1)), (0, .ref (a 0)), (1, .int v1), (2, .int v2), (3, .int v3), (5, .int v5)] dX12_spanOf_27 4 rfl rfl (by decide) rfl ?_
      refine z_iload C dX12_spanOf_30 5 rfl ?_
      refine z_iload C dX12_spanOf_32 5 rfl ?_
      refine z_iconst C dX12_spanOf_34 1 rfl ?_
      refine z_isub C dX12_spanOf_35 ?_
      refine z_iand C dX12_spanOf_36 ?_
      refine z_istore C [(5, .int (v5 &&& (v5 - 1))), (4, .int (v4 + 1)), (0, .ref (a 0)), (1, .int v1), (2, .int v2), (3, .int v3)] dX12_spanOf_37 (by decide) rfl ?_
      refine z_goto C 22 dX12_spanOf_39 (by decide) ?_
      exact z_sub [2, 3, 4, 5, 1, 0] rfl (ih _ _ _ _ _ _ hf)
set_option maxHeartbeats 4000000 in
set_option maxRecDepth 100000 in
theorem kX12_spanOf_150 (E : zE) (t : zTy) (a : Nat → Nat) (out : Int64 × ST) (C : zC E cX12_spanOf 11 RX12 wsX12_spanOf (zrm 0 0) t) (R : zRl E cX12_spanOf 11 out.1 (MW t a out.2)) : ∀ (v1 : Int32) (x : ST), fX12_spanOf_150 v1 x = some out → zG E 11 0 0 (MW t a x) 150 [(0, .ref (a 0)), (1, .int v1)] [] := by
  intro v1 x hf
  rw [fX12_spanOf_150] at hf
  refine z_aload_n C dX12_spanOf_150 rfl 0 rfl ?_
  refine mg_StillStarsModel_minors C uX12_spanOf_12 (by decide +kernel) dX12_spanOf_151 ?_
  refine z_iconst C dX12_spanOf_154 1 rfl ?_
  refine z_iload_n C dX12_spanOf_155 rfl 1 rfl ?_
  refine z_ishl C dX12_spanOf_156 ?_
  refine z_iconst C dX12_spanOf_157 1 rfl ?_
  refine z_isub C dX12_spanOf_158 ?_
  obtain ⟨h3, hf⟩ := z_some hf
  refine z_lald C 14 mw_at_14 h3 dX12_spanOf_159 ?_
  cases hf
  exact R _ _ dX12_spanOf_160
set_option maxHeartbeats 4000000 in
set_option maxRecDepth 100000 in
theorem kX12_spanOf_9 (E : zE) (t : zTy) (a : Nat → Nat) (out : Int64 × ST) (C : zC E cX12_spanOf 11 RX12 wsX12_spanOf (zrm 0 0) t) (R : zRl E cX12_spanOf 11 out.1 (MW t a out.2)) : ∀ (n : Nat) (v1 : Int32) (v2 : Int32) (v3 : Int32) (x : ST), fX12_spanOf_9 n v1 v2 v3 x = some out → zG E 11 0 0 (MW t a x) 9 [(0, .ref (a 0)), (1, .int v1), (2, .int v2), (3, .int v3)] [] := by
  intro n
  induction n with
  | zero =>
    intro v1 v2 v3 x hf
    cases hf
  | succ n ih =>
    intro v1 v2 v3 x hf
    rw [fX12_spanOf_9] at hf
    refine z_iload_n C dX12_spanOf_9 rfl 3 rfl ?_
    refine z_iconst C dX12_spanOf_10 1 rfl ?_
    refine z_iload_n C dX12_spanOf_11 rfl 1 rfl ?_
    refine z_ishl C dX12_spanOf_12 ?_
    refine z_icmp_ge C 150 dX12_spanOf_13 (by decide) (fun c2 => ?_) (fun c2 => ?_)
    · replace hf := z_ift c2 hf
      exact z_sub [0, 1] rfl (kX12_spanOf_150 E t a out C R _ _ hf)
    · replace hf := z_iff c2 hf
      refine z_iconst C dX12_spanOf_16 (-1) rfl ?_
      refine z_istore C [(4, .int (-1)), (0, .ref (a 0)), (1, .int v1), (2, .int v2), (3, .int v3)] dX12_spanOf_17 (by decide) rfl ?_
      refine z_iload_n C dX12_spanOf_19 rfl 4 rfl ?_
      refine z_istore C [(5, .int v3), (4, .int (-1)), (0, .ref (a 0)), (1, .int v1), (2, .int v2), (3, .int v3)] dX12_spanOf_20 (by decide) rfl ?_
      exact z_sub [2, 3, 4, 5, 1, 0] rfl (kX12_spanOf_22 E t a out C R (fX12_spanOf_9 n) (ih) 200 _ _ _ _ _ _ hf)
theorem hdX12_spanOf : yX12_spanOf.cls = RX12 ∧ yX12_spanOf.cls ≠ "java/lang/invoke/MethodHandle" ∧ yX12_spanOf.cls ≠ "java/lang/invoke/VarHandle" ∧ (parseMethodDescriptor yX12_spanOf.desc).map (fun d => d.parameters.length) = some 2 := by decide +kernel
set_option maxHeartbeats 4000000 in
set_option maxRecDepth 100000 in
theorem tX12_spanOf (l : Launch) (D : va_G) (t : zTy) (a : Nat → Nat) {v1 : Int32} {v2 : Int32} {x : ST} {out : Int64 × ST} (hf : fX12_spanOf v1 v2 x = some out) : zMl l yX12_spanOf wsX12_spanOf 0 0 D t [.ref (a 0), .int v1, .int v2] (MW t a x) out.1 (MW t a out.2) := by
  refine z_entry_l (cc := cX12_spanOf) (nL := 11) (by decide) rfl (Nat.le_of_ble_eq_true rfl) (fun E _ _ C R => ?_)
  refine z_sub (lv' := [(0, .ref (a 0)), (1, .int v1), (2, .int v2)]) [0, 1, 2] rfl ?_
  rw [fX12_spanOf] at hf
  refine z_aload_n C dX12_spanOf_0 rfl 0 rfl ?_
  refine mg_StillStarsModel_minors C uX12_spanOf_12 (by decide +kernel) dX12_spanOf_1 ?_
  refine z_iconst C dX12_spanOf_4 0 rfl ?_
  refine z_lconst C dX12_spanOf_5 1 rfl ?_
  obtain ⟨h1, hf⟩ := z_some hf
  refine z_last C 14 mw_at_14 h1 (w' := MW t a (sB x 14 0 1)) mw_up_14 dX12_spanOf_6 ?_
  refine z_iconst C dX12_spanOf_7 1 rfl ?_
  refine z_istore_n C [(3, .int 1), (0, .ref (a 0)), (1, .int v1), (2, .int v2)] dX12_spanOf_8 rfl (by decide) rfl ?_
  exact z_sub [1, 2, 3, 0] rfl (kX12_spanOf_9 E t a out C R 200 _ _ _ _ hf)
theorem uX12_findColumns_12 : ∀ w ∈ wsX120, w ∈ wsX12_findColumns := by decide +kernel
set_option maxHeartbeats 4000000 in
set_option maxRecDepth 100000 in
theorem kX12_findColumns_93 (E : zE) (t : zTy) (a : Nat → Nat) (out : ST) (C : zC E cX12_findColumns 4 RX12 wsX12_findColumns (zrm 5 114) t) (R : zRv E cX12_findColumns 4 (MW t a out)) (kb25 : Int32 → Int32 → ST → Option (ST)) (Kb25 : ∀ (v1 : Int32) (v2 : Int32) (x : ST), kb25 v1 v2 x = some out → zG E 4 0 0 (MW t a x) 25 [(0, .ref (a 0)), (1, .int v1), (2, .int v2)] []) (kb50 : Int32 → Int32 → Int32 → ST → Option (ST)) (Kb50 : ∀ (v1 : Int32) (v2 : Int32) (v3 : Int32) (x : ST), kb50 v1 v2 v3 x = some out → zG E 4 0 0 (MW t a x) 50 [(0, .ref (a 0)), (1, .int v1), (2, .int v2), (3, .int v3)] []) : ∀ (v1 : Int32) (v2 : Int32) (v3 : Int32) (s0 : Int64) (s1 : Int64) (s2 : Int32) (x : ST), fX12_findColumns_93 kb25 kb50 v1 v2 v3 s0 s1 s2 x = some out → zG E 4 0 0 (MW t a x) 93 [(0, .ref (a 0)), (1, .int v1), (2, .int v2), (3, .int v3)] [.long s0, .long s1, .int s2, .ref (a 11)] := by
  intro v1 v2 v3 s0 s1 s2 x hf
  rw [fX12_findColumns_93] at hf
  refine z_ladd C dX12_findColumns_93 ?_
  obtain ⟨h23, hf⟩ := z_some hf
  refine z_last C 11 mw_at_11 h23 (w' := MW t a (sB x 11 s2 (s1 + s0))) mw_up_11 dX12_findColumns_94 ?_
  refine z_iinc C (v3 + 1) [(3, .int (v3 + 1)), (0, .ref (a 0)), (1, .int v1), (2, .int v2)] dX12_findColumns_95 3 rfl rfl (by decide) rfl ?_
  refine z_goto C 50 dX12_findColumns_98 (by decide) ?_
  exact z_sub [1, 2, 3, 0] rfl (Kb50 _ _ _ _ hf)
set_option maxHeartbeats 4000000 in
set_option maxRecDepth 100000 in
theorem kX12_findColumns_101 (E : zE) (t : zTy) (a : Nat → Nat) (out : ST) (C : zC E cX12_findColumns 4 RX12 wsX12_findColumns (zrm 5 114) t) (R : zRv E cX12_findColumns 4 (MW t a out)) (kb25 : Int32 → Int32 → ST → Option (ST)) (Kb25 : ∀ (v1 : Int32) (v2 : Int32) (x : ST), kb25 v1 v2 x = some out → zG E 4 0 0 (MW t a x) 25 [(0, .ref (a 0)), (1, .int v1), (2, .int v2)] []) : ∀ (v1 : Int32) (v2 : Int32) (x : ST), fX12_findColumns_101 kb25 v1 v2 x = some out → zG E 4 0 0 (MW t a x) 101 [(0, .ref (a 0)), (1, .int v1), (2, .int v2)] [] := by
  intro v1 v2 x hf
  rw [fX12_findColumns_101] at hf
  refine z_iinc C (v2 + 1) [(2, .int (v2 + 1)), (0, .ref (a 0)), (1, .int v1)] dX12_findColumns_101 2 rfl rfl (by decide) rfl ?_
  refine z_goto C 25 dX12_findColumns_104 (by decide) ?_
  exact z_sub [1, 2, 0] rfl (Kb25 _ _ _ hf)
set_option maxHeartbeats 4000000 in
set_option maxRecDepth 100000 in
theorem kX12_findColumns_50 (E : zE) (t : zTy) (a : Nat → Nat) (out : ST) (C : zC E cX12_findColumns 4 RX12 wsX12_findColumns (zrm 5 114) t) (R : zRv E cX12_findColumns 4 (MW t a out)) (kb25 : Int32 → Int32 → ST → Option (ST)) (Kb25 : ∀ (v1 : Int32) (v2 : Int32) (x : ST), kb25 v1 v2 x = some out → zG E 4 0 0 (MW t a x) 25 [(0, .ref (a 0)), (1, .int v1), (2, .int v2)] []) : ∀ (n : Nat) (v1 : Int32) (v2 : Int32) (v3 : Int32) (x : ST), fX12_findColumns_50 kb25 n v1 v2 v3 x = some out → zG E 4 0 0 (MW t a x) 50 [(0, .ref (a 0)), (1, .int v1), (2, .int v2), (3, .int v3)] [] := by
  intro n
  induction n with
  | zero =>
    intro v1 v2 v3 x hf
    cases hf
  | succ n ih =>
    intro v1 v2 v3 x hf
    rw [fX12_findColumns_50] at hf
    refine z_iload_n C dX12_findColumns_50 rfl 3 rfl ?_
    refine z_aload_n C dX12_findColumns_51 rfl 0 rfl ?_
    refine mg_StillStarsModel_spots C uX12_findColumns_12 (by decide +kernel) dX12_findColumns_52 ?_
    refine z_icmp_ge C 101 dX12_findColumns_55 (by decide) (fun c10 => ?_) (fun c10 => ?_)
    · replace hf := z_ift c10 hf
      exact z_sub [0, 1, 2] rfl (kX12_findColumns_101 E t a out C R (kb25) (Kb25) _ _ _ hf)
    · replace hf := z_iff c10 hf
      refine z_aload_n C dX12_findColumns_58 rfl 0 rfl ?_
      refine mg_StillStarsModel_columns C uX12_findColumns_12 (by decide +kernel) dX12_findColumns_59 ?_
      refine z_bipush C dX12_findColumns_62 8 rfl ?_
      refine z_iload_n C dX12_findColumns_64 rfl 1 rfl ?_
      refine z_imul C dX12_findColumns_65 ?_
      refine z_iload_n C dX12_findColumns_66 rfl 3 rfl ?_
      refine z_iadd C dX12_findColumns_67 ?_
      refine z_dup2 C dX12_findColumns_68 rfl rfl ?_
      obtain ⟨h11, hf⟩ := z_some hf
      refine z_lald C 11 mw_at_11 h11 dX12_findColumns_69 ?_
      refine z_aload_n C dX12_findColumns_70 rfl 0 rfl ?_
      refine z_iload_n C dX12_findColumns_71 rfl 3 rfl ?_
      obtain ⟨q12, h13, hf⟩ := z_bind hf
      refine z_callVi C (rest := [.long (gB x 11 ((8 * v1) + v3).toNatClampNeg), .int ((8 * v1) + v3), .ref (a 11)]) (tX12_isLost (ze_l E) (ze_D E) t a h13) gX12_findColumns_X12_isLost rfl hdX12_isLost ⟨(Nat.le_of_ble_eq_true rfl), (Nat.le_of_ble_eq_true rfl)⟩ ⟨Nat.zero_le _, Nat.zero_le _⟩ 0 mw_at_0 rfl rfl rfl (Nat.le_of_ble_eq_true rfl) dX12_findColumns_72 ?_
      refine z_if_eq C 82 dX12_findColumns_75 (by decide) (fun c14 => ?_) (fun c14 => ?_)
      · replace hf := z_ift c14 hf
        refine z_aload_n C dX12_findColumns_82 rfl 0 rfl ?_
        refine mg_StillStarsModel_table C uX12_findColumns_12 (by decide +kernel) dX12_findColumns_83 ?_
        refine z_iconst C dX12_findColumns_86 5 rfl ?_
        refine z_iload_n C dX12_findColumns_87 rfl 3 rfl ?_
        refine z_imul C dX12_findColumns_88 ?_
        refine z_iload_n C dX12_findColumns_89 rfl 2 rfl ?_
        refine z_iadd C dX12_findColumns_90 ?_
        obtain ⟨h15, hf⟩ := z_some hf
        refine z_iald C 3 mw_at_3 h15 dX12_findColumns_91 ?_
        refine z_i2l C dX12_findColumns_92 ?_
        exact z_sub [0, 1, 2, 3] rfl (kX12_findColumns_93 E t a out C R (kb25) (Kb25) (fX12_findColumns_50 kb25 n) (ih) _ _ _ _ _ _ _ hf)
      · replace hf := z_iff c14 hf
        refine z_lconst C dX12_findColumns_78 0 rfl ?_
        refine z_goto C 93 dX12_findColumns_79 (by decide) ?_
        exact z_sub [0, 1, 2, 3] rfl (kX12_findColumns_93 E t a out C R (kb25) (Kb25) (fX12_findColumns_50 kb25 n) (ih) _ _ _ _ _ _ _ hf)
set_option maxHeartbeats 4000000 in
set_option maxRecDepth 100000 in
theorem kX12_findColumns_47 (E : zE) (t : zTy) (a : Nat → Nat) (out : ST) (C : zC E cX12_findColumns 4 RX12 wsX12_findColumns (zrm 5 114) t) (R : zRv E cX12_findColumns 4 (MW t a out)) (kb25 : Int32 → Int32 → ST → Option (ST)) (Kb25 : ∀ (v1 : Int32) (v2 : Int32) (x : ST), kb25 v1 v2 x = some out → zG E 4 0 0 (MW t a x) 25 [(0, .ref (a 0)), (1, .int v1), (2, .int v2)] []) : ∀ (v2 : Int32) (s0 : Int32) (x : ST), fX12_findColumns_47 kb25 v2 s0 x = some out → zG E 4 0 0 (MW t a x) 47 [(0, .ref (a 0)), (2, .int v2)] [.int s0] := by
  intro v2 s0 x hf
  rw [fX12_findColumns_47] at hf
  refine z_istore_n C [(1, .int s0), (0, .ref (a 0)), (2, .int v2)] dX12_findColumns_47 rfl (by decide) rfl ?_
  refine z_iconst C dX12_findColumns_48 0 rfl ?_
  refine z_istore_n C [(3, .int 0), (1, .int s0), (0, .ref (a 0)), (2, .int v2)] dX12_findColumns_49 rfl (by decide) rfl ?_
  exact z_sub [2, 1, 3, 0] rfl (kX12_findColumns_50 E t a out C R (kb25) (Kb25) 200 _ _ _ _ hf)
set_option maxHeartbeats 4000000 in
set_option maxRecDepth 100000 in
theorem kX12_findColumns_272 (E : zE) (t : zTy) (a : Nat → Nat) (out : ST) (C : zC E cX12_findColumns 4 RX12 wsX12_findColumns (zrm 5 114) t) (R : zRv E cX12_findColumns 4 (MW t a out)) (kb119 : Int32 → ST → Option (ST)) (Kb119 : ∀ (v2 : Int32) (x : ST), kb119 v2 x = some out → zG E 4 0 0 (MW t a x) 119 [(0, .ref (a 0)), (2, .int v2)] []) : ∀ (v2 : Int32) (x : ST), fX12_findColumns_272 kb119 v2 x = some out → zG E 4 0 0 (MW t a x) 272 [(0, .ref (a 0)), (2, .int v2)] [] := by
  intro v2 x hf
  rw [fX12_findColumns_272] at hf
  refine z_iinc C (v2 + 1) [(2, .int (v2 + 1)), (0, .ref (a 0))] dX12_findColumns_272 1 rfl rfl (by decide) rfl ?_
  refine z_goto C 119 dX12_findColumns_275 (by decide) ?_
  exact z_sub [1, 0] rfl (Kb119 _ _ hf)
set_option maxHeartbeats 4000000 in
set_option maxRecDepth 100000 in
theorem kX12_findColumns_215 (E : zE) (t : zTy) (a : Nat → Nat) (out : ST) (C : zC E cX12_findColumns 4 RX12 wsX12_findColumns (zrm 5 114) t) (R : zRv E cX12_findColumns 4 (MW t a out)) (kb119 : Int32 → ST → Option (ST)) (Kb119 : ∀ (v2 : Int32) (x : ST), kb119 v2 x = some out → zG E 4 0 0 (MW t a x) 119 [(0, .ref (a 0)), (2, .int v2)] []) : ∀ (v2 : Int32) (x : ST), fX12_findColumns_215 kb119 v2 x = some out → zG E 4 0 0 (MW t a x) 215 [(0, .ref (a 0)), (2, .int v2)] [] := by
  intro v2 x hf
  rw [fX12_findColumns_215] at hf
  refine z_aload_n C dX12_findColumns_215 rfl 0 rfl ?_
  refine mg_StillStarsModel_products C uX12_findColumns_12 (by decide +kernel) dX12_findColumns_216 ?_
  refine z_bipush C dX12_findColumns_219 6 rfl ?_
  refine z_aload_n C dX12_findColumns_221 rfl 0 rfl ?_
  refine mg_StillStarsModel_seenMany C uX12_findColumns_12 (by decide +kernel) dX12_findColumns_222 ?_
  refine z_imul C dX12_findColumns_225 ?_
  refine z_iconst C dX12_findColumns_226 5 rfl ?_
  refine z_iadd C dX12_findColumns_227 ?_
  refine z_aload_n C dX12_findColumns_228 rfl 0 rfl ?_
  refine z_iload_n C dX12_findColumns_229 rfl 1 rfl ?_
  obtain ⟨q24, h25, hf⟩ := z_bind hf
  refine z_callVl C (rest := [.int ((6 * (gI x 2)) + 5), .ref (a 13)]) (tX12_slopesBy (ze_l E) (ze_D E) t a h25) gX12_findColumns_X12_slopesBy rfl hdX12_slopesBy ⟨(Nat.le_of_ble_eq_true rfl), (Nat.le_of_ble_eq_true rfl)⟩ ⟨Nat.zero_le _, Nat.zero_le _⟩ 0 mw_at_0 rfl rfl rfl (Nat.le_of_ble_eq_true rfl) dX12_findColumns_230 ?_
  obtain ⟨h26, hf⟩ := z_some hf
  refine z_last C 13 mw_at_13 h26 (w' := MW t a (sB q24.2 13 ((6 * (gI x 2)) + 5) q24.1)) mw_up_13 dX12_findColumns_233 ?_
  refine z_aload_n C dX12_findColumns_234 rfl 0 rfl ?_
  refine z_aload_n C dX12_findColumns_235 rfl 0 rfl ?_
  refine mg_StillStarsModel_seenMany C uX12_findColumns_12 (by decide +kernel) dX12_findColumns_236 ?_
  refine z_iconst C dX12_findColumns_239 1 rfl ?_
  refine z_iadd C dX12_findColumns_240 ?_
  refine z_iconst C dX12_findColumns_241 (-1) rfl ?_
  obtain ⟨q27, h28, hf⟩ := z_bind hf
  refine z_callVl C (rest := []) (tX12_spanOf (ze_l E) (ze_D E) t a h28) gX12_findColumns_X12_spanOf rfl hdX12_spanOf ⟨(Nat.le_of_ble_eq_true rfl), (Nat.le_of_ble_eq_true rfl)⟩ ⟨Nat.zero_le _, Nat.zero_le _⟩ 0 mw_at_0 rfl rfl rfl (Nat.le_of_ble_eq_true rfl) dX12_findColumns_242 ?_
  refine z_lconst C dX12_findColumns_245 0 rfl ?_
  refine z_lcmp_eq C 272 dX12_findColumns_246 dX12_findColumns_247 (by decide) (fun c29 => ?_) (fun c29 => ?_)
  · replace hf := z_ift c29 hf
    exact z_sub [0, 1] rfl (kX12_findColumns_272 E t a out C R (kb119) (Kb119) _ _ hf)
  · replace hf := z_iff c29 hf
    refine z_aload_n C dX12_findColumns_250 rfl 0 rfl ?_
    refine z_dup C dX12_findColumns_251 rfl ?_
    refine mg_StillStarsModel_seenMany C uX12_findColumns_12 (by decide +kernel) dX12_findColumns_252 ?_
    refine z_iconst C dX12_findColumns_255 1 rfl ?_
    refine z_iadd C dX12_findColumns_256 ?_
    refine mp_StillStarsModel_seenMany C uX12_findColumns_12 (by decide +kernel) dX12_findColumns_257 ?_
    refine z_aload_n C dX12_findColumns_260 rfl 0 rfl ?_
    refine z_dup C dX12_findColumns_261 rfl ?_
    refine mg_StillStarsModel_seenBits C uX12_findColumns_12 (by decide +kernel) dX12_findColumns_262 ?_
    refine z_iconst C dX12_findColumns_265 1 rfl ?_
    refine z_iload_n C dX12_findColumns_266 rfl 1 rfl ?_
    refine z_ishl C dX12_findColumns_267 ?_
    refine z_ior C dX12_findColumns_268 ?_
    refine mp_StillStarsModel_seenBits C uX12_findColumns_12 (by decide +kernel) dX12_findColumns_269 ?_
    exact z_sub [0, 1] rfl (kX12_findColumns_272 E t a out C R (kb119) (Kb119) _ _ hf)
set_option maxHeartbeats 4000000 in
set_option maxRecDepth 100000 in
theorem kX12_findColumns_148 (E : zE) (t : zTy) (a : Nat → Nat) (out : ST) (C : zC E cX12_findColumns 4 RX12 wsX12_findColumns (zrm 5 114) t) (R : zRv E cX12_findColumns 4 (MW t a out)) (kb119 : Int32 → ST → Option (ST)) (Kb119 : ∀ (v2 : Int32) (x : ST), kb119 v2 x = some out → zG E 4 0 0 (MW t a x) 119 [(0, .ref (a 0)), (2, .int v2)] []) : ∀ (n : Nat) (v2 : Int32) (v3 : Int32) (x : ST), fX12_findColumns_148 kb119 n v2 v3 x = some out → zG E 4 0 0 (MW t a x) 148 [(0, .ref (a 0)), (2, .int v2), (3, .int v3)] [] := by
  intro n
  induction n with
  | zero =>
    intro v2 v3 x hf
    cases hf
  | succ n ih =>
    intro v2 v3 x hf
    rw [fX12_findColumns_148] at hf
    refine z_iload_n C dX12_findColumns_148 rfl 2 rfl ?_
    refine z_aload_n C dX12_findColumns_149 rfl 0 rfl ?_
    refine mg_StillStarsModel_seenMany C uX12_findColumns_12 (by decide +kernel) dX12_findColumns_150 ?_
    refine z_icmp_gt C 215 dX12_findColumns_153 (by decide) (fun c16 => ?_) (fun c16 => ?_)
    · replace hf := z_ift c16 hf
      exact z_sub [0, 1] rfl (kX12_findColumns_215 E t a out C R (kb119) (Kb119) _ _ hf)
    · replace hf := z_iff c16 hf
      refine z_aload_n C dX12_findColumns_156 rfl 0 rfl ?_
      refine mg_StillStarsModel_products C uX12_findColumns_12 (by decide +kernel) dX12_findColumns_157 ?_
      refine z_bipush C dX12_findColumns_160 6 rfl ?_
      refine z_aload_n C dX12_findColumns_162 rfl 0 rfl ?_
      refine mg_StillStarsModel_seenMany C uX12_findColumns_12 (by decide +kernel) dX12_findColumns_163 ?_
      refine z_imul C dX12_findColumns_166 ?_
      refine z_iload_n C dX12_findColumns_167 rfl 2 rfl ?_
      refine z_iadd C dX12_findColumns_168 ?_
      refine z_aload_n C dX12_findColumns_169 rfl 0 rfl ?_
      refine z_iload_n C dX12_findColumns_170 rfl 1 rfl ?_
      refine z_aload_n C dX12_findColumns_171 rfl 0 rfl ?_
      refine mg_StillStarsModel_seenParts C uX12_findColumns_12 (by decide +kernel) dX12_findColumns_172 ?_
      refine z_iload_n C dX12_findColumns_175 rfl 2 rfl ?_
      obtain ⟨h17, hf⟩ := z_some hf
      refine z_iald C 12 mw_at_12 h17 dX12_findColumns_176 ?_
      obtain ⟨q18, h19, hf⟩ := z_bind hf
      refine z_callVl C (rest := [.int ((6 * (gI x 2)) + v3), .ref (a 13)]) (tX12_productOf (ze_l E) (ze_D E) t a h19) gX12_findColumns_X12_productOf rfl hdX12_productOf ⟨(Nat.le_of_ble_eq_true rfl), (Nat.le_of_ble_eq_true rfl)⟩ ⟨Nat.zero_le _, Nat.zero_le _⟩ 0 mw_at_0 rfl rfl rfl (Nat.le_of_ble_eq_true rfl) dX12_findColumns_177 ?_
      obtain ⟨h20, hf⟩ := z_some hf
      refine z_last C 13 mw_at_13 h20 (w' := MW t a (sB q18.2 13 ((6 * (gI x 2)) + v3) q18.1)) mw_up_13 dX12_findColumns_180 ?_
      refine z_aload_n C dX12_findColumns_181 rfl 0 rfl ?_
      refine mg_StillStarsModel_products C uX12_findColumns_12 (by decide +kernel) dX12_findColumns_182 ?_
      refine z_bipush C dX12_findColumns_185 6 rfl ?_
      refine z_iload_n C dX12_findColumns_187 rfl 2 rfl ?_
      refine z_imul C dX12_findColumns_188 ?_
      refine z_aload_n C dX12_findColumns_189 rfl 0 rfl ?_
      refine mg_StillStarsModel_seenMany C uX12_findColumns_12 (by decide +kernel) dX12_findColumns_190 ?_
      refine z_iadd C dX12_findColumns_193 ?_
      refine z_aload_n C dX12_findColumns_194 rfl 0 rfl ?_
      refine mg_StillStarsModel_products C uX12_findColumns_12 (by decide +kernel) dX12_findColumns_195 ?_
      refine z_bipush C dX12_findColumns_198 6 rfl ?_
      refine z_aload_n C dX12_findColumns_200 rfl 0 rfl ?_
      refine mg_StillStarsModel_seenMany C uX12_findColumns_12 (by decide +kernel) dX12_findColumns_201 ?_
      refine z_imul C dX12_findColumns_204 ?_
      refine z_iload_n C dX12_findColumns_205 rfl 2 rfl ?_
      refine z_iadd C dX12_findColumns_206 ?_
      obtain ⟨h21, hf⟩ := z_some hf
      refine z_lald C 13 mw_at_13 h21 dX12_findColumns_207 ?_
      obtain ⟨h22, hf⟩ := z_some hf
      refine z_last C 13 mw_at_13 h22 (w' := MW t a (sB (sB q18.2 13 ((6 * (gI x 2)) + v3) q18.1) 13 ((6 * v3) + (gI (sB q18.2 13 ((6 * (gI x 2)) + v3) q18.1) 2)) (gB (sB q18.2 13 ((6 * (gI x 2)) + v3) q18.1) 13 ((6 * (gI (sB q18.2 13 ((6 * (gI x 2)) + v3) q18.1) 2)) + v3).toNatClampNeg))) mw_up_13 dX12_findColumns_208 ?_
      refine z_iinc C (v3 + 1) [(3, .int (v3 + 1)), (0, .ref (a 0)), (2, .int v2)] dX12_findColumns_209 2 rfl rfl (by decide) rfl ?_
      refine z_goto C 148 dX12_findColumns_212 (by decide) ?_
      exact z_sub [1, 2, 0] rfl (ih _ _ _ hf)
set_option maxHeartbeats 4000000 in
set_option maxRecDepth 100000 in
theorem kX12_findColumns_119 (E : zE) (t : zTy) (a : Nat → Nat) (out : ST) (C : zC E cX12_findColumns 4 RX12 wsX12_findColumns (zrm 5 114) t) (R : zRv E cX12_findColumns 4 (MW t a out)) : ∀ (n : Nat) (v2 : Int32) (x : ST), fX12_findColumns_119 n v2 x = some out → zG E 4 0 0 (MW t a x) 119 [(0, .ref (a 0)), (2, .int v2)] [] := by
  intro n
  induction n with
  | zero =>
    intro v2 x hf
    cases hf
  | succ n ih =>
    intro v2 x hf
    rw [fX12_findColumns_119] at hf
    refine z_iload_n C dX12_findColumns_119 rfl 1 rfl ?_
    refine z_aload_n C dX12_findColumns_120 rfl 0 rfl ?_
    refine mg_StillStarsModel_parts C uX12_findColumns_12 (by decide +kernel) dX12_findColumns_121 ?_
    refine z_icmp_ge C 278 dX12_findColumns_124 (by decide) (fun c6 => ?_) (fun c6 => ?_)
    · replace hf := z_ift c6 hf
      cases hf
      exact R _ _ dX12_findColumns_278
    · replace hf := z_iff c6 hf
      refine z_aload_n C dX12_findColumns_127 rfl 0 rfl ?_
      refine mg_StillStarsModel_isDead C uX12_findColumns_12 (by decide +kernel) dX12_findColumns_128 ?_
      refine z_iload_n C dX12_findColumns_131 rfl 1 rfl ?_
      obtain ⟨h7, hf⟩ := z_some hf
      refine z_zald C 10 mw_at_10 h7 dX12_findColumns_132 ?_
      refine z_if_ne C 272 dX12_findColumns_133 (by decide) (fun c8 => ?_) (fun c8 => ?_)
      · replace hf := z_iff c8 hf
        exact z_sub [0, 1] rfl (kX12_findColumns_272 E t a out C R (fX12_findColumns_119 n) (ih) _ _ hf)
      · replace hf := z_ift c8 hf
        refine z_aload_n C dX12_findColumns_136 rfl 0 rfl ?_
        refine mg_StillStarsModel_seenParts C uX12_findColumns_12 (by decide +kernel) dX12_findColumns_137 ?_
        refine z_aload_n C dX12_findColumns_140 rfl 0 rfl ?_
        refine mg_StillStarsModel_seenMany C uX12_findColumns_12 (by decide +kernel) dX12_findColumns_141 ?_
        refine z_iload_n C dX12_findColumns_144 rfl 1 rfl ?_
        obtain ⟨h9, hf⟩ := z_some hf
        refine z_iast C 12 mw_at_12 h9 (w' := MW t a (sA x 12 (gI x 2) v2)) mw_up_12 dX12_findColumns_145 ?_
        refine z_iconst C dX12_findColumns_146 0 rfl ?_
        refine z_istore_n C [(3, .int 0), (0, .ref (a 0)), (2, .int v2)] dX12_findColumns_147 rfl (by decide) rfl ?_
        exact z_sub [1, 2, 0] rfl (kX12_findColumns_148 E t a out C R (fX12_findColumns_119 n) (ih) 200 _ _ _ hf)
set_option maxHeartbeats 4000000 in
set_option maxRecDepth 100000 in
theorem kX12_findColumns_107 (E : zE) (t : zTy) (a : Nat → Nat) (out : ST) (C : zC E cX12_findColumns 4 RX12 wsX12_findColumns (zrm 5 114) t) (R : zRv E cX12_findColumns 4 (MW t a out)) : ∀ (x : ST), fX12_findColumns_107 x = some out → zG E 4 0 0 (MW t a x) 107 [(0, .ref (a 0))] [] := by
  intro x hf
  rw [fX12_findColumns_107] at hf
  refine z_aload_n C dX12_findColumns_107 rfl 0 rfl ?_
  refine z_iconst C dX12_findColumns_108 0 rfl ?_
  refine mp_StillStarsModel_seenMany C uX12_findColumns_12 (by decide +kernel) dX12_findColumns_109 ?_
  refine z_aload_n C dX12_findColumns_112 rfl 0 rfl ?_
  refine z_iconst C dX12_findColumns_113 0 rfl ?_
  refine mp_StillStarsModel_seenBits C uX12_findColumns_12 (by decide +kernel) dX12_findColumns_114 ?_
  refine z_iconst C dX12_findColumns_117 0 rfl ?_
  refine z_istore_n C [(2, .int 0), (0, .ref (a 0))] dX12_findColumns_118 rfl (by decide) rfl ?_
  exact z_sub [1, 0] rfl (kX12_findColumns_119 E t a out C R 200 _ _ hf)
set_option maxHeartbeats 4000000 in
set_option maxRecDepth 100000 in
theorem kX12_findColumns_25 (E : zE) (t : zTy) (a : Nat → Nat) (out : ST) (C : zC E cX12_findColumns 4 RX12 wsX12_findColumns (zrm 5 114) t) (R : zRv E cX12_findColumns 4 (MW t a out)) : ∀ (n : Nat) (v1 : Int32) (v2 : Int32) (x : ST), fX12_findColumns_25 n v1 v2 x = some out → zG E 4 0 0 (MW t a x) 25 [(0, .ref (a 0)), (1, .int v1), (2, .int v2)] [] := by
  intro n
  induction n with
  | zero =>
    intro v1 v2 x hf
    cases hf
  | succ n ih =>
    intro v1 v2 x hf
    rw [fX12_findColumns_25] at hf
    refine z_iload_n C dX12_findColumns_25 rfl 2 rfl ?_
    refine z_aload_n C dX12_findColumns_26 rfl 0 rfl ?_
    refine mg_StillStarsModel_parts C uX12_findColumns_12 (by decide +kernel) dX12_findColumns_27 ?_
    refine z_icmp_ge C 107 dX12_findColumns_30 (by decide) (fun c3 => ?_) (fun c3 => ?_)
    · replace hf := z_ift c3 hf
      exact z_sub [0] rfl (kX12_findColumns_107 E t a out C R _ hf)
    · replace hf := z_iff c3 hf
      refine z_aload_n C dX12_findColumns_33 rfl 0 rfl ?_
      refine mg_StillStarsModel_isDead C uX12_findColumns_12 (by decide +kernel) dX12_findColumns_34 ?_
      refine z_iload_n C dX12_findColumns_37 rfl 2 rfl ?_
      obtain ⟨h4, hf⟩ := z_some hf
      refine z_zald C 10 mw_at_10 h4 dX12_findColumns_38 ?_
      refine z_if_eq C 46 dX12_findColumns_39 (by decide) (fun c5 => ?_) (fun c5 => ?_)
      · replace hf := z_ift c5 hf
        refine z_iload_n C dX12_findColumns_46 rfl 2 rfl ?_
        exact z_sub [0, 2] rfl (kX12_findColumns_47 E t a out C R (fX12_findColumns_25 n) (ih) _ _ _ hf)
      · replace hf := z_iff c5 hf
        refine z_iload_n C dX12_findColumns_42 rfl 1 rfl ?_
        refine z_goto C 47 dX12_findColumns_43 (by decide) ?_
        exact z_sub [0, 2] rfl (kX12_findColumns_47 E t a out C R (fX12_findColumns_25 n) (ih) _ _ _ hf)
set_option maxHeartbeats 4000000 in
set_option maxRecDepth 100000 in
theorem kX12_findColumns_21 (E : zE) (t : zTy) (a : Nat → Nat) (out : ST) (C : zC E cX12_findColumns 4 RX12 wsX12_findColumns (zrm 5 114) t) (R : zRv E cX12_findColumns 4 (MW t a out)) : ∀ (x : ST), fX12_findColumns_21 x = some out → zG E 4 0 0 (MW t a x) 21 [(0, .ref (a 0))] [] := by
  intro x hf
  rw [fX12_findColumns_21] at hf
  refine z_iconst C dX12_findColumns_21 0 rfl ?_
  refine z_istore_n C [(1, .int 0), (0, .ref (a 0))] dX12_findColumns_22 rfl (by decide) rfl ?_
  refine z_iconst C dX12_findColumns_23 0 rfl ?_
  refine z_istore_n C [(2, .int 0), (1, .int 0), (0, .ref (a 0))] dX12_findColumns_24 rfl (by decide) rfl ?_
  exact z_sub [2, 1, 0] rfl (kX12_findColumns_25 E t a out C R 200 _ _ _ hf)
set_option maxHeartbeats 4000000 in
set_option maxRecDepth 100000 in
theorem kX12_findColumns_2 (E : zE) (t : zTy) (a : Nat → Nat) (out : ST) (C : zC E cX12_findColumns 4 RX12 wsX12_findColumns (zrm 5 114) t) (R : zRv E cX12_findColumns 4 (MW t a out)) : ∀ (n : Nat) (v1 : Int32) (x : ST), fX12_findColumns_2 n v1 x = some out → zG E 4 0 0 (MW t a x) 2 [(0, .ref (a 0)), (1, .int v1)] [] := by
  intro n
  induction n with
  | zero =>
    intro v1 x hf
    cases hf
  | succ n ih =>
    intro v1 x hf
    rw [fX12_findColumns_2] at hf
    refine z_iload_n C dX12_findColumns_2 rfl 1 rfl ?_
    refine z_bipush C dX12_findColumns_3 40 rfl ?_
    refine z_icmp_ge C 21 dX12_findColumns_5 (by decide) (fun c1 => ?_) (fun c1 => ?_)
    · replace hf := z_ift c1 hf
      exact z_sub [0] rfl (kX12_findColumns_21 E t a out C R _ hf)
    · replace hf := z_iff c1 hf
      refine z_aload_n C dX12_findColumns_8 rfl 0 rfl ?_
      refine mg_StillStarsModel_columns C uX12_findColumns_12 (by decide +kernel) dX12_findColumns_9 ?_
      refine z_iload_n C dX12_findColumns_12 rfl 1 rfl ?_
      refine z_lconst C dX12_findColumns_13 0 rfl ?_
      obtain ⟨h2, hf⟩ := z_some hf
      refine z_last C 11 mw_at_11 h2 (w' := MW t a (sB x 11 v1 0)) mw_up_11 dX12_findColumns_14 ?_
      refine z_iinc C (v1 + 1) [(1, .int (v1 + 1)), (0, .ref (a 0))] dX12_findColumns_15 1 rfl rfl (by decide) rfl ?_
      refine z_goto C 2 dX12_findColumns_18 (by decide) ?_
      exact z_sub [1, 0] rfl (ih _ _ hf)
theorem hdX12_findColumns : yX12_findColumns.cls = RX12 ∧ yX12_findColumns.cls ≠ "java/lang/invoke/MethodHandle" ∧ yX12_findColumns.cls ≠ "java/lang/invoke/VarHandle" ∧ (parseMethodDescriptor yX12_findColumns.desc).map (fun d => d.parameters.length) = some 0 := by decide +kernel
set_option maxHeartbeats 4000000 in
set_option maxRecDepth 100000 in
theorem tX12_findColumns (l : Launch) (D : va_G) (t : zTy) (a : Nat → Nat)  {x : ST} {out : ST} (hf : fX12_findColumns  x = some out) : zMv l yX12_findColumns wsX12_findColumns 5 114 D t [.ref (a 0)] (MW t a x) (MW t a out) := by
  refine z_entry_v (cc := cX12_findColumns) (nL := 4) (by decide) rfl (Nat.le_of_ble_eq_true rfl) (fun E _ _ C R => ?_)
  refine z_sub (lv' := [(0, .ref (a 0))]) [0] rfl ?_
  rw [fX12_findColumns] at hf
  refine z_iconst C dX12_findColumns_0 0 rfl ?_
  refine z_istore_n C [(1, .int 0), (0, .ref (a 0))] dX12_findColumns_1 rfl (by decide) rfl ?_
  exact z_sub [1, 0] rfl (kX12_findColumns_2 E t a out C R 200 _ _ hf)
theorem uX12_seen_12 : ∀ w ∈ wsX120, w ∈ wsX12_seen := by decide +kernel
theorem hdX12_seen : yX12_seen.cls = RX12 ∧ yX12_seen.cls ≠ "java/lang/invoke/MethodHandle" ∧ yX12_seen.cls ≠ "java/lang/invoke/VarHandle" ∧ (parseMethodDescriptor yX12_seen.desc).map (fun d => d.parameters.length) = some 0 := by decide +kernel
set_option maxHeartbeats 4000000 in
set_option maxRecDepth 100000 in
theorem tX12_seen (l : Launch) (D : va_G) (t : zTy) (a : Nat → Nat)  {x : ST} {out : Int32 × ST} (hf : fX12_seen  x = some out) : zMi l yX12_seen wsX12_seen 6 137 D t [.ref (a 0)] (MW t a x) out.1 (MW t a out.2) := by
  refine z_entry_i (cc := cX12_seen) (nL := 1) (by decide) rfl (Nat.le_of_ble_eq_true rfl) (fun E _ _ C R => ?_)
  refine z_sub (lv' := [(0, .ref (a 0))]) [0] rfl ?_
  rw [fX12_seen] at hf
  refine z_aload_n C dX12_seen_0 rfl 0 rfl ?_
  obtain ⟨q1, h2, hf⟩ := z_bind hf
  refine z_callVv C (rest := []) (tX12_findColumns (ze_l E) (ze_D E) t a h2) gX12_seen_X12_findColumns rfl hdX12_findColumns ⟨(Nat.le_of_ble_eq_true rfl), (Nat.le_of_ble_eq_true rfl)⟩ ⟨Nat.zero_le _, Nat.zero_le _⟩ 0 mw_at_0 rfl rfl rfl (Nat.le_of_ble_eq_true rfl) dX12_seen_1 ?_
  refine z_aload_n C dX12_seen_4 rfl 0 rfl ?_
  refine mg_StillStarsModel_seenBits C uX12_seen_12 (by decide +kernel) dX12_seen_5 ?_
  cases hf
  exact R _ _ dX12_seen_8
theorem uX12_findBend_12 : ∀ w ∈ wsX120, w ∈ wsX12_findBend := by decide +kernel
set_option maxHeartbeats 4000000 in
set_option maxRecDepth 100000 in
theorem kX12_findBend_73 (E : zE) (t : zTy) (a : Nat → Nat) (out : ST) (C : zC E cX12_findBend 5 RX12 wsX12_findBend (zrm 1 30) t) (R : zRv E cX12_findBend 5 (MW t a out)) (kb29 : Int32 → Int32 → ST → Option (ST)) (Kb29 : ∀ (v2 : Int32) (v3 : Int32) (x : ST), kb29 v2 v3 x = some out → zG E 5 0 0 (MW t a x) 29 [(0, .ref (a 0)), (2, .int v2), (3, .int v3)] []) : ∀ (v2 : Int32) (v3 : Int32) (x : ST), fX12_findBend_73 kb29 v2 v3 x = some out → zG E 5 0 0 (MW t a x) 73 [(0, .ref (a 0)), (2, .int v2), (3, .int v3)] [] := by
  intro v2 v3 x hf
  rw [fX12_findBend_73] at hf
  refine z_iinc C (v3 + 1) [(3, .int (v3 + 1)), (0, .ref (a 0)), (2, .int v2)] dX12_findBend_73 2 rfl rfl (by decide) rfl ?_
  refine z_goto C 29 dX12_findBend_76 (by decide) ?_
  exact z_sub [1, 2, 0] rfl (Kb29 _ _ _ hf)
set_option maxHeartbeats 4000000 in
set_option maxRecDepth 100000 in
theorem kX12_findBend_79 (E : zE) (t : zTy) (a : Nat → Nat) (out : ST) (C : zC E cX12_findBend 5 RX12 wsX12_findBend (zrm 1 30) t) (R : zRv E cX12_findBend 5 (MW t a out)) : ∀ (x : ST), fX12_findBend_79 x = some out → zG E 5 0 0 (MW t a x) 79 [(0, .ref (a 0))] [] := by
  intro x hf
  rw [fX12_findBend_79] at hf
  refine z_aload_n C dX12_findBend_79 rfl 0 rfl ?_
  refine mg_StillStarsModel_above C uX12_findBend_12 (by decide +kernel) dX12_findBend_80 ?_
  refine z_aload_n C dX12_findBend_83 rfl 0 rfl ?_
  refine mg_StillStarsModel_below C uX12_findBend_12 (by decide +kernel) dX12_findBend_84 ?_
  obtain ⟨q10, h11, hf⟩ := z_bind hf
  refine z_callSl C (rest := []) (tX12_common (ze_l E) (ze_D E) t _ h11) gX12_findBend_X12_common rfl hdX12_common ⟨(Nat.le_of_ble_eq_true rfl), (Nat.le_of_ble_eq_true rfl)⟩ ⟨Nat.zero_le _, Nat.zero_le _⟩ rfl rfl (Nat.le_of_ble_eq_true rfl) dX12_findBend_87 ?_
  refine z_lstore_n C [(3, .long q10), (0, .ref (a 0))] dX12_findBend_90 rfl (by decide) rfl ?_
  refine z_aload_n C dX12_findBend_91 rfl 1 rfl ?_
  refine z_dup C dX12_findBend_92 rfl ?_
  refine mg_StillStarsModel_above C uX12_findBend_12 (by decide +kernel) dX12_findBend_93 ?_
  refine z_lload_n C dX12_findBend_96 rfl 0 rfl ?_
  obtain ⟨h12, hf⟩ := z_div hf
  refine z_ldiv C h12 dX12_findBend_97 ?_
  refine mp_StillStarsModel_above C uX12_findBend_12 (by decide +kernel) dX12_findBend_98 ?_
  refine z_aload_n C dX12_findBend_101 rfl 1 rfl ?_
  refine z_dup C dX12_findBend_102 rfl ?_
  refine mg_StillStarsModel_below C uX12_findBend_12 (by decide +kernel) dX12_findBend_103 ?_
  refine z_lload_n C dX12_findBend_106 rfl 0 rfl ?_
  obtain ⟨h13, hf⟩ := z_div hf
  refine z_ldiv C h13 dX12_findBend_107 ?_
  refine mp_StillStarsModel_below C uX12_findBend_12 (by decide +kernel) dX12_findBend_108 ?_
  cases hf
  exact R _ _ dX12_findBend_111
set_option maxHeartbeats 4000000 in
set_option maxRecDepth 100000 in
theorem kX12_findBend_29 (E : zE) (t : zTy) (a : Nat → Nat) (out : ST) (C : zC E cX12_findBend 5 RX12 wsX12_findBend (zrm 1 30) t) (R : zRv E cX12_findBend 5 (MW t a out)) : ∀ (n : Nat) (v2 : Int32) (v3 : Int32) (x : ST), fX12_findBend_29 n v2 v3 x = some out → zG E 5 0 0 (MW t a x) 29 [(0, .ref (a 0)), (2, .int v2), (3, .int v3)] [] := by
  intro n
  induction n with
  | zero =>
    intro v2 v3 x hf
    cases hf
  | succ n ih =>
    intro v2 v3 x hf
    rw [fX12_findBend_29] at hf
    refine z_iload_n C dX12_findBend_29 rfl 2 rfl ?_
    refine z_aload_n C dX12_findBend_30 rfl 0 rfl ?_
    refine mg_StillStarsModel_seenMany C uX12_findBend_12 (by decide +kernel) dX12_findBend_31 ?_
    refine z_icmp_ge C 79 dX12_findBend_34 (by decide) (fun c3 => ?_) (fun c3 => ?_)
    · replace hf := z_ift c3 hf
      exact z_sub [0] rfl (kX12_findBend_79 E t a out C R _ hf)
    · replace hf := z_iff c3 hf
      refine z_aload_n C dX12_findBend_37 rfl 0 rfl ?_
      refine mg_StillStarsModel_seenParts C uX12_findBend_12 (by decide +kernel) dX12_findBend_38 ?_
      refine z_iload_n C dX12_findBend_41 rfl 2 rfl ?_
      obtain ⟨h4, hf⟩ := z_some hf
      refine z_iald C 12 mw_at_12 h4 dX12_findBend_42 ?_
      refine z_iload_n C dX12_findBend_43 rfl 1 rfl ?_
      refine z_icmp_ne C 73 dX12_findBend_44 (by decide) (fun c5 => ?_) (fun c5 => ?_)
      · replace hf := z_iff c5 hf
        exact z_sub [0, 1, 2] rfl (kX12_findBend_73 E t a out C R (fX12_findBend_29 n) (ih) _ _ _ hf)
      · replace hf := z_ift c5 hf
        refine z_aload_n C dX12_findBend_47 rfl 0 rfl ?_
        refine z_aload_n C dX12_findBend_48 rfl 0 rfl ?_
        refine z_aload_n C dX12_findBend_49 rfl 0 rfl ?_
        refine mg_StillStarsModel_seenMany C uX12_findBend_12 (by decide +kernel) dX12_findBend_50 ?_
        refine z_iload_n C dX12_findBend_53 rfl 2 rfl ?_
        obtain ⟨q6, h7, hf⟩ := z_bind hf
        refine z_callVl C (rest := [.ref (a 0)]) (tX12_spanOf (ze_l E) (ze_D E) t a h7) gX12_findBend_X12_spanOf rfl hdX12_spanOf ⟨(Nat.le_of_ble_eq_true rfl), (Nat.le_of_ble_eq_true rfl)⟩ ⟨Nat.zero_le _, Nat.zero_le _⟩ 0 mw_at_0 rfl rfl rfl (Nat.le_of_ble_eq_true rfl) dX12_findBend_54 ?_
        refine mp_StillStarsModel_above C uX12_findBend_12 (by decide +kernel) dX12_findBend_57 ?_
        refine z_aload_n C dX12_findBend_60 rfl 0 rfl ?_
        refine z_aload_n C dX12_findBend_61 rfl 0 rfl ?_
        refine z_aload_n C dX12_findBend_62 rfl 0 rfl ?_
        refine mg_StillStarsModel_seenMany C uX12_findBend_12 (by decide +kernel) dX12_findBend_63 ?_
        refine z_iconst C dX12_findBend_66 (-1) rfl ?_
        obtain ⟨q8, h9, hf⟩ := z_bind hf
        refine z_callVl C (rest := [.ref (a 0)]) (tX12_spanOf (ze_l E) (ze_D E) t a h9) gX12_findBend_X12_spanOf rfl hdX12_spanOf ⟨(Nat.le_of_ble_eq_true rfl), (Nat.le_of_ble_eq_true rfl)⟩ ⟨Nat.zero_le _, Nat.zero_le _⟩ 0 mw_at_0 rfl rfl rfl (Nat.le_of_ble_eq_true rfl) dX12_findBend_67 ?_
        refine mp_StillStarsModel_below C uX12_findBend_12 (by decide +kernel) dX12_findBend_70 ?_
        exact z_sub [0, 1, 2] rfl (kX12_findBend_73 E t a out C R (fX12_findBend_29 n) (ih) _ _ _ hf)
set_option maxHeartbeats 4000000 in
set_option maxRecDepth 100000 in
theorem kX12_findBend_17 (E : zE) (t : zTy) (a : Nat → Nat) (out : ST) (C : zC E cX12_findBend 5 RX12 wsX12_findBend (zrm 1 30) t) (R : zRv E cX12_findBend 5 (MW t a out)) : ∀ (v2 : Int32) (x : ST), fX12_findBend_17 v2 x = some out → zG E 5 0 0 (MW t a x) 17 [(0, .ref (a 0)), (2, .int v2)] [] := by
  intro v2 x hf
  rw [fX12_findBend_17] at hf
  refine z_aload_n C dX12_findBend_17 rfl 0 rfl ?_
  refine z_lconst C dX12_findBend_18 0 rfl ?_
  refine mp_StillStarsModel_above C uX12_findBend_12 (by decide +kernel) dX12_findBend_19 ?_
  refine z_aload_n C dX12_findBend_22 rfl 0 rfl ?_
  refine z_lconst C dX12_findBend_23 1 rfl ?_
  refine mp_StillStarsModel_below C uX12_findBend_12 (by decide +kernel) dX12_findBend_24 ?_
  refine z_iconst C dX12_findBend_27 0 rfl ?_
  refine z_istore_n C [(3, .int 0), (0, .ref (a 0)), (2, .int v2)] dX12_findBend_28 rfl (by decide) rfl ?_
  exact z_sub [1, 2, 0] rfl (kX12_findBend_29 E t a out C R 200 _ _ _ hf)
set_option maxHeartbeats 4000000 in
set_option maxRecDepth 100000 in
theorem kX12_findBend_2 (E : zE) (t : zTy) (a : Nat → Nat) (out : ST) (C : zC E cX12_findBend 5 RX12 wsX12_findBend (zrm 1 30) t) (R : zRv E cX12_findBend 5 (MW t a out)) : ∀ (n : Nat) (v2 : Int32) (x : ST), fX12_findBend_2 n v2 x = some out → zG E 5 0 0 (MW t a x) 2 [(0, .ref (a 0)), (2, .int v2)] [] := by
  intro n
  induction n with
  | zero =>
    intro v2 x hf
    cases hf
  | succ n ih =>
    intro v2 x hf
    rw [fX12_findBend_2] at hf
    refine z_aload_n C dX12_findBend_2 rfl 0 rfl ?_
    refine mg_StillStarsModel_isDead C uX12_findBend_12 (by decide +kernel) dX12_findBend_3 ?_
    refine z_iload_n C dX12_findBend_6 rfl 1 rfl ?_
    obtain ⟨h1, hf⟩ := z_some hf
    refine z_zald C 10 mw_at_10 h1 dX12_findBend_7 ?_
    refine z_if_eq C 17 dX12_findBend_8 (by decide) (fun c2 => ?_) (fun c2 => ?_)
    · replace hf := z_ift c2 hf
      exact z_sub [0, 1] rfl (kX12_findBend_17 E t a out C R _ _ hf)
    · replace hf := z_iff c2 hf
      refine z_iinc C (v2 + (-1)) [(2, .int (v2 + (-1))), (0, .ref (a 0))] dX12_findBend_11 1 rfl rfl (by decide) rfl ?_
      refine z_goto C 2 dX12_findBend_14 (by decide) ?_
      exact z_sub [1, 0] rfl (ih _ _ hf)
theorem hdX12_findBend : yX12_findBend.cls = RX12 ∧ yX12_findBend.cls ≠ "java/lang/invoke/MethodHandle" ∧ yX12_findBend.cls ≠ "java/lang/invoke/VarHandle" ∧ (parseMethodDescriptor yX12_findBend.desc).map (fun d => d.parameters.length) = some 1 := by decide +kernel
set_option maxHeartbeats 4000000 in
set_option maxRecDepth 100000 in
theorem tX12_findBend (l : Launch) (D : va_G) (t : zTy) (a : Nat → Nat) {v1 : Int32} {x : ST} {out : ST} (hf : fX12_findBend v1 x = some out) : zMv l yX12_findBend wsX12_findBend 1 30 D t [.ref (a 0), .int v1] (MW t a x) (MW t a out) := by
  refine z_entry_v (cc := cX12_findBend) (nL := 5) (by decide) rfl (Nat.le_of_ble_eq_true rfl) (fun E _ _ C R => ?_)
  refine z_sub (lv' := [(0, .ref (a 0)), (1, .int v1)]) [0, 1] rfl ?_
  rw [fX12_findBend] at hf
  refine z_iload_n C dX12_findBend_0 rfl 1 rfl ?_
  refine z_istore_n C [(2, .int v1), (0, .ref (a 0)), (1, .int v1)] dX12_findBend_1 rfl (by decide) rfl ?_
  exact z_sub [1, 0] rfl (kX12_findBend_2 E t a out C R 200 _ _ hf)
theorem uX12_bend_12 : ∀ w ∈ wsX120, w ∈ wsX12_bend := by decide +kernel
theorem hdX12_bend : yX12_bend.cls = RX12 ∧ yX12_bend.cls ≠ "java/lang/invoke/MethodHandle" ∧ yX12_bend.cls ≠ "java/lang/invoke/VarHandle" ∧ (parseMethodDescriptor yX12_bend.desc).map (fun d => d.parameters.length) = some 2 := by decide +kernel
set_option maxHeartbeats 4000000 in
set_option maxRecDepth 100000 in
theorem tX12_bend (l : Launch) (D : va_G) (t : zTy) (a : Nat → Nat) {v1 : Int32} {v2 : Int32} {x : ST} {out : Int64 × ST} (hf : fX12_bend v1 v2 x = some out) : zMl l yX12_bend wsX12_bend 6 137 D t [.ref (a 0), .int v1, .int v2] (MW t a x) out.1 (MW t a out.2) := by
  refine z_entry_l (cc := cX12_bend) (nL := 3) (by decide) rfl (Nat.le_of_ble_eq_true rfl) (fun E _ _ C R => ?_)
  refine z_sub (lv' := [(0, .ref (a 0)), (1, .int v1), (2, .int v2)]) [0, 1, 2] rfl ?_
  rw [fX12_bend] at hf
  refine z_aload_n C dX12_bend_0 rfl 0 rfl ?_
  refine z_iload_n C dX12_bend_1 rfl 1 rfl ?_
  obtain ⟨q1, h2, hf⟩ := z_bind hf
  refine z_callVi C (rest := []) (tX12_isPart (ze_l E) (ze_D E) t a h2) gX12_bend_X12_isPart rfl hdX12_isPart ⟨(Nat.le_of_ble_eq_true rfl), (Nat.le_of_ble_eq_true rfl)⟩ ⟨Nat.zero_le _, Nat.zero_le _⟩ 0 mw_at_0 rfl rfl rfl (Nat.le_of_ble_eq_true rfl) dX12_bend_2 ?_
  refine z_if_eq C 18 dX12_bend_5 (by decide) (fun c3 => ?_) (fun c3 => ?_)
  · replace hf := z_ift c3 hf
    refine z_ldc2 C (-4611686018427387905) (by decide +kernel) dX12_bend_18 ?_
    cases hf
    exact R _ _ dX12_bend_21
  · replace hf := z_iff c3 hf
    refine z_iload_n C dX12_bend_8 rfl 2 rfl ?_
    refine z_i2l C dX12_bend_9 ?_
    refine z_lconst C dX12_bend_10 0 rfl ?_
    refine z_lconst C dX12_bend_11 1 rfl ?_
    obtain ⟨q4, h5, hf⟩ := z_bind hf
    refine z_callSi C (rest := []) (tX12_in (ze_l E) (ze_D E) t _ h5) gX12_bend_X12_in rfl hdX12_in ⟨(Nat.le_of_ble_eq_true rfl), (Nat.le_of_ble_eq_true rfl)⟩ ⟨Nat.zero_le _, Nat.zero_le _⟩ rfl rfl (Nat.le_of_ble_eq_true rfl) dX12_bend_12 ?_
    refine z_if_ne C 22 dX12_bend_15 (by decide) (fun c6 => ?_) (fun c6 => ?_)
    · replace hf := z_iff c6 hf
      refine z_aload_n C dX12_bend_22 rfl 0 rfl ?_
      obtain ⟨q7, h8, hf⟩ := z_bind hf
      refine z_callVv C (rest := []) (tX12_findColumns (ze_l E) (ze_D E) t a h8) gX12_bend_X12_findColumns rfl hdX12_findColumns ⟨(Nat.le_of_ble_eq_true rfl), (Nat.le_of_ble_eq_true rfl)⟩ ⟨Nat.zero_le _, Nat.zero_le _⟩ 0 mw_at_0 rfl rfl rfl (Nat.le_of_ble_eq_true rfl) dX12_bend_23 ?_
      refine z_aload_n C dX12_bend_26 rfl 0 rfl ?_
      refine z_iload_n C dX12_bend_27 rfl 1 rfl ?_
      obtain ⟨q9, h10, hf⟩ := z_bind hf
      refine z_callVv C (rest := []) (tX12_findBend (ze_l E) (ze_D E) t a h10) gX12_bend_X12_findBend rfl hdX12_findBend ⟨(Nat.le_of_ble_eq_true rfl), (Nat.le_of_ble_eq_true rfl)⟩ ⟨Nat.zero_le _, Nat.zero_le _⟩ 0 mw_at_0 rfl rfl rfl (Nat.le_of_ble_eq_true rfl) dX12_bend_28 ?_
      refine z_iload_n C dX12_bend_31 rfl 2 rfl ?_
      refine z_if_ne C 42 dX12_bend_32 (by decide) (fun c11 => ?_) (fun c11 => ?_)
      · replace hf := z_iff c11 hf
        refine z_aload_n C dX12_bend_42 rfl 0 rfl ?_
        refine mg_StillStarsModel_below C uX12_bend_12 (by decide +kernel) dX12_bend_43 ?_
        cases hf
        exact R _ _ dX12_bend_46
      · replace hf := z_ift c11 hf
        refine z_aload_n C dX12_bend_35 rfl 0 rfl ?_
        refine mg_StillStarsModel_above C uX12_bend_12 (by decide +kernel) dX12_bend_36 ?_
        refine z_goto C 46 dX12_bend_39 (by decide) ?_
        cases hf
        exact R _ _ dX12_bend_46
    · replace hf := z_ift c6 hf
      refine z_ldc2 C (-4611686018427387905) (by decide +kernel) dX12_bend_18 ?_
      cases hf
      exact R _ _ dX12_bend_21
theorem uX12_findWholes_12 : ∀ w ∈ wsX120, w ∈ wsX12_findWholes := by decide +kernel
set_option maxHeartbeats 4000000 in
set_option maxRecDepth 100000 in
theorem kX12_findWholes_117 (E : zE) (t : zTy) (a : Nat → Nat) (out : ST) (C : zC E cX12_findWholes 6 RX12 wsX12_findWholes (zrm 6 137) t) (R : zRv E cX12_findWholes 6 (MW t a out)) (kb6 : Int32 → ST → Option (ST)) (Kb6 : ∀ (v1 : Int32) (x : ST), kb6 v1 x = some out → zG E 6 0 0 (MW t a x) 6 [(0, .ref (a 0)), (1, .int v1)] []) : ∀ (v1 : Int32) (s0 : Int64) (s1 : Int32) (x : ST), fX12_findWholes_117 kb6 v1 s0 s1 x = some out → zG E 6 0 0 (MW t a x) 117 [(0, .ref (a 0)), (1, .int v1)] [.long s0, .int s1, .ref (a 15)] := by
  intro v1 s0 s1 x hf
  rw [fX12_findWholes_117] at hf
  refine z_l2i C dX12_findWholes_117 ?_
  obtain ⟨h13, hf⟩ := z_some hf
  refine z_iast C 15 mw_at_15 h13 (w' := MW t a (sA x 15 s1 s0.toInt32)) mw_up_15 dX12_findWholes_118 ?_
  refine z_iinc C (v1 + 1) [(1, .int (v1 + 1)), (0, .ref (a 0))] dX12_findWholes_119 1 rfl rfl (by decide) rfl ?_
  refine z_goto C 6 dX12_findWholes_122 (by decide) ?_
  exact z_sub [1, 0] rfl (Kb6 _ _ hf)
set_option maxHeartbeats 4000000 in
set_option maxRecDepth 100000 in
theorem kX12_findWholes_93 (E : zE) (t : zTy) (a : Nat → Nat) (out : ST) (C : zC E cX12_findWholes 6 RX12 wsX12_findWholes (zrm 6 137) t) (R : zRv E cX12_findWholes 6 (MW t a out)) (kb6 : Int32 → ST → Option (ST)) (Kb6 : ∀ (v1 : Int32) (x : ST), kb6 v1 x = some out → zG E 6 0 0 (MW t a x) 6 [(0, .ref (a 0)), (1, .int v1)] []) : ∀ (v1 : Int32) (s0 : Int64) (x : ST), fX12_findWholes_93 kb6 v1 s0 x = some out → zG E 6 0 0 (MW t a x) 93 [(0, .ref (a 0)), (1, .int v1)] [.long s0] := by
  intro v1 s0 x hf
  rw [fX12_findWholes_93] at hf
  refine z_lstore C [(4, .long s0), (0, .ref (a 0)), (1, .int v1)] dX12_findWholes_93 (by decide) rfl ?_
  refine z_aload_n C dX12_findWholes_95 rfl 1 rfl ?_
  refine mg_StillStarsModel_wholes C uX12_findWholes_12 (by decide +kernel) dX12_findWholes_96 ?_
  refine z_iload_n C dX12_findWholes_99 rfl 2 rfl ?_
  refine z_aload_n C dX12_findWholes_100 rfl 1 rfl ?_
  refine mg_StillStarsModel_above C uX12_findWholes_12 (by decide +kernel) dX12_findWholes_101 ?_
  refine z_lconst C dX12_findWholes_104 0 rfl ?_
  refine z_lcmp_ge C 115 dX12_findWholes_105 dX12_findWholes_106 (by decide) (fun c12 => ?_) (fun c12 => ?_)
  · replace hf := z_ift c12 hf
    refine z_lload C dX12_findWholes_115 0 rfl ?_
    exact z_sub [1, 2] rfl (kX12_findWholes_117 E t a out C R (kb6) (Kb6) _ _ _ _ hf)
  · replace hf := z_iff c12 hf
    refine z_lload C dX12_findWholes_109 0 rfl ?_
    refine z_lneg C dX12_findWholes_111 ?_
    refine z_goto C 117 dX12_findWholes_112 (by decide) ?_
    exact z_sub [1, 2] rfl (kX12_findWholes_117 E t a out C R (kb6) (Kb6) _ _ _ _ hf)
set_option maxHeartbeats 4000000 in
set_option maxRecDepth 100000 in
theorem kX12_findWholes_73 (E : zE) (t : zTy) (a : Nat → Nat) (out : ST) (C : zC E cX12_findWholes 6 RX12 wsX12_findWholes (zrm 6 137) t) (R : zRv E cX12_findWholes 6 (MW t a out)) (kb6 : Int32 → ST → Option (ST)) (Kb6 : ∀ (v1 : Int32) (x : ST), kb6 v1 x = some out → zG E 6 0 0 (MW t a x) 6 [(0, .ref (a 0)), (1, .int v1)] []) : ∀ (v1 : Int32) (s0 : Int64) (s1 : Int64) (x : ST), fX12_findWholes_73 kb6 v1 s0 s1 x = some out → zG E 6 0 0 (MW t a x) 73 [(0, .ref (a 0)), (1, .int v1)] [.long s0, .long s1] := by
  intro v1 s0 s1 x hf
  rw [fX12_findWholes_73] at hf
  refine z_ladd C dX12_findWholes_73 ?_
  refine z_lstore C [(4, .long (s1 + s0)), (0, .ref (a 0)), (1, .int v1)] dX12_findWholes_74 (by decide) rfl ?_
  refine z_lload C dX12_findWholes_76 0 rfl ?_
  refine z_ldc2 C 9999 (by decide +kernel) dX12_findWholes_78 ?_
  refine z_lcmp_le C 91 dX12_findWholes_81 dX12_findWholes_82 (by decide) (fun c11 => ?_) (fun c11 => ?_)
  · replace hf := z_ift c11 hf
    refine z_lload C dX12_findWholes_91 0 rfl ?_
    exact z_sub [1, 2] rfl (kX12_findWholes_93 E t a out C R (kb6) (Kb6) _ _ _ hf)
  · replace hf := z_iff c11 hf
    refine z_ldc2 C 9999 (by decide +kernel) dX12_findWholes_85 ?_
    refine z_goto C 93 dX12_findWholes_88 (by decide) ?_
    exact z_sub [1, 2] rfl (kX12_findWholes_93 E t a out C R (kb6) (Kb6) _ _ _ hf)
set_option maxHeartbeats 4000000 in
set_option maxRecDepth 100000 in
theorem kX12_findWholes_40 (E : zE) (t : zTy) (a : Nat → Nat) (out : ST) (C : zC E cX12_findWholes 6 RX12 wsX12_findWholes (zrm 6 137) t) (R : zRv E cX12_findWholes 6 (MW t a out)) (kb6 : Int32 → ST → Option (ST)) (Kb6 : ∀ (v1 : Int32) (x : ST), kb6 v1 x = some out → zG E 6 0 0 (MW t a x) 6 [(0, .ref (a 0)), (1, .int v1)] []) : ∀ (v1 : Int32) (s0 : Int64) (x : ST), fX12_findWholes_40 kb6 v1 s0 x = some out → zG E 6 0 0 (MW t a x) 40 [(0, .ref (a 0)), (1, .int v1)] [.long s0] := by
  intro v1 s0 x hf
  rw [fX12_findWholes_40] at hf
  refine z_lstore_n C [(2, .long s0), (0, .ref (a 0)), (1, .int v1)] dX12_findWholes_40 rfl (by decide) rfl ?_
  refine z_lload_n C dX12_findWholes_41 rfl 0 rfl ?_
  refine z_aload_n C dX12_findWholes_42 rfl 1 rfl ?_
  refine mg_StillStarsModel_below C uX12_findWholes_12 (by decide +kernel) dX12_findWholes_43 ?_
  obtain ⟨h7, hf⟩ := z_div hf
  refine z_ldiv C h7 dX12_findWholes_46 ?_
  refine z_lload_n C dX12_findWholes_47 rfl 0 rfl ?_
  refine z_aload_n C dX12_findWholes_48 rfl 1 rfl ?_
  refine mg_StillStarsModel_below C uX12_findWholes_12 (by decide +kernel) dX12_findWholes_49 ?_
  obtain ⟨h8, hf⟩ := z_div hf
  refine z_lrem C h8 dX12_findWholes_52 ?_
  refine z_aload_n C dX12_findWholes_53 rfl 1 rfl ?_
  refine mg_StillStarsModel_below C uX12_findWholes_12 (by decide +kernel) dX12_findWholes_54 ?_
  refine z_lload_n C dX12_findWholes_57 rfl 0 rfl ?_
  refine z_aload_n C dX12_findWholes_58 rfl 1 rfl ?_
  refine mg_StillStarsModel_below C uX12_findWholes_12 (by decide +kernel) dX12_findWholes_59 ?_
  obtain ⟨h9, hf⟩ := z_div hf
  refine z_lrem C h9 dX12_findWholes_62 ?_
  refine z_lsub C dX12_findWholes_63 ?_
  refine z_lcmp_lt C 72 dX12_findWholes_64 dX12_findWholes_65 (by decide) (fun c10 => ?_) (fun c10 => ?_)
  · replace hf := z_ift c10 hf
    refine z_lconst C dX12_findWholes_72 0 rfl ?_
    exact z_sub [1, 2] rfl (kX12_findWholes_73 E t a out C R (kb6) (Kb6) _ _ _ _ hf)
  · replace hf := z_iff c10 hf
    refine z_lconst C dX12_findWholes_68 1 rfl ?_
    refine z_goto C 73 dX12_findWholes_69 (by decide) ?_
    exact z_sub [1, 2] rfl (kX12_findWholes_73 E t a out C R (kb6) (Kb6) _ _ _ _ hf)
set_option maxHeartbeats 4000000 in
set_option maxRecDepth 100000 in
theorem kX12_findWholes_6 (E : zE) (t : zTy) (a : Nat → Nat) (out : ST) (C : zC E cX12_findWholes 6 RX12 wsX12_findWholes (zrm 6 137) t) (R : zRv E cX12_findWholes 6 (MW t a out)) : ∀ (n : Nat) (v1 : Int32) (x : ST), fX12_findWholes_6 n v1 x = some out → zG E 6 0 0 (MW t a x) 6 [(0, .ref (a 0)), (1, .int v1)] [] := by
  intro n
  induction n with
  | zero =>
    intro v1 x hf
    cases hf
  | succ n ih =>
    intro v1 x hf
    rw [fX12_findWholes_6] at hf
    refine z_iload_n C dX12_findWholes_6 rfl 1 rfl ?_
    refine z_aload_n C dX12_findWholes_7 rfl 0 rfl ?_
    refine mg_StillStarsModel_parts C uX12_findWholes_12 (by decide +kernel) dX12_findWholes_8 ?_
    refine z_icmp_ge C 125 dX12_findWholes_11 (by decide) (fun c3 => ?_) (fun c3 => ?_)
    · replace hf := z_ift c3 hf
      cases hf
      exact R _ _ dX12_findWholes_125
    · replace hf := z_iff c3 hf
      refine z_aload_n C dX12_findWholes_14 rfl 0 rfl ?_
      refine z_iload_n C dX12_findWholes_15 rfl 1 rfl ?_
      obtain ⟨q4, h5, hf⟩ := z_bind hf
      refine z_callVv C (rest := []) (tX12_findBend (ze_l E) (ze_D E) t a h5) gX12_findWholes_X12_findBend rfl hdX12_findBend ⟨(Nat.le_of_ble_eq_true rfl), (Nat.le_of_ble_eq_true rfl)⟩ ⟨Nat.zero_le _, Nat.zero_le _⟩ 0 mw_at_0 rfl rfl rfl (Nat.le_of_ble_eq_true rfl) dX12_findWholes_16 ?_
      refine z_aload_n C dX12_findWholes_19 rfl 0 rfl ?_
      refine mg_StillStarsModel_above C uX12_findWholes_12 (by decide +kernel) dX12_findWholes_20 ?_
      refine z_lconst C dX12_findWholes_23 0 rfl ?_
      refine z_lcmp_ge C 36 dX12_findWholes_24 dX12_findWholes_25 (by decide) (fun c6 => ?_) (fun c6 => ?_)
      · replace hf := z_ift c6 hf
        refine z_aload_n C dX12_findWholes_36 rfl 0 rfl ?_
        refine mg_StillStarsModel_above C uX12_findWholes_12 (by decide +kernel) dX12_findWholes_37 ?_
        exact z_sub [0, 1] rfl (kX12_findWholes_40 E t a out C R (fX12_findWholes_6 n) (ih) _ _ _ hf)
      · replace hf := z_iff c6 hf
        refine z_aload_n C dX12_findWholes_28 rfl 0 rfl ?_
        refine mg_StillStarsModel_above C uX12_findWholes_12 (by decide +kernel) dX12_findWholes_29 ?_
        refine z_lneg C dX12_findWholes_32 ?_
        refine z_goto C 40 dX12_findWholes_33 (by decide) ?_
        exact z_sub [0, 1] rfl (kX12_findWholes_40 E t a out C R (fX12_findWholes_6 n) (ih) _ _ _ hf)
theorem hdX12_findWholes : yX12_findWholes.cls = RX12 ∧ yX12_findWholes.cls ≠ "java/lang/invoke/MethodHandle" ∧ yX12_findWholes.cls ≠ "java/lang/invoke/VarHandle" ∧ (parseMethodDescriptor yX12_findWholes.desc).map (fun d => d.parameters.length) = some 0 := by decide +kernel
set_option maxHeartbeats 4000000 in
set_option maxRecDepth 100000 in
theorem tX12_findWholes (l : Launch) (D : va_G) (t : zTy) (a : Nat → Nat)  {x : ST} {out : ST} (hf : fX12_findWholes  x = some out) : zMv l yX12_findWholes wsX12_findWholes 6 137 D t [.ref (a 0)] (MW t a x) (MW t a out) := by
  refine z_entry_v (cc := cX12_findWholes) (nL := 6) (by decide) rfl (Nat.le_of_ble_eq_true rfl) (fun E _ _ C R => ?_)
  refine z_sub (lv' := [(0, .ref (a 0))]) [0] rfl ?_
  rw [fX12_findWholes] at hf
  refine z_aload_n C dX12_findWholes_0 rfl 0 rfl ?_
  obtain ⟨q1, h2, hf⟩ := z_bind hf
  refine z_callVv C (rest := []) (tX12_findColumns (ze_l E) (ze_D E) t a h2) gX12_findWholes_X12_findColumns rfl hdX12_findColumns ⟨(Nat.le_of_ble_eq_true rfl), (Nat.le_of_ble_eq_true rfl)⟩ ⟨Nat.zero_le _, Nat.zero_le _⟩ 0 mw_at_0 rfl rfl rfl (Nat.le_of_ble_eq_true rfl) dX12_findWholes_1 ?_
  refine z_iconst C dX12_findWholes_4 0 rfl ?_
  refine z_istore_n C [(1, .int 0), (0, .ref (a 0))] dX12_findWholes_5 rfl (by decide) rfl ?_
  exact z_sub [1, 0] rfl (kX12_findWholes_6 E t a out C R 200 _ _ hf)
theorem uX12_whole_12 : ∀ w ∈ wsX120, w ∈ wsX12_whole := by decide +kernel
theorem hdX12_whole : yX12_whole.cls = RX12 ∧ yX12_whole.cls ≠ "java/lang/invoke/MethodHandle" ∧ yX12_whole.cls ≠ "java/lang/invoke/VarHandle" ∧ (parseMethodDescriptor yX12_whole.desc).map (fun d => d.parameters.length) = some 1 := by decide +kernel
set_option maxHeartbeats 4000000 in
set_option maxRecDepth 100000 in
theorem tX12_whole (l : Launch) (D : va_G) (t : zTy) (a : Nat → Nat) {v1 : Int32} {x : ST} {out : Int32 × ST} (hf : fX12_whole v1 x = some out) : zMi l yX12_whole wsX12_whole 7 162 D t [.ref (a 0), .int v1] (MW t a x) out.1 (MW t a out.2) := by
  refine z_entry_i (cc := cX12_whole) (nL := 2) (by decide) rfl (Nat.le_of_ble_eq_true rfl) (fun E _ _ C R => ?_)
  refine z_sub (lv' := [(0, .ref (a 0)), (1, .int v1)]) [0, 1] rfl ?_
  rw [fX12_whole] at hf
  refine z_aload_n C dX12_whole_0 rfl 0 rfl ?_
  refine z_iload_n C dX12_whole_1 rfl 1 rfl ?_
  obtain ⟨q1, h2, hf⟩ := z_bind hf
  refine z_callVi C (rest := []) (tX12_isPart (ze_l E) (ze_D E) t a h2) gX12_whole_X12_isPart rfl hdX12_isPart ⟨(Nat.le_of_ble_eq_true rfl), (Nat.le_of_ble_eq_true rfl)⟩ ⟨Nat.zero_le _, Nat.zero_le _⟩ 0 mw_at_0 rfl rfl rfl (Nat.le_of_ble_eq_true rfl) dX12_whole_2 ?_
  refine z_if_ne C 12 dX12_whole_5 (by decide) (fun c3 => ?_) (fun c3 => ?_)
  · replace hf := z_iff c3 hf
    refine z_aload_n C dX12_whole_12 rfl 0 rfl ?_
    obtain ⟨q4, h5, hf⟩ := z_bind hf
    refine z_callVv C (rest := []) (tX12_findWholes (ze_l E) (ze_D E) t a h5) gX12_whole_X12_findWholes rfl hdX12_findWholes ⟨(Nat.le_of_ble_eq_true rfl), (Nat.le_of_ble_eq_true rfl)⟩ ⟨Nat.zero_le _, Nat.zero_le _⟩ 0 mw_at_0 rfl rfl rfl (Nat.le_of_ble_eq_true rfl) dX12_whole_13 ?_
    refine z_aload_n C dX12_whole_16 rfl 0 rfl ?_
    refine mg_StillStarsModel_wholes C uX12_whole_12 (by decide +kernel) dX12_whole_17 ?_
    refine z_iload_n C dX12_whole_20 rfl 1 rfl ?_
    obtain ⟨h6, hf⟩ := z_some hf
    refine z_iald C 15 mw_at_15 h6 dX12_whole_21 ?_
    cases hf
    exact R _ _ dX12_whole_22
  · replace hf := z_ift c3 hf
    refine z_sipush C dX12_whole_8 (-10001) rfl ?_
    cases hf
    exact R _ _ dX12_whole_11
theorem uX12_isBeside_12 : ∀ w ∈ wsX120, w ∈ wsX12_isBeside := by decide +kernel
theorem hdX12_isBeside : yX12_isBeside.cls = RX12 ∧ yX12_isBeside.cls ≠ "java/lang/invoke/MethodHandle" ∧ yX12_isBeside.cls ≠ "java/lang/invoke/VarHandle" ∧ (parseMethodDescriptor yX12_isBeside.desc).map (fun d => d.parameters.length) = some 3 := by decide +kernel
set_option maxHeartbeats 4000000 in
set_option maxRecDepth 100000 in
theorem tX12_isBeside (l : Launch) (D : va_G) (t : zTy) (a : Nat → Nat) {v1 : Int32} {v2 : Int32} {v3 : Int32} {x : ST} {out : Int32 × ST} (hf : fX12_isBeside v1 v2 v3 x = some out) : zMi l yX12_isBeside wsX12_isBeside 1 25 D t [.ref (a 0), .int v1, .int v2, .int v3] (MW t a x) out.1 (MW t a out.2) := by
  refine z_entry_z (cc := cX12_isBeside) (nL := 4) (by decide) rfl (Nat.le_of_ble_eq_true rfl) (fun E _ _ C R => ?_)
  refine z_sub (lv' := [(0, .ref (a 0)), (1, .int v1), (2, .int v2), (3, .int v3)]) [0, 1, 2, 3] rfl ?_
  rw [fX12_isBeside] at hf
  refine z_aload_n C dX12_isBeside_0 rfl 0 rfl ?_
  refine mg_StillStarsModel_isDead C uX12_isBeside_12 (by decide +kernel) dX12_isBeside_1 ?_
  refine z_iload_n C dX12_isBeside_4 rfl 1 rfl ?_
  obtain ⟨h1, hf⟩ := z_some hf
  refine z_zald C 10 mw_at_10 h1 dX12_isBeside_5 ?_
  refine z_if_eq C 22 dX12_isBeside_6 (by decide) (fun c2 => ?_) (fun c2 => ?_)
  · replace hf := z_ift c2 hf
    refine z_iload_n C dX12_isBeside_22 rfl 2 rfl ?_
    refine z_iload_n C dX12_isBeside_23 rfl 3 rfl ?_
    refine z_isub C dX12_isBeside_24 ?_
    refine z_i2l C dX12_isBeside_25 ?_
    refine z_aload_n C dX12_isBeside_26 rfl 0 rfl ?_
    refine mg_StillStarsModel_sets C uX12_isBeside_12 (by decide +kernel) dX12_isBeside_27 ?_
    refine z_iconst C dX12_isBeside_30 5 rfl ?_
    obtain ⟨h3, hf⟩ := z_some hf
    refine z_iald C 4 mw_at_4 h3 dX12_isBeside_31 ?_
    refine z_ineg C dX12_isBeside_32 ?_
    refine z_i2l C dX12_isBeside_33 ?_
    refine z_aload_n C dX12_isBeside_34 rfl 0 rfl ?_
    refine mg_StillStarsModel_sets C uX12_isBeside_12 (by decide +kernel) dX12_isBeside_35 ?_
    refine z_iconst C dX12_isBeside_38 5 rfl ?_
    obtain ⟨h4, hf⟩ := z_some hf
    refine z_iald C 4 mw_at_4 h4 dX12_isBeside_39 ?_
    refine z_i2l C dX12_isBeside_40 ?_
    obtain ⟨q5, h6, hf⟩ := z_bind hf
    refine z_callSi C (rest := []) (tX12_in (ze_l E) (ze_D E) t _ h6) gX12_isBeside_X12_in rfl hdX12_in ⟨(Nat.le_of_ble_eq_true rfl), (Nat.le_of_ble_eq_true rfl)⟩ ⟨Nat.zero_le _, Nat.zero_le _⟩ rfl rfl (Nat.le_of_ble_eq_true rfl) dX12_isBeside_41 ?_
    obtain ⟨h7, hf⟩ := z_some hf
    cases hf
    exact R _ _ dX12_isBeside_44 h7
  · replace hf := z_iff c2 hf
    refine z_iload_n C dX12_isBeside_9 rfl 2 rfl ?_
    refine z_iload_n C dX12_isBeside_10 rfl 3 rfl ?_
    refine z_icmp_ne C 18 dX12_isBeside_11 (by decide) (fun c8 => ?_) (fun c8 => ?_)
    · replace hf := z_iff c8 hf
      refine z_iconst C dX12_isBeside_18 0 rfl ?_
      refine z_goto C 44 dX12_isBeside_19 (by decide) ?_
      obtain ⟨h9, hf⟩ := z_some hf
      cases hf
      exact R _ _ dX12_isBeside_44 h9
    · replace hf := z_ift c8 hf
      refine z_iconst C dX12_isBeside_14 1 rfl ?_
      refine z_goto C 44 dX12_isBeside_15 (by decide) ?_
      obtain ⟨h10, hf⟩ := z_some hf
      cases hf
      exact R _ _ dX12_isBeside_44 h10

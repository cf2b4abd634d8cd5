theorem uX8_refusal_8 : ∀ w ∈ wsX80, w ∈ wsX8_refusal := by decide +kernel
set_option maxHeartbeats 4000000 in
set_option maxRecDepth 100000 in
theorem kX8_refusal_57 (E : zE) (t : zTy) (a : Nat → Nat) (out : Int32 × ST) (C : zC E cX8_refusal 5 RX8 wsX8_refusal (zrm 2 42) t) (R : zRi E cX8_refusal 5 out.1 (CW t a out.2)) : ∀ (x : ST), fX8_refusal_57 x = some out → zG E 5 0 0 (CW t a x) 57 [] [] := by
  intro x hf
  rw [fX8_refusal_57] at hf
  refine z_bipush C dX8_refusal_57 (-13) rfl ?_
  refine z_goto C 63 dX8_refusal_59 (by decide) ?_
  cases hf
  exact R _ _ dX8_refusal_63
theorem hdX8_refusal : yX8_refusal.cls = RX8 ∧ yX8_refusal.cls ≠ "java/lang/invoke/MethodHandle" ∧ yX8_refusal.cls ≠ "java/lang/invoke/VarHandle" ∧ (parseMethodDescriptor yX8_refusal.desc).map (fun d => d.parameters.length) = some 4 := by decide +kernel
set_option maxHeartbeats 4000000 in
set_option maxRecDepth 100000 in
theorem tX8_refusal (l : Launch) (D : va_G) (t : zTy) (a : Nat → Nat) {v1 : Int32} {v2 : Int32} {v3 : Int32} {v4 : Int32} {x : ST} {out : Int32 × ST} (hf : fX8_refusal v1 v2 v3 v4 x = some out) : zMi l yX8_refusal wsX8_refusal 2 42 D t [.ref (a 9), .int v1, .int v2, .int v3, .int v4] (CW t a x) out.1 (CW t a out.2) := by
  refine z_entry_i (cc := cX8_refusal) (nL := 5) (by decide) rfl (Nat.le_of_ble_eq_true rfl) (fun E _ _ C R => ?_)
  refine z_sub (lv' := [(0, .ref (a 9)), (1, .int v1), (2, .int v2), (3, .int v3), (4, .int v4)]) [0, 1, 2, 3, 4] rfl ?_
  rw [fX8_refusal] at hf
  refine z_iload_n C dX8_refusal_0 rfl 1 rfl ?_
  obtain ⟨q1, h2, hf⟩ := z_bind hf
  refine z_callNi C (rest := []) (tX11_isSheet (ze_l E) (ze_D E) t _ h2) gX8_refusal_X11_isSheet_n21 (host := RX11) (by decide +kernel) (by decide +kernel) (by decide +kernel) rfl hdX11_isSheet ⟨(Nat.le_of_ble_eq_true rfl), (Nat.le_of_ble_eq_true rfl)⟩ ⟨Nat.zero_le _, Nat.zero_le _⟩ rfl rfl (Nat.le_of_ble_eq_true rfl) dX8_refusal_1 ?_
  refine z_if_eq C 14 dX8_refusal_4 (by decide) (fun c3 => ?_) (fun c3 => ?_)
  · replace hf := z_ift c3 hf
    refine z_iconst C dX8_refusal_14 (-1) rfl ?_
    cases hf
    exact R _ _ dX8_refusal_15
  · replace hf := z_iff c3 hf
    refine z_iload_n C dX8_refusal_7 rfl 2 rfl ?_
    obtain ⟨q4, h5, hf⟩ := z_bind hf
    refine z_callNi C (rest := []) (tX11_isLane (ze_l E) (ze_D E) t _ h5) gX8_refusal_X11_isLane_n25 (host := RX11) (by decide +kernel) (by decide +kernel) (by decide +kernel) rfl hdX11_isLane ⟨(Nat.le_of_ble_eq_true rfl), (Nat.le_of_ble_eq_true rfl)⟩ ⟨Nat.zero_le _, Nat.zero_le _⟩ rfl rfl (Nat.le_of_ble_eq_true rfl) dX8_refusal_8 ?_
    refine z_if_ne C 16 dX8_refusal_11 (by decide) (fun c6 => ?_) (fun c6 => ?_)
    · replace hf := z_iff c6 hf
      refine z_aload_n C dX8_refusal_16 rfl 0 rfl ?_
      refine z_iload_n C dX8_refusal_17 rfl 1 rfl ?_
      obtain ⟨q7, h8, hf⟩ := z_bind hf
      refine z_callVi C (rest := []) (tX8_holds (ze_l E) (ze_D E) t a h8) gX8_refusal_X8_holds rfl hdX8_holds ⟨(Nat.le_of_ble_eq_true rfl), (Nat.le_of_ble_eq_true rfl)⟩ ⟨Nat.zero_le _, Nat.zero_le _⟩ 9 cw_at_9 rfl rfl rfl (Nat.le_of_ble_eq_true rfl) dX8_refusal_18 ?_
      refine z_if_ne C 27 dX8_refusal_21 (by decide) (fun c9 => ?_) (fun c9 => ?_)
      · replace hf := z_iff c9 hf
        refine z_aload_n C dX8_refusal_27 rfl 0 rfl ?_
        refine cg_Sheets_lanes C uX8_refusal_8 (by decide +kernel) dX8_refusal_28 ?_
        refine z_iload_n C dX8_refusal_31 rfl 1 rfl ?_
        obtain ⟨h10, hf⟩ := z_some hf
        refine z_iald C 33 cw_at_33 h10 dX8_refusal_32 ?_
        refine z_iload_n C dX8_refusal_33 rfl 2 rfl ?_
        refine z_icmp_eq C 40 dX8_refusal_34 (by decide) (fun c11 => ?_) (fun c11 => ?_)
        · replace hf := z_ift c11 hf
          refine z_iload_n C dX8_refusal_40 rfl 3 rfl ?_
          refine z_if_lt C 57 dX8_refusal_41 (by decide) (fun c12 => ?_) (fun c12 => ?_)
          · replace hf := z_ift c12 hf
            exact z_sub [] rfl (kX8_refusal_57 E t a out C R _ hf)
          · replace hf := z_iff c12 hf
            refine z_iload_n C dX8_refusal_44 rfl 3 rfl ?_
            refine z_aload_n C dX8_refusal_45 rfl 0 rfl ?_
            refine cg_Sheets_lengths C uX8_refusal_8 (by decide +kernel) dX8_refusal_46 ?_
            refine z_iload_n C dX8_refusal_49 rfl 1 rfl ?_
            obtain ⟨h13, hf⟩ := z_some hf
            refine z_iald C 34 cw_at_34 h13 dX8_refusal_50 ?_
            refine z_iload C dX8_refusal_51 4 rfl ?_
            refine z_isub C dX8_refusal_53 ?_
            refine z_icmp_le C 62 dX8_refusal_54 (by decide) (fun c14 => ?_) (fun c14 => ?_)
            · replace hf := z_ift c14 hf
              refine z_iconst C dX8_refusal_62 0 rfl ?_
              cases hf
              exact R _ _ dX8_refusal_63
            · replace hf := z_iff c14 hf
              exact z_sub [] rfl (kX8_refusal_57 E t a out C R _ hf)
        · replace hf := z_iff c11 hf
          refine z_bipush C dX8_refusal_37 (-12) rfl ?_
          cases hf
          exact R _ _ dX8_refusal_39
      · replace hf := z_ift c9 hf
        refine z_bipush C dX8_refusal_24 (-11) rfl ?_
        cases hf
        exact R _ _ dX8_refusal_26
    · replace hf := z_ift c6 hf
      refine z_iconst C dX8_refusal_14 (-1) rfl ?_
      cases hf
      exact R _ _ dX8_refusal_15
theorem uX8_at_8 : ∀ w ∈ wsX80, w ∈ wsX8_at := by decide +kernel
theorem hdX8_at : yX8_at.cls = RX8 ∧ yX8_at.cls ≠ "java/lang/invoke/MethodHandle" ∧ yX8_at.cls ≠ "java/lang/invoke/VarHandle" ∧ (parseMethodDescriptor yX8_at.desc).map (fun d => d.parameters.length) = some 2 := by decide +kernel
set_option maxHeartbeats 4000000 in
set_option maxRecDepth 100000 in
theorem tX8_at (l : Launch) (D : va_G) (t : zTy) (a : Nat → Nat) {v1 : Int32} {v2 : Int32} {x : ST} {out : Int32 × ST} (hf : fX8_at v1 v2 x = some out) : zMi l yX8_at wsX8_at 0 0 D t [.ref (a 9), .int v1, .int v2] (CW t a x) out.1 (CW t a out.2) := by
  refine z_entry_i (cc := cX8_at) (nL := 3) (by decide) rfl (Nat.le_of_ble_eq_true rfl) (fun E _ _ C R => ?_)
  refine z_sub (lv' := [(0, .ref (a 9)), (1, .int v1), (2, .int v2)]) [0, 1, 2] rfl ?_
  rw [fX8_at] at hf
  refine z_aload_n C dX8_at_0 rfl 0 rfl ?_
  refine cg_Sheets_items C uX8_at_8 (by decide +kernel) dX8_at_1 ?_
  refine z_iload_n C dX8_at_4 rfl 1 rfl ?_
  refine z_bipush C dX8_at_5 40 rfl ?_
  refine z_imul C dX8_at_7 ?_
  refine z_iload_n C dX8_at_8 rfl 2 rfl ?_
  refine z_iadd C dX8_at_9 ?_
  obtain ⟨h1, hf⟩ := z_some hf
  refine z_iald C 35 cw_at_35 h1 dX8_at_10 ?_
  cases hf
  exact R _ _ dX8_at_11
theorem uX8_put_8 : ∀ w ∈ wsX80, w ∈ wsX8_put := by decide +kernel
set_option maxHeartbeats 4000000 in
set_option maxRecDepth 100000 in
theorem kX8_put_40 (E : zE) (t : zTy) (a : Nat → Nat) (out : ST) (C : zC E cX8_put 5 RX8 wsX8_put (zrm 0 0) t) (R : zRv E cX8_put 5 (CW t a out)) : ∀ (s0 : Int32) (s1 : Int32) (x : ST), fX8_put_40 s0 s1 x = some out → zG E 5 0 0 (CW t a x) 40 [] [.int s0, .int s1, .ref (a 35)] := by
  intro s0 s1 x hf
  rw [fX8_put_40] at hf
  obtain ⟨h4, hf⟩ := z_some hf
  refine z_iast C 35 cw_at_35 h4 (w' := CW t a (sA x 35 s1 s0)) cw_up_35 dX8_put_40 ?_
  cases hf
  exact R _ _ dX8_put_41
theorem hdX8_put : yX8_put.cls = RX8 ∧ yX8_put.cls ≠ "java/lang/invoke/MethodHandle" ∧ yX8_put.cls ≠ "java/lang/invoke/VarHandle" ∧ (parseMethodDescriptor yX8_put.desc).map (fun d => d.parameters.length) = some 3 := by decide +kernel
set_option maxHeartbeats 4000000 in
set_option maxRecDepth 100000 in
theorem tX8_put (l : Launch) (D : va_G) (t : zTy) (a : Nat → Nat) {v1 : Int32} {v2 : Int32} {v3 : Int32} {x : ST} {out : ST} (hf : fX8_put v1 v2 v3 x = some out) : zMv l yX8_put wsX8_put 0 0 D t [.ref (a 9), .int v1, .int v2, .int v3] (CW t a x) (CW t a out) := by
  refine z_entry_v (cc := cX8_put) (nL := 5) (by decide) rfl (Nat.le_of_ble_eq_true rfl) (fun E _ _ C R => ?_)
  refine z_sub (lv' := [(0, .ref (a 9)), (1, .int v1), (2, .int v2), (3, .int v3)]) [0, 1, 2, 3] rfl ?_
  rw [fX8_put] at hf
  refine z_aload_n C dX8_put_0 rfl 0 rfl ?_
  refine cg_Sheets_lanes C uX8_put_8 (by decide +kernel) dX8_put_1 ?_
  refine z_iload_n C dX8_put_4 rfl 1 rfl ?_
  obtain ⟨h1, hf⟩ := z_some hf
  refine z_iald C 33 cw_at_33 h1 dX8_put_5 ?_
  refine z_istore C [(4, .int (gA x 33 v1.toNatClampNeg)), (0, .ref (a 9)), (1, .int v1), (2, .int v2), (3, .int v3)] dX8_put_6 (by decide) rfl ?_
  refine z_aload_n C dX8_put_8 rfl 1 rfl ?_
  refine cg_Sheets_items C uX8_put_8 (by decide +kernel) dX8_put_9 ?_
  refine z_iload_n C dX8_put_12 rfl 2 rfl ?_
  refine z_bipush C dX8_put_13 40 rfl ?_
  refine z_imul C dX8_put_15 ?_
  refine z_iload_n C dX8_put_16 rfl 3 rfl ?_
  refine z_iadd C dX8_put_17 ?_
  refine z_iload C dX8_put_18 0 rfl ?_
  refine z_if_ne C 28 dX8_put_20 (by decide) (fun c2 => ?_) (fun c2 => ?_)
  · replace hf := z_iff c2 hf
    refine z_iload C dX8_put_28 0 rfl ?_
    refine z_iconst C dX8_put_30 1 rfl ?_
    refine z_icmp_ne C 39 dX8_put_31 (by decide) (fun c3 => ?_) (fun c3 => ?_)
    · replace hf := z_iff c3 hf
      refine z_iload_n C dX8_put_39 rfl 4 rfl ?_
      exact z_sub [] rfl (kX8_put_40 E t a out C R _ _ _ hf)
    · replace hf := z_ift c3 hf
      refine z_iload_n C dX8_put_34 rfl 4 rfl ?_
      refine z_i2s C dX8_put_35 ?_
      refine z_goto C 40 dX8_put_36 (by decide) ?_
      exact z_sub [] rfl (kX8_put_40 E t a out C R _ _ _ hf)
  · replace hf := z_ift c2 hf
    refine z_iload_n C dX8_put_23 rfl 4 rfl ?_
    refine z_i2b C dX8_put_24 ?_
    refine z_goto C 40 dX8_put_25 (by decide) ?_
    exact z_sub [] rfl (kX8_put_40 E t a out C R _ _ _ hf)
set_option maxHeartbeats 4000000 in
set_option maxRecDepth 100000 in
theorem kX8_allWithin_3 (E : zE) (t : zTy) (a : Nat → Nat) (out : Int32 × ST) (C : zC E cX8_allWithin 7 RX8 wsX8_allWithin (zrm 1 22) t) (R : zRz E cX8_allWithin 7 out.1 (CW t a out.2)) : ∀ (n : Nat) (v1 : Int32) (v2 : Int32) (v3 : Int32) (v4 : Int32) (v5 : Int32) (v6 : Int32) (x : ST), fX8_allWithin_3 n v1 v2 v3 v4 v5 v6 x = some out → zG E 7 0 0 (CW t a x) 3 [(0, .ref (a 9)), (1, .int v1), (2, .int v2), (3, .int v3), (4, .int v4), (5, .int v5), (6, .int v6)] [] := by
  intro n
  induction n with
  | zero =>
    intro v1 v2 v3 v4 v5 v6 x hf
    cases hf
  | succ n ih =>
    intro v1 v2 v3 v4 v5 v6 x hf
    rw [fX8_allWithin_3] at hf
    refine z_iload C dX8_allWithin_3 6 rfl ?_
    refine z_iload_n C dX8_allWithin_5 rfl 3 rfl ?_
    refine z_icmp_ge C 36 dX8_allWithin_6 (by decide) (fun c1 => ?_) (fun c1 => ?_)
    · replace hf := z_ift c1 hf
      refine z_iconst C dX8_allWithin_36 1 rfl ?_
      obtain ⟨h2, hf⟩ := z_some hf
      cases hf
      exact R _ _ dX8_allWithin_37 h2
    · replace hf := z_iff c1 hf
      refine z_aload_n C dX8_allWithin_9 rfl 0 rfl ?_
      refine z_iload_n C dX8_allWithin_10 rfl 1 rfl ?_
      refine z_iload_n C dX8_allWithin_11 rfl 2 rfl ?_
      refine z_iload C dX8_allWithin_12 6 rfl ?_
      refine z_iadd C dX8_allWithin_14 ?_
      obtain ⟨q3, h4, hf⟩ := z_bind hf
      refine z_callVi C (rest := []) (tX8_at (ze_l E) (ze_D E) t a h4) gX8_allWithin_X8_at rfl hdX8_at ⟨(Nat.le_of_ble_eq_true rfl), (Nat.le_of_ble_eq_true rfl)⟩ ⟨Nat.zero_le _, Nat.zero_le _⟩ 9 cw_at_9 rfl rfl rfl (Nat.le_of_ble_eq_true rfl) dX8_allWithin_15 ?_
      refine z_iload C dX8_allWithin_18 4 rfl ?_
      refine z_iload C dX8_allWithin_20 5 rfl ?_
      obtain ⟨q5, h6, hf⟩ := z_bind hf
      refine z_callNi C (rest := []) (tX11_within (ze_l E) (ze_D E) t _ h6) gX8_allWithin_X11_within_n35 (host := RX11) (by decide +kernel) (by decide +kernel) (by decide +kernel) rfl hdX11_within ⟨(Nat.le_of_ble_eq_true rfl), (Nat.le_of_ble_eq_true rfl)⟩ ⟨Nat.zero_le _, Nat.zero_le _⟩ rfl rfl (Nat.le_of_ble_eq_true rfl) dX8_allWithin_22 ?_
      refine z_if_ne C 30 dX8_allWithin_25 (by decide) (fun c7 => ?_) (fun c7 => ?_)
      · replace hf := z_iff c7 hf
        refine z_iinc C (v6 + 1) [(6, .int (v6 + 1)), (0, .ref (a 9)), (1, .int v1), (2, .int v2), (3, .int v3), (4, .int v4), (5, .int v5)] dX8_allWithin_30 6 rfl rfl (by decide) rfl ?_
        refine z_goto C 3 dX8_allWithin_33 (by decide) ?_
        exact z_sub [1, 2, 3, 4, 5, 6, 0] rfl (ih _ _ _ _ _ _ _ hf)
      · replace hf := z_ift c7 hf
        refine z_iconst C dX8_allWithin_28 0 rfl ?_
        obtain ⟨h8, hf⟩ := z_some hf
        cases hf
        exact R _ _ dX8_allWithin_29 h8
theorem hdX8_allWithin : yX8_allWithin.cls = RX8 ∧ yX8_allWithin.cls ≠ "java/lang/invoke/MethodHandle" ∧ yX8_allWithin.cls ≠ "java/lang/invoke/VarHandle" ∧ (parseMethodDescriptor yX8_allWithin.desc).map (fun d => d.parameters.length) = some 5 := by decide +kernel
set_option maxHeartbeats 4000000 in
set_option maxRecDepth 100000 in
theorem tX8_allWithin (l : Launch) (D : va_G) (t : zTy) (a : Nat → Nat) {v1 : Int32} {v2 : Int32} {v3 : Int32} {v4 : Int32} {v5 : Int32} {x : ST} {out : Int32 × ST} (hf : fX8_allWithin v1 v2 v3 v4 v5 x = some out) : zMi l yX8_allWithin wsX8_allWithin 1 22 D t [.ref (a 9), .int v1, .int v2, .int v3, .int v4, .int v5] (CW t a x) out.1 (CW t a out.2) := by
  refine z_entry_z (cc := cX8_allWithin) (nL := 7) (by decide) rfl (Nat.le_of_ble_eq_true rfl) (fun E _ _ C R => ?_)
  refine z_sub (lv' := [(0, .ref (a 9)), (1, .int v1), (2, .int v2), (3, .int v3), (4, .int v4), (5, .int v5)]) [0, 1, 2, 3, 4, 5] rfl ?_
  rw [fX8_allWithin] at hf
  refine z_iconst C dX8_allWithin_0 0 rfl ?_
  refine z_istore C [(6, .int 0), (0, .ref (a 9)), (1, .int v1), (2, .int v2), (3, .int v3), (4, .int v4), (5, .int v5)] dX8_allWithin_1 (by decide) rfl ?_
  exact z_sub [1, 2, 3, 4, 5, 6, 0] rfl (kX8_allWithin_3 E t a out C R 200 _ _ _ _ _ _ _ hf)
set_option maxHeartbeats 4000000 in
set_option maxRecDepth 100000 in
theorem kX8_apart_6 (E : zE) (t : zTy) (a : Nat → Nat) (out : Int64 × ST) (C : zC E cX8_apart 7 RX8 wsX8_apart (zrm 1 22) t) (R : zRl E cX8_apart 7 out.1 (CW t a out.2)) : ∀ (n : Nat) (v1 : Int32) (v2 : Int32) (v3 : Int32) (v4 : Int64) (v6 : Int32) (x : ST), fX8_apart_6 n v1 v2 v3 v4 v6 x = some out → zG E 7 0 0 (CW t a x) 6 [(0, .ref (a 9)), (1, .int v1), (2, .int v2), (3, .int v3), (4, .long v4), (6, .int v6)] [] := by
  intro n
  induction n with
  | zero =>
    intro v1 v2 v3 v4 v6 x hf
    cases hf
  | succ n ih =>
    intro v1 v2 v3 v4 v6 x hf
    rw [fX8_apart_6] at hf
    refine z_iload C dX8_apart_6 5 rfl ?_
    refine z_bipush C dX8_apart_8 32 rfl ?_
    refine z_icmp_ge C 49 dX8_apart_10 (by decide) (fun c1 => ?_) (fun c1 => ?_)
    · replace hf := z_ift c1 hf
      refine z_lload C dX8_apart_49 4 rfl ?_
      cases hf
      exact R _ _ dX8_apart_51
    · replace hf := z_iff c1 hf
      refine z_lload C dX8_apart_13 4 rfl ?_
      refine z_aload_n C dX8_apart_15 rfl 0 rfl ?_
      refine z_iload_n C dX8_apart_16 rfl 1 rfl ?_
      refine z_iload C dX8_apart_17 5 rfl ?_
      obtain ⟨q2, h3, hf⟩ := z_bind hf
      refine z_callVi C (rest := [.long v4]) (tX8_at (ze_l E) (ze_D E) t a h3) gX8_apart_X8_at rfl hdX8_at ⟨(Nat.le_of_ble_eq_true rfl), (Nat.le_of_ble_eq_true rfl)⟩ ⟨Nat.zero_le _, Nat.zero_le _⟩ 9 cw_at_9 rfl rfl rfl (Nat.le_of_ble_eq_true rfl) dX8_apart_19 ?_
      refine z_i2l C dX8_apart_22 ?_
      refine z_aload_n C dX8_apart_23 rfl 0 rfl ?_
      refine z_iload_n C dX8_apart_24 rfl 2 rfl ?_
      refine z_iload C dX8_apart_25 5 rfl ?_
      refine z_iload_n C dX8_apart_27 rfl 3 rfl ?_
      refine z_iadd C dX8_apart_28 ?_
      refine z_bipush C dX8_apart_29 32 rfl ?_
      obtain ⟨h4, hf⟩ := z_div hf
      refine z_irem C h4 dX8_apart_31 ?_
      obtain ⟨q5, h6, hf⟩ := z_bind hf
      refine z_callVi C (rest := [.long q2.1.toInt64, .long v4]) (tX8_at (ze_l E) (ze_D E) t a h6) gX8_apart_X8_at rfl hdX8_at ⟨(Nat.le_of_ble_eq_true rfl), (Nat.le_of_ble_eq_true rfl)⟩ ⟨Nat.zero_le _, Nat.zero_le _⟩ 9 cw_at_9 rfl rfl rfl (Nat.le_of_ble_eq_true rfl) dX8_apart_32 ?_
      refine z_i2l C dX8_apart_35 ?_
      refine z_lsub C dX8_apart_36 ?_
      refine z_mabsl C (by decide +kernel) (by decide +kernel) (by decide +kernel) (by decide +kernel) (Nat.le_of_ble_eq_true rfl) (Nat.le_of_ble_eq_true rfl) (Nat.zero_le _) (Nat.zero_le _) dX8_apart_37 ?_
      refine z_ladd C dX8_apart_40 ?_
      refine z_lstore C [(4, .long (v4 + (if 0 < (q2.1.toInt64 - q5.1.toInt64) then (q2.1.toInt64 - q5.1.toInt64) else -(q2.1.toInt64 - q5.1.toInt64)))), (0, .ref (a 9)), (1, .int v1), (2, .int v2), (3, .int v3), (6, .int v6)] dX8_apart_41 (by decide) rfl ?_
      refine z_iinc C (v6 + 1) [(6, .int (v6 + 1)), (4, .long (v4 + (if 0 < (q2.1.toInt64 - q5.1.toInt64) then (q2.1.toInt64 - q5.1.toInt64) else -(q2.1.toInt64 - q5.1.toInt64)))), (0, .ref (a 9)), (1, .int v1), (2, .int v2), (3, .int v3)] dX8_apart_43 5 rfl rfl (by decide) rfl ?_
      refine z_goto C 6 dX8_apart_46 (by decide) ?_
      exact z_sub [2, 3, 4, 5, 1, 0] rfl (ih _ _ _ _ _ _ hf)
theorem hdX8_apart : yX8_apart.cls = RX8 ∧ yX8_apart.cls ≠ "java/lang/invoke/MethodHandle" ∧ yX8_apart.cls ≠ "java/lang/invoke/VarHandle" ∧ (parseMethodDescriptor yX8_apart.desc).map (fun d => d.parameters.length) = some 3 := by decide +kernel
set_option maxHeartbeats 4000000 in
set_option maxRecDepth 100000 in
theorem tX8_apart (l : Launch) (D : va_G) (t : zTy) (a : Nat → Nat) {v1 : Int32} {v2 : Int32} {v3 : Int32} {x : ST} {out : Int64 × ST} (hf : fX8_apart v1 v2 v3 x = some out) : zMl l yX8_apart wsX8_apart 1 22 D t [.ref (a 9), .int v1, .int v2, .int v3] (CW t a x) out.1 (CW t a out.2) := by
  refine z_entry_l (cc := cX8_apart) (nL := 7) (by decide) rfl (Nat.le_of_ble_eq_true rfl) (fun E _ _ C R => ?_)
  refine z_sub (lv' := [(0, .ref (a 9)), (1, .int v1), (2, .int v2), (3, .int v3)]) [0, 1, 2, 3] rfl ?_
  rw [fX8_apart] at hf
  refine z_lconst C dX8_apart_0 0 rfl ?_
  refine z_lstore C [(4, .long 0), (0, .ref (a 9)), (1, .int v1), (2, .int v2), (3, .int v3)] dX8_apart_1 (by decide) rfl ?_
  refine z_iconst C dX8_apart_3 0 rfl ?_
  refine z_istore C [(6, .int 0), (4, .long 0), (0, .ref (a 9)), (1, .int v1), (2, .int v2), (3, .int v3)] dX8_apart_4 (by decide) rfl ?_
  exact z_sub [2, 3, 4, 5, 1, 0] rfl (kX8_apart_6 E t a out C R 200 _ _ _ _ _ _ hf)
theorem uX9_renew_9 : ∀ w ∈ wsX90, w ∈ wsX9_renew := by decide +kernel
theorem hdX9_renew : yX9_renew.cls = RX9 ∧ yX9_renew.cls ≠ "java/lang/invoke/MethodHandle" ∧ yX9_renew.cls ≠ "java/lang/invoke/VarHandle" ∧ (parseMethodDescriptor yX9_renew.desc).map (fun d => d.parameters.length) = some 1 := by decide +kernel
set_option maxHeartbeats 4000000 in
set_option maxRecDepth 100000 in
theorem tX9_renew (l : Launch) (D : va_G) (t : zTy) (a : Nat → Nat) {v1 : Int32} {x : ST} {out : ST} (hf : fX9_renew v1 x = some out) : zMv l yX9_renew wsX9_renew 1 23 D t [.ref (a 10), .int v1] (CW t a x) (CW t a out) := by
  refine z_entry_v (cc := cX9_renew) (nL := 2) (by decide) rfl (Nat.le_of_ble_eq_true rfl) (fun E _ _ C R => ?_)
  refine z_sub (lv' := [(0, .ref (a 10)), (1, .int v1)]) [0, 1] rfl ?_
  rw [fX9_renew] at hf
  refine z_aload_n C dX9_renew_0 rfl 0 rfl ?_
  refine z_iload_n C dX9_renew_1 rfl 1 rfl ?_
  refine cp_Spots_count C uX9_renew_9 (by decide +kernel) dX9_renew_2 ?_
  refine z_aload_n C dX9_renew_5 rfl 0 rfl ?_
  refine cg_Spots_lights C uX9_renew_9 (by decide +kernel) dX9_renew_6 ?_
  refine z_iconst C dX9_renew_9 0 rfl ?_
  refine z_callSv C (w' := CW t a (sF (sI x 11 v1) 36 (zfill (gA (sI x 11 v1) 36) 128 0))) (rest := []) (tJ7_fill_53178 (ze_l E) (ze_D E) t _ 36 cw_at_36 (by decide) cw_up_36) gX9_renew_J7_fill_53178 rfl hdJ7_fill_53178 ⟨(Nat.le_of_ble_eq_true rfl), (Nat.le_of_ble_eq_true rfl)⟩ ⟨Nat.zero_le _, Nat.zero_le _⟩ rfl rfl (Nat.le_of_ble_eq_true rfl) dX9_renew_10 ?_
  refine z_aload_n C dX9_renew_13 rfl 0 rfl ?_
  refine cg_Spots_rests C uX9_renew_9 (by decide +kernel) dX9_renew_14 ?_
  refine z_sipush C dX9_renew_17 1500 rfl ?_
  refine z_callSv C (w' := CW t a (sF (sF (sI x 11 v1) 36 (zfill (gA (sI x 11 v1) 36) 128 0)) 37 (zfill (gA (sF (sI x 11 v1) 36 (zfill (gA (sI x 11 v1) 36) 128 0)) 37) 8 1500))) (rest := []) (tJ7_fill_53178 (ze_l E) (ze_D E) t _ 37 cw_at_37 (by decide) cw_up_37) gX9_renew_J7_fill_53178 rfl hdJ7_fill_53178 ⟨(Nat.le_of_ble_eq_true rfl), (Nat.le_of_ble_eq_true rfl)⟩ ⟨Nat.zero_le _, Nat.zero_le _⟩ rfl rfl (Nat.le_of_ble_eq_true rfl) dX9_renew_20 ?_
  cases hf
  exact R _ _ dX9_renew_23
theorem uX9_swapLight_9 : ∀ w ∈ wsX90, w ∈ wsX9_swapLight := by decide +kernel
theorem hdX9_swapLight : yX9_swapLight.cls = RX9 ∧ yX9_swapLight.cls ≠ "java/lang/invoke/MethodHandle" ∧ yX9_swapLight.cls ≠ "java/lang/invoke/VarHandle" ∧ (parseMethodDescriptor yX9_swapLight.desc).map (fun d => d.parameters.length) = some 3 := by decide +kernel
set_option maxHeartbeats 4000000 in
set_option maxRecDepth 100000 in
theorem tX9_swapLight (l : Launch) (D : va_G) (t : zTy) (a : Nat → Nat) {v1 : Int32} {v2 : Int32} {v3 : Int32} {x : ST} {out : Int32 × ST} (hf : fX9_swapLight v1 v2 v3 x = some out) : zMi l yX9_swapLight wsX9_swapLight 0 0 D t [.ref (a 10), .int v1, .int v2, .int v3] (CW t a x) out.1 (CW t a out.2) := by
  refine z_entry_i (cc := cX9_swapLight) (nL := 5) (by decide) rfl (Nat.le_of_ble_eq_true rfl) (fun E _ _ C R => ?_)
  refine z_sub (lv' := [(0, .ref (a 10)), (1, .int v1), (2, .int v2), (3, .int v3)]) [0, 1, 2, 3] rfl ?_
  rw [fX9_swapLight] at hf
  refine z_aload_n C dX9_swapLight_0 rfl 0 rfl ?_
  refine cg_Spots_lights C uX9_swapLight_9 (by decide +kernel) dX9_swapLight_1 ?_
  refine z_iload_n C dX9_swapLight_4 rfl 1 rfl ?_
  refine z_bipush C dX9_swapLight_5 16 rfl ?_
  refine z_imul C dX9_swapLight_7 ?_
  refine z_iload_n C dX9_swapLight_8 rfl 2 rfl ?_
  refine z_iadd C dX9_swapLight_9 ?_
  obtain ⟨h1, hf⟩ := z_some hf
  refine z_iald C 36 cw_at_36 h1 dX9_swapLight_10 ?_
  refine z_istore C [(4, .int (gA x 36 ((v1 * 16) + v2).toNatClampNeg)), (0, .ref (a 10)), (1, .int v1), (2, .int v2), (3, .int v3)] dX9_swapLight_11 (by decide) rfl ?_
  refine z_aload_n C dX9_swapLight_13 rfl 1 rfl ?_
  refine cg_Spots_lights C uX9_swapLight_9 (by decide +kernel) dX9_swapLight_14 ?_
  refine z_iload_n C dX9_swapLight_17 rfl 2 rfl ?_
  refine z_bipush C dX9_swapLight_18 16 rfl ?_
  refine z_imul C dX9_swapLight_20 ?_
  refine z_iload_n C dX9_swapLight_21 rfl 3 rfl ?_
  refine z_iadd C dX9_swapLight_22 ?_
  refine z_iload_n C dX9_swapLight_23 rfl 4 rfl ?_
  obtain ⟨h2, hf⟩ := z_some hf
  refine z_iast C 36 cw_at_36 h2 (w' := CW t a (sA x 36 ((v1 * 16) + v2) v3)) cw_up_36 dX9_swapLight_24 ?_
  refine z_iload C dX9_swapLight_25 0 rfl ?_
  cases hf
  exact R _ _ dX9_swapLight_27
theorem uX9_swapRest_9 : ∀ w ∈ wsX90, w ∈ wsX9_swapRest := by decide +kernel
theorem hdX9_swapRest : yX9_swapRest.cls = RX9 ∧ yX9_swapRest.cls ≠ "java/lang/invoke/MethodHandle" ∧ yX9_swapRest.cls ≠ "java/lang/invoke/VarHandle" ∧ (parseMethodDescriptor yX9_swapRest.desc).map (fun d => d.parameters.length) = some 2 := by decide +kernel
set_option maxHeartbeats 4000000 in
set_option maxRecDepth 100000 in
theorem tX9_swapRest (l : Launch) (D : va_G) (t : zTy) (a : Nat → Nat) {v1 : Int32} {v2 : Int32} {x : ST} {out : Int32 × ST} (hf : fX9_swapRest v1 v2 x = some out) : zMi l yX9_swapRest wsX9_swapRest 0 0 D t [.ref (a 10), .int v1, .int v2] (CW t a x) out.1 (CW t a out.2) := by
  refine z_entry_i (cc := cX9_swapRest) (nL := 4) (by decide) rfl (Nat.le_of_ble_eq_true rfl) (fun E _ _ C R => ?_)
  refine z_sub (lv' := [(0, .ref (a 10)), (1, .int v1), (2, .int v2)]) [0, 1, 2] rfl ?_
  rw [fX9_swapRest] at hf
  refine z_aload_n C dX9_swapRest_0 rfl 0 rfl ?_
  refine cg_Spots_rests C uX9_swapRest_9 (by decide +kernel) dX9_swapRest_1 ?_
  refine z_iload_n C dX9_swapRest_4 rfl 1 rfl ?_
  obtain ⟨h1, hf⟩ := z_some hf
  refine z_iald C 37 cw_at_37 h1 dX9_swapRest_5 ?_
  refine z_istore_n C [(3, .int (gA x 37 v1.toNatClampNeg)), (0, .ref (a 10)), (1, .int v1), (2, .int v2)] dX9_swapRest_6 rfl (by decide) rfl ?_
  refine z_aload_n C dX9_swapRest_7 rfl 1 rfl ?_
  refine cg_Spots_rests C uX9_swapRest_9 (by decide +kernel) dX9_swapRest_8 ?_
  refine z_iload_n C dX9_swapRest_11 rfl 2 rfl ?_
  refine z_iload_n C dX9_swapRest_12 rfl 3 rfl ?_
  obtain ⟨h2, hf⟩ := z_some hf
  refine z_iast C 37 cw_at_37 h2 (w' := CW t a (sA x 37 v1 v2)) cw_up_37 dX9_swapRest_13 ?_
  refine z_iload_n C dX9_swapRest_14 rfl 0 rfl ?_
  cases hf
  exact R _ _ dX9_swapRest_15
theorem uX9_measureOne_9 : ∀ w ∈ wsX90, w ∈ wsX9_measureOne := by decide +kernel
set_option maxHeartbeats 4000000 in
set_option maxRecDepth 100000 in
theorem kX9_measureOne_61 (E : zE) (t : zTy) (a : Nat → Nat) (out : ST) (C : zC E cX9_measureOne 7 RX9 wsX9_measureOne (zrm 1 21) t) (R : zRv E cX9_measureOne 7 (CW t a out)) (kb8 : Int32 → Int32 → Int32 → Int32 → Int32 → ST → Option (ST)) (Kb8 : ∀ (v1 : Int32) (v2 : Int32) (v3 : Int32) (v4 : Int32) (v5 : Int32) (x : ST), kb8 v1 v2 v3 v4 v5 x = some out → zG E 7 0 0 (CW t a x) 8 [(0, .ref (a 10)), (1, .int v1), (2, .int v2), (3, .int v3), (4, .int v4), (5, .int v5)] []) : ∀ (v1 : Int32) (v2 : Int32) (v3 : Int32) (v5 : Int32) (s0 : Int32) (s1 : Int32) (s2 : Int32) (x : ST), fX9_measureOne_61 kb8 v1 v2 v3 v5 s0 s1 s2 x = some out → zG E 7 0 0 (CW t a x) 61 [(0, .ref (a 10)), (1, .int v1), (2, .int v2), (3, .int v3), (5, .int v5)] [.int s0, .int s1, .int s2] := by
  intro v1 v2 v3 v5 s0 s1 s2 x hf
  rw [fX9_measureOne_61] at hf
  refine z_imul C dX9_measureOne_61 ?_
  refine z_iadd C dX9_measureOne_62 ?_
  refine z_istore C [(4, .int (s2 + (s1 * s0))), (0, .ref (a 10)), (1, .int v1), (2, .int v2), (3, .int v3), (5, .int v5)] dX9_measureOne_63 (by decide) rfl ?_
  refine z_iinc C (v5 + 1) [(5, .int (v5 + 1)), (4, .int (s2 + (s1 * s0))), (0, .ref (a 10)), (1, .int v1), (2, .int v2), (3, .int v3)] dX9_measureOne_65 5 rfl rfl (by decide) rfl ?_
  refine z_goto C 8 dX9_measureOne_68 (by decide) ?_
  exact z_sub [2, 3, 4, 5, 1, 0] rfl (Kb8 _ _ _ _ _ _ hf)
set_option maxHeartbeats 4000000 in
set_option maxRecDepth 100000 in
theorem kX9_measureOne_71 (E : zE) (t : zTy) (a : Nat → Nat) (out : ST) (C : zC E cX9_measureOne 7 RX9 wsX9_measureOne (zrm 1 21) t) (R : zRv E cX9_measureOne 7 (CW t a out)) : ∀ (v1 : Int32) (v3 : Int32) (v4 : Int32) (x : ST), fX9_measureOne_71 v1 v3 v4 x = some out → zG E 7 0 0 (CW t a x) 71 [(0, .ref (a 10)), (1, .int v1), (3, .int v3), (4, .int v4)] [] := by
  intro v1 v3 v4 x hf
  rw [fX9_measureOne_71] at hf
  refine z_aload_n C dX9_measureOne_71 rfl 0 rfl ?_
  refine cg_Spots_sums C uX9_measureOne_9 (by decide +kernel) dX9_measureOne_72 ?_
  refine z_iload_n C dX9_measureOne_75 rfl 1 rfl ?_
  refine z_iload_n C dX9_measureOne_76 rfl 2 rfl ?_
  obtain ⟨h7, hf⟩ := z_some hf
  refine z_iast C 38 cw_at_38 h7 (w' := CW t a (sA x 38 v1 v3)) cw_up_38 dX9_measureOne_77 ?_
  refine z_aload_n C dX9_measureOne_78 rfl 0 rfl ?_
  refine cg_Spots_middles C uX9_measureOne_9 (by decide +kernel) dX9_measureOne_79 ?_
  refine z_iload_n C dX9_measureOne_82 rfl 1 rfl ?_
  refine z_sipush C dX9_measureOne_83 1000 rfl ?_
  refine z_iload C dX9_measureOne_86 3 rfl ?_
  refine z_imul C dX9_measureOne_88 ?_
  refine z_iload_n C dX9_measureOne_89 rfl 2 rfl ?_
  obtain ⟨q8, h9, hf⟩ := z_bind hf
  refine z_callNi C (rest := [.int v1, .ref (a 39)]) (tX11_cut (ze_l E) (ze_D E) t _ h9) gX9_measureOne_X11_cut_n51 (host := RX11) (by decide +kernel) (by decide +kernel) (by decide +kernel) rfl hdX11_cut ⟨(Nat.le_of_ble_eq_true rfl), (Nat.le_of_ble_eq_true rfl)⟩ ⟨Nat.zero_le _, Nat.zero_le _⟩ rfl rfl (Nat.le_of_ble_eq_true rfl) dX9_measureOne_90 ?_
  obtain ⟨h10, hf⟩ := z_some hf
  refine z_iast C 39 cw_at_39 h10 (w' := CW t a (sA (sA x 38 v1 v3) 39 v1 q8)) cw_up_39 dX9_measureOne_93 ?_
  cases hf
  exact R _ _ dX9_measureOne_94
set_option maxHeartbeats 4000000 in
set_option maxRecDepth 100000 in
theorem kX9_measureOne_8 (E : zE) (t : zTy) (a : Nat → Nat) (out : ST) (C : zC E cX9_measureOne 7 RX9 wsX9_measureOne (zrm 1 21) t) (R : zRv E cX9_measureOne 7 (CW t a out)) : ∀ (n : Nat) (v1 : Int32) (v2 : Int32) (v3 : Int32) (v4 : Int32) (v5 : Int32) (x : ST), fX9_measureOne_8 n v1 v2 v3 v4 v5 x = some out → zG E 7 0 0 (CW t a x) 8 [(0, .ref (a 10)), (1, .int v1), (2, .int v2), (3, .int v3), (4, .int v4), (5, .int v5)] [] := by
  intro n
  induction n with
  | zero =>
    intro v1 v2 v3 v4 v5 x hf
    cases hf
  | succ n ih =>
    intro v1 v2 v3 v4 v5 x hf
    rw [fX9_measureOne_8] at hf
    refine z_iload C dX9_measureOne_8 5 rfl ?_
    refine z_bipush C dX9_measureOne_10 16 rfl ?_
    refine z_icmp_ge C 71 dX9_measureOne_12 (by decide) (fun c1 => ?_) (fun c1 => ?_)
    · replace hf := z_ift c1 hf
      exact z_sub [0, 1, 3, 4] rfl (kX9_measureOne_71 E t a out C R _ _ _ _ hf)
    · replace hf := z_iff c1 hf
      refine z_iconst C dX9_measureOne_15 0 rfl ?_
      refine z_aload_n C dX9_measureOne_16 rfl 0 rfl ?_
      refine cg_Spots_lights C uX9_measureOne_9 (by decide +kernel) dX9_measureOne_17 ?_
      refine z_iload_n C dX9_measureOne_20 rfl 1 rfl ?_
      refine z_bipush C dX9_measureOne_21 16 rfl ?_
      refine z_imul C dX9_measureOne_23 ?_
      refine z_iload C dX9_measureOne_24 5 rfl ?_
      refine z_iadd C dX9_measureOne_26 ?_
      obtain ⟨h2, hf⟩ := z_some hf
      refine z_iald C 36 cw_at_36 h2 dX9_measureOne_27 ?_
      refine z_iload_n C dX9_measureOne_28 rfl 2 rfl ?_
      refine z_isub C dX9_measureOne_29 ?_
      refine z_mmax C (by decide +kernel) (by decide +kernel) (by decide +kernel) (by decide +kernel) (Nat.le_of_ble_eq_true rfl) (Nat.le_of_ble_eq_true rfl) (Nat.zero_le _) (Nat.zero_le _) dX9_measureOne_30 ?_
      refine z_istore C [(6, .int (if 0 < ((gA x 36 ((v1 * 16) + v5).toNatClampNeg) - v2) then ((gA x 36 ((v1 * 16) + v5).toNatClampNeg) - v2) else 0)), (0, .ref (a 10)), (1, .int v1), (2, .int v2), (3, .int v3), (4, .int v4), (5, .int v5)] dX9_measureOne_33 (by decide) rfl ?_
      refine z_iload_n C dX9_measureOne_35 rfl 4 rfl ?_
      refine z_iload C dX9_measureOne_36 0 rfl ?_
      refine z_iadd C dX9_measureOne_38 ?_
      refine z_istore_n C [(3, .int (v3 + (if 0 < ((gA x 36 ((v1 * 16) + v5).toNatClampNeg) - v2) then ((gA x 36 ((v1 * 16) + v5).toNatClampNeg) - v2) else 0))), (6, .int (if 0 < ((gA x 36 ((v1 * 16) + v5).toNatClampNeg) - v2) then ((gA x 36 ((v1 * 16) + v5).toNatClampNeg) - v2) else 0)), (0, .ref (a 10)), (1, .int v1), (2, .int v2), (4, .int v4), (5, .int v5)] dX9_measureOne_39 rfl (by decide) rfl ?_
      refine z_iload C dX9_measureOne_40 5 rfl ?_
      refine z_iload C dX9_measureOne_42 1 rfl ?_
      refine z_iload_n C dX9_measureOne_44 rfl 3 rfl ?_
      refine z_iconst C dX9_measureOne_45 2 rfl ?_
      obtain ⟨h3, hf⟩ := z_div hf
      refine z_irem C h3 dX9_measureOne_46 ?_
      refine z_if_ne C 57 dX9_measureOne_47 (by decide) (fun c4 => ?_) (fun c4 => ?_)
      · replace hf := z_iff c4 hf
        refine z_iload C dX9_measureOne_57 6 rfl ?_
        refine z_iconst C dX9_measureOne_59 4 rfl ?_
        obtain ⟨h5, hf⟩ := z_div hf
        refine z_idiv C h5 dX9_measureOne_60 ?_
        exact z_sub [2, 3, 4, 0, 6] rfl (kX9_measureOne_61 E t a out C R (fX9_measureOne_8 n) (ih) _ _ _ _ _ _ _ _ hf)
      · replace hf := z_ift c4 hf
        refine z_iload C dX9_measureOne_50 6 rfl ?_
        refine z_iconst C dX9_measureOne_52 4 rfl ?_
        obtain ⟨h6, hf⟩ := z_div hf
        refine z_irem C h6 dX9_measureOne_53 ?_
        refine z_goto C 61 dX9_measureOne_54 (by decide) ?_
        exact z_sub [2, 3, 4, 0, 6] rfl (kX9_measureOne_61 E t a out C R (fX9_measureOne_8 n) (ih) _ _ _ _ _ _ _ _ hf)
theorem hdX9_measureOne : yX9_measureOne.cls = RX9 ∧ yX9_measureOne.cls ≠ "java/lang/invoke/MethodHandle" ∧ yX9_measureOne.cls ≠ "java/lang/invoke/VarHandle" ∧ (parseMethodDescriptor yX9_measureOne.desc).map (fun d => d.parameters.length) = some 2 := by decide +kernel
set_option maxHeartbeats 4000000 in
set_option maxRecDepth 100000 in
theorem tX9_measureOne (l : Launch) (D : va_G) (t : zTy) (a : Nat → Nat) {v1 : Int32} {v2 : Int32} {x : ST} {out : ST} (hf : fX9_measureOne v1 v2 x = some out) : zMv l yX9_measureOne wsX9_measureOne 1 21 D t [.ref (a 10), .int v1, .int v2] (CW t a x) (CW t a out) := by
  refine z_entry_v (cc := cX9_measureOne) (nL := 7) (by decide) rfl (Nat.le_of_ble_eq_true rfl) (fun E _ _ C R => ?_)
  refine z_sub (lv' := [(0, .ref (a 10)), (1, .int v1), (2, .int v2)]) [0, 1, 2] rfl ?_
  rw [fX9_measureOne] at hf
  refine z_iconst C dX9_measureOne_0 0 rfl ?_
  refine z_istore_n C [(3, .int 0), (0, .ref (a 10)), (1, .int v1), (2, .int v2)] dX9_measureOne_1 rfl (by decide) rfl ?_
  refine z_iconst C dX9_measureOne_2 0 rfl ?_
  refine z_istore C [(4, .int 0), (3, .int 0), (0, .ref (a 10)), (1, .int v1), (2, .int v2)] dX9_measureOne_3 (by decide) rfl ?_
  refine z_iconst C dX9_measureOne_5 0 rfl ?_
  refine z_istore C [(5, .int 0), (4, .int 0), (3, .int 0), (0, .ref (a 10)), (1, .int v1), (2, .int v2)] dX9_measureOne_6 (by decide) rfl ?_
  exact z_sub [3, 4, 5, 2, 1, 0] rfl (kX9_measureOne_8 E t a out C R 200 _ _ _ _ _ _ hf)
theorem uX9_measure_9 : ∀ w ∈ wsX90, w ∈ wsX9_measure := by decide +kernel
set_option maxHeartbeats 4000000 in
set_option maxRecDepth 100000 in
theorem kX9_measure_61 (E : zE) (t : zTy) (a : Nat → Nat) (out : ST) (C : zC E cX9_measure 4 RX9 wsX9_measure (zrm 2 47) t) (R : zRv E cX9_measure 4 (CW t a out)) (kb7 : Int32 → Int32 → Int32 → ST → Option (ST)) (Kb7 : ∀ (v1 : Int32) (v2 : Int32) (v3 : Int32) (x : ST), kb7 v1 v2 v3 x = some out → zG E 4 0 0 (CW t a x) 7 [(0, .ref (a 10)), (1, .int v1), (2, .int v2), (3, .int v3)] []) : ∀ (v1 : Int32) (v2 : Int32) (v3 : Int32) (s0 : Int32) (s1 : Int32) (x : ST), fX9_measure_61 kb7 v1 v2 v3 s0 s1 x = some out → zG E 4 0 0 (CW t a x) 61 [(0, .ref (a 10)), (1, .int v1), (2, .int v2), (3, .int v3)] [.int s0, .int s1, .ref (a 10)] := by
  intro v1 v2 v3 s0 s1 x hf
  rw [fX9_measure_61] at hf
  refine z_iadd C dX9_measure_61 ?_
  refine cp_Spots_lostOnes C uX9_measure_9 (by decide +kernel) dX9_measure_62 ?_
  refine z_iinc C (v3 + 1) [(3, .int (v3 + 1)), (0, .ref (a 10)), (1, .int v1), (2, .int v2)] dX9_measure_65 3 rfl rfl (by decide) rfl ?_
  refine z_goto C 7 dX9_measure_68 (by decide) ?_
  exact z_sub [1, 2, 3, 0] rfl (Kb7 _ _ _ _ hf)
set_option maxHeartbeats 4000000 in
set_option maxRecDepth 100000 in
theorem kX9_measure_41 (E : zE) (t : zTy) (a : Nat → Nat) (out : ST) (C : zC E cX9_measure 4 RX9 wsX9_measure (zrm 2 47) t) (R : zRv E cX9_measure 4 (CW t a out)) (kb7 : Int32 → Int32 → Int32 → ST → Option (ST)) (Kb7 : ∀ (v1 : Int32) (v2 : Int32) (v3 : Int32) (x : ST), kb7 v1 v2 v3 x = some out → zG E 4 0 0 (CW t a x) 7 [(0, .ref (a 10)), (1, .int v1), (2, .int v2), (3, .int v3)] []) : ∀ (v1 : Int32) (v2 : Int32) (v3 : Int32) (s0 : Int32) (s1 : Int32) (x : ST), fX9_measure_41 kb7 v1 v2 v3 s0 s1 x = some out → zG E 4 0 0 (CW t a x) 41 [(0, .ref (a 10)), (1, .int v1), (2, .int v2), (3, .int v3)] [.int s0, .int s1, .ref (a 40)] := by
  intro v1 v2 v3 s0 s1 x hf
  rw [fX9_measure_41] at hf
  obtain ⟨h6, hf⟩ := z_some hf
  refine z_zast C 40 cw_at_40 h6 (w' := CW t a (sA x 40 s1 (vp_nar .boolean s0))) cw_up_40 dX9_measure_41 ?_
  refine z_aload_n C dX9_measure_42 rfl 0 rfl ?_
  refine z_dup C dX9_measure_43 rfl ?_
  refine cg_Spots_lostOnes C uX9_measure_9 (by decide +kernel) dX9_measure_44 ?_
  refine z_aload_n C dX9_measure_47 rfl 0 rfl ?_
  refine cg_Spots_lost C uX9_measure_9 (by decide +kernel) dX9_measure_48 ?_
  refine z_iload_n C dX9_measure_51 rfl 3 rfl ?_
  obtain ⟨h7, hf⟩ := z_some hf
  refine z_zald C 40 cw_at_40 h7 dX9_measure_52 ?_
  refine z_if_eq C 60 dX9_measure_53 (by decide) (fun c8 => ?_) (fun c8 => ?_)
  · replace hf := z_ift c8 hf
    refine z_iconst C dX9_measure_60 0 rfl ?_
    exact z_sub [0, 1, 2, 3] rfl (kX9_measure_61 E t a out C R (kb7) (Kb7) _ _ _ _ _ _ hf)
  · replace hf := z_iff c8 hf
    refine z_iconst C dX9_measure_56 1 rfl ?_
    refine z_goto C 61 dX9_measure_57 (by decide) ?_
    exact z_sub [0, 1, 2, 3] rfl (kX9_measure_61 E t a out C R (kb7) (Kb7) _ _ _ _ _ _ hf)
set_option maxHeartbeats 4000000 in
set_option maxRecDepth 100000 in
theorem kX9_measure_7 (E : zE) (t : zTy) (a : Nat → Nat) (out : ST) (C : zC E cX9_measure 4 RX9 wsX9_measure (zrm 2 47) t) (R : zRv E cX9_measure 4 (CW t a out)) : ∀ (n : Nat) (v1 : Int32) (v2 : Int32) (v3 : Int32) (x : ST), fX9_measure_7 n v1 v2 v3 x = some out → zG E 4 0 0 (CW t a x) 7 [(0, .ref (a 10)), (1, .int v1), (2, .int v2), (3, .int v3)] [] := by
  intro n
  induction n with
  | zero =>
    intro v1 v2 v3 x hf
    cases hf
  | succ n ih =>
    intro v1 v2 v3 x hf
    rw [fX9_measure_7] at hf
    refine z_iload_n C dX9_measure_7 rfl 3 rfl ?_
    refine z_aload_n C dX9_measure_8 rfl 0 rfl ?_
    refine cg_Spots_count C uX9_measure_9 (by decide +kernel) dX9_measure_9 ?_
    refine z_icmp_ge C 71 dX9_measure_12 (by decide) (fun c1 => ?_) (fun c1 => ?_)
    · replace hf := z_ift c1 hf
      cases hf
      exact R _ _ dX9_measure_71
    · replace hf := z_iff c1 hf
      refine z_aload_n C dX9_measure_15 rfl 0 rfl ?_
      refine z_iload_n C dX9_measure_16 rfl 3 rfl ?_
      refine z_iload_n C dX9_measure_17 rfl 1 rfl ?_
      obtain ⟨q2, h3, hf⟩ := z_bind hf
      refine z_callVv C (rest := []) (tX9_measureOne (ze_l E) (ze_D E) t a h3) gX9_measure_X9_measureOne rfl hdX9_measureOne ⟨(Nat.le_of_ble_eq_true rfl), (Nat.le_of_ble_eq_true rfl)⟩ ⟨Nat.zero_le _, Nat.zero_le _⟩ 10 cw_at_10 rfl rfl rfl (Nat.le_of_ble_eq_true rfl) dX9_measure_18 ?_
      refine z_aload_n C dX9_measure_21 rfl 0 rfl ?_
      refine cg_Spots_lost C uX9_measure_9 (by decide +kernel) dX9_measure_22 ?_
      refine z_iload_n C dX9_measure_25 rfl 3 rfl ?_
      refine z_aload_n C dX9_measure_26 rfl 0 rfl ?_
      refine cg_Spots_sums C uX9_measure_9 (by decide +kernel) dX9_measure_27 ?_
      refine z_iload_n C dX9_measure_30 rfl 3 rfl ?_
      obtain ⟨h4, hf⟩ := z_some hf
      refine z_iald C 38 cw_at_38 h4 dX9_measure_31 ?_
      refine z_iload_n C dX9_measure_32 rfl 2 rfl ?_
      refine z_icmp_ge C 40 dX9_measure_33 (by decide) (fun c5 => ?_) (fun c5 => ?_)
      · replace hf := z_ift c5 hf
        refine z_iconst C dX9_measure_40 0 rfl ?_
        exact z_sub [0, 1, 2, 3] rfl (kX9_measure_41 E t a out C R (fX9_measure_7 n) (ih) _ _ _ _ _ _ hf)
      · replace hf := z_iff c5 hf
        refine z_iconst C dX9_measure_36 1 rfl ?_
        refine z_goto C 41 dX9_measure_37 (by decide) ?_
        exact z_sub [0, 1, 2, 3] rfl (kX9_measure_41 E t a out C R (fX9_measure_7 n) (ih) _ _ _ _ _ _ hf)
theorem hdX9_measure : yX9_measure.cls = RX9 ∧ yX9_measure.cls ≠ "java/lang/invoke/MethodHandle" ∧ yX9_measure.cls ≠ "java/lang/invoke/VarHandle" ∧ (parseMethodDescriptor yX9_measure.desc).map (fun d => d.parameters.length) = some 2 := by decide +kernel
set_option maxHeartbeats 4000000 in
set_option maxRecDepth 100000 in
theorem tX9_measure (l : Launch) (D : va_G) (t : zTy) (a : Nat → Nat) {v1 : Int32} {v2 : Int32} {x : ST} {out : ST} (hf : fX9_measure v1 v2 x = some out) : zMv l yX9_measure wsX9_measure 2 47 D t [.ref (a 10), .int v1, .int v2] (CW t a x) (CW t a out) := by
  refine z_entry_v (cc := cX9_measure) (nL := 4) (by decide) rfl (Nat.le_of_ble_eq_true rfl) (fun E _ _ C R => ?_)
  refine z_sub (lv' := [(0, .ref (a 10)), (1, .int v1), (2, .int v2)]) [0, 1, 2] rfl ?_
  rw [fX9_measure] at hf
  refine z_aload_n C dX9_measure_0 rfl 0 rfl ?_
  refine z_iconst C dX9_measure_1 0 rfl ?_
  refine cp_Spots_lostOnes C uX9_measure_9 (by decide +kernel) dX9_measure_2 ?_
  refine z_iconst C dX9_measure_5 0 rfl ?_
  refine z_istore_n C [(3, .int 0), (0, .ref (a 10)), (1, .int v1), (2, .int v2)] dX9_measure_6 rfl (by decide) rfl ?_
  exact z_sub [1, 2, 3, 0] rfl (kX9_measure_7 E t a out C R 200 _ _ _ _ hf)
theorem uX9_lostOnes_9 : ∀ w ∈ wsX90, w ∈ wsX9_lostOnes := by decide +kernel
theorem hdX9_lostOnes : yX9_lostOnes.cls = RX9 ∧ yX9_lostOnes.cls ≠ "java/lang/invoke/MethodHandle" ∧ yX9_lostOnes.cls ≠ "java/lang/invoke/VarHandle" ∧ (parseMethodDescriptor yX9_lostOnes.desc).map (fun d => d.parameters.length) = some 0 := by decide +kernel
set_option maxHeartbeats 4000000 in
set_option maxRecDepth 100000 in
theorem tX9_lostOnes (l : Launch) (D : va_G) (t : zTy) (a : Nat → Nat)  {x : ST} {out : Int32 × ST} (hf : fX9_lostOnes  x = some out) : zMi l yX9_lostOnes wsX9_lostOnes 0 0 D t [.ref (a 10)] (CW t a x) out.1 (CW t a out.2) := by
  refine z_entry_i (cc := cX9_lostOnes) (nL := 1) (by decide) rfl (Nat.le_of_ble_eq_true rfl) (fun E _ _ C R => ?_)
  refine z_sub (lv' := [(0, .ref (a 10))]) [0] rfl ?_
  rw [fX9_lostOnes] at hf
  refine z_aload_n C dX9_lostOnes_0 rfl 0 rfl ?_
  refine cg_Spots_lostOnes C uX9_lostOnes_9 (by decide +kernel) dX9_lostOnes_1 ?_
  cases hf
  exact R _ _ dX9_lostOnes_4
theorem uX9_lightOf_9 : ∀ w ∈ wsX90, w ∈ wsX9_lightOf := by decide +kernel
theorem hdX9_lightOf : yX9_lightOf.cls = RX9 ∧ yX9_lightOf.cls ≠ "java/lang/invoke/MethodHandle" ∧ yX9_lightOf.cls ≠ "java/lang/invoke/VarHandle" ∧ (parseMethodDescriptor yX9_lightOf.desc).map (fun d => d.parameters.length) = some 1 := by decide +kernel
set_option maxHeartbeats 4000000 in
set_option maxRecDepth 100000 in
theorem tX9_lightOf (l : Launch) (D : va_G) (t : zTy) (a : Nat → Nat) {v1 : Int32} {x : ST} {out : Int32 × ST} (hf : fX9_lightOf v1 x = some out) : zMi l yX9_lightOf wsX9_lightOf 0 0 D t [.ref (a 10), .int v1] (CW t a x) out.1 (CW t a out.2) := by
  refine z_entry_i (cc := cX9_lightOf) (nL := 2) (by decide) rfl (Nat.le_of_ble_eq_true rfl) (fun E _ _ C R => ?_)
  refine z_sub (lv' := [(0, .ref (a 10)), (1, .int v1)]) [0, 1] rfl ?_
  rw [fX9_lightOf] at hf
  refine z_aload_n C dX9_lightOf_0 rfl 0 rfl ?_
  refine cg_Spots_sums C uX9_lightOf_9 (by decide +kernel) dX9_lightOf_1 ?_
  refine z_iload_n C dX9_lightOf_4 rfl 1 rfl ?_
  obtain ⟨h1, hf⟩ := z_some hf
  refine z_iald C 38 cw_at_38 h1 dX9_lightOf_5 ?_
  cases hf
  exact R _ _ dX9_lightOf_6
theorem uX9_middleOf_9 : ∀ w ∈ wsX90, w ∈ wsX9_middleOf := by decide +kernel
theorem hdX9_middleOf : yX9_middleOf.cls = RX9 ∧ yX9_middleOf.cls ≠ "java/lang/invoke/MethodHandle" ∧ yX9_middleOf.cls ≠ "java/lang/invoke/VarHandle" ∧ (parseMethodDescriptor yX9_middleOf.desc).map (fun d => d.parameters.length) = some 1 := by decide +kernel
set_option maxHeartbeats 4000000 in
set_option maxRecDepth 100000 in
theorem tX9_middleOf (l : Launch) (D : va_G) (t : zTy) (a : Nat → Nat) {v1 : Int32} {x : ST} {out : Int32 × ST} (hf : fX9_middleOf v1 x = some out) : zMi l yX9_middleOf wsX9_middleOf 0 0 D t [.ref (a 10), .int v1] (CW t a x) out.1 (CW t a out.2) := by
  refine z_entry_i (cc := cX9_middleOf) (nL := 2) (by decide) rfl (Nat.le_of_ble_eq_true rfl) (fun E _ _ C R => ?_)
  refine z_sub (lv' := [(0, .ref (a 10)), (1, .int v1)]) [0, 1] rfl ?_
  rw [fX9_middleOf] at hf
  refine z_aload_n C dX9_middleOf_0 rfl 0 rfl ?_
  refine cg_Spots_middles C uX9_middleOf_9 (by decide +kernel) dX9_middleOf_1 ?_
  refine z_iload_n C dX9_middleOf_4 rfl 1 rfl ?_
  obtain ⟨h1, hf⟩ := z_some hf
  refine z_iald C 39 cw_at_39 h1 dX9_middleOf_5 ?_
  cases hf
  exact R _ _ dX9_middleOf_6
theorem uX10_renew_10 : ∀ w ∈ wsX100, w ∈ wsX10_renew := by decide +kernel
theorem hdX10_renew : yX10_renew.cls = RX10 ∧ yX10_renew.cls ≠ "java/lang/invoke/MethodHandle" ∧ yX10_renew.cls ≠ "java/lang/invoke/VarHandle" ∧ (parseMethodDescriptor yX10_renew.desc).map (fun d => d.parameters.length) = some 0 := by decide +kernel
set_option maxHeartbeats 4000000 in
set_option maxRecDepth 100000 in
theorem tX10_renew (l : Launch) (D : va_G) (t : zTy) (a : Nat → Nat)  {x : ST} {out : ST} (hf : fX10_renew  x = some out) : zMv l yX10_renew wsX10_renew 1 23 D t [.ref (a 11)] (CW t a x) (CW t a out) := by
  refine z_entry_v (cc := cX10_renew) (nL := 1) (by decide) rfl (Nat.le_of_ble_eq_true rfl) (fun E _ _ C R => ?_)
  refine z_sub (lv' := [(0, .ref (a 11))]) [0] rfl ?_
  rw [fX10_renew] at hf
  refine z_aload_n C dX10_renew_0 rfl 0 rfl ?_
  refine cg_Table_numbers C uX10_renew_10 (by decide +kernel) dX10_renew_1 ?_
  refine z_iconst C dX10_renew_4 0 rfl ?_
  refine z_callSv C (w' := CW t a (sF x 41 (zfill (gA x 41) 40 0))) (rest := []) (tJ7_fill_53178 (ze_l E) (ze_D E) t _ 41 cw_at_41 (by decide) cw_up_41) gX10_renew_J7_fill_53178 rfl hdJ7_fill_53178 ⟨(Nat.le_of_ble_eq_true rfl), (Nat.le_of_ble_eq_true rfl)⟩ ⟨Nat.zero_le _, Nat.zero_le _⟩ rfl rfl (Nat.le_of_ble_eq_true rfl) dX10_renew_5 ?_
  refine z_aload_n C dX10_renew_8 rfl 0 rfl ?_
  refine cg_Table_pokes C uX10_renew_10 (by decide +kernel) dX10_renew_9 ?_
  refine z_iconst C dX10_renew_12 0 rfl ?_
  refine z_callSv C (w' := CW t a (sF (sF x 41 (zfill (gA x 41) 40 0)) 46 (zfill (gA (sF x 41 (zfill (gA x 41) 40 0)) 46) 5 0))) (rest := []) (tJ7_fill_53178 (ze_l E) (ze_D E) t _ 46 cw_at_46 (by decide) cw_up_46) gX10_renew_J7_fill_53178 rfl hdJ7_fill_53178 ⟨(Nat.le_of_ble_eq_true rfl), (Nat.le_of_ble_eq_true rfl)⟩ ⟨Nat.zero_le _, Nat.zero_le _⟩ rfl rfl (Nat.le_of_ble_eq_true rfl) dX10_renew_13 ?_
  cases hf
  exact R _ _ dX10_renew_16
theorem uX10_pokesOf_10 : ∀ w ∈ wsX100, w ∈ wsX10_pokesOf := by decide +kernel
theorem hdX10_pokesOf : yX10_pokesOf.cls = RX10 ∧ yX10_pokesOf.cls ≠ "java/lang/invoke/MethodHandle" ∧ yX10_pokesOf.cls ≠ "java/lang/invoke/VarHandle" ∧ (parseMethodDescriptor yX10_pokesOf.desc).map (fun d => d.parameters.length) = some 1 := by decide +kernel
set_option maxHeartbeats 4000000 in
set_option maxRecDepth 100000 in
theorem tX10_pokesOf (l : Launch) (D : va_G) (t : zTy) (a : Nat → Nat) {v1 : Int32} {x : ST} {out : Int32 × ST} (hf : fX10_pokesOf v1 x = some out) : zMi l yX10_pokesOf wsX10_pokesOf 0 0 D t [.ref (a 11), .int v1] (CW t a x) out.1 (CW t a out.2) := by
  refine z_entry_i (cc := cX10_pokesOf) (nL := 2) (by decide) rfl (Nat.le_of_ble_eq_true rfl) (fun E _ _ C R => ?_)
  refine z_sub (lv' := [(0, .ref (a 11)), (1, .int v1)]) [0, 1] rfl ?_
  rw [fX10_pokesOf] at hf
  refine z_aload_n C dX10_pokesOf_0 rfl 0 rfl ?_
  refine cg_Table_pokes C uX10_pokesOf_10 (by decide +kernel) dX10_pokesOf_1 ?_
  refine z_iload_n C dX10_pokesOf_4 rfl 1 rfl ?_
  obtain ⟨h1, hf⟩ := z_some hf
  refine z_iald C 46 cw_at_46 h1 dX10_pokesOf_5 ?_
  cases hf
  exact R _ _ dX10_pokesOf_6
theorem uX10_doubt_10 : ∀ w ∈ wsX100, w ∈ wsX10_doubt := by decide +kernel
theorem hdX10_doubt : yX10_doubt.cls = RX10 ∧ yX10_doubt.cls ≠ "java/lang/invoke/MethodHandle" ∧ yX10_doubt.cls ≠ "java/lang/invoke/VarHandle" ∧ (parseMethodDescriptor yX10_doubt.desc).map (fun d => d.parameters.length) = some 2 := by decide +kernel
set_option maxHeartbeats 4000000 in
set_option maxRecDepth 100000 in
theorem tX10_doubt (l : Launch) (D : va_G) (t : zTy) (a : Nat → Nat) {v1 : Int32} {v2 : Int32} {x : ST} {out : Int32 × ST} (hf : fX10_doubt v1 v2 x = some out) : zMi l yX10_doubt wsX10_doubt 0 0 D t [.ref (a 11), .int v1, .int v2] (CW t a x) out.1 (CW t a out.2) := by
  refine z_entry_i (cc := cX10_doubt) (nL := 4) (by decide) rfl (Nat.le_of_ble_eq_true rfl) (fun E _ _ C R => ?_)
  refine z_sub (lv' := [(0, .ref (a 11)), (1, .int v1), (2, .int v2)]) [0, 1, 2] rfl ?_
  rw [fX10_doubt] at hf
  refine z_iload_n C dX10_doubt_0 rfl 1 rfl ?_
  refine z_iconst C dX10_doubt_1 5 rfl ?_
  refine z_imul C dX10_doubt_2 ?_
  refine z_iload_n C dX10_doubt_3 rfl 2 rfl ?_
  refine z_iadd C dX10_doubt_4 ?_
  refine z_istore_n C [(3, .int ((v1 * 5) + v2)), (0, .ref (a 11)), (1, .int v1), (2, .int v2)] dX10_doubt_5 rfl (by decide) rfl ?_
  refine z_aload_n C dX10_doubt_6 rfl 1 rfl ?_
  refine cg_Table_greatest C uX10_doubt_10 (by decide +kernel) dX10_doubt_7 ?_
  refine z_iload_n C dX10_doubt_10 rfl 0 rfl ?_
  obtain ⟨h1, hf⟩ := z_some hf
  refine z_iald C 43 cw_at_43 h1 dX10_doubt_11 ?_
  refine z_aload_n C dX10_doubt_12 rfl 1 rfl ?_
  refine cg_Table_least C uX10_doubt_10 (by decide +kernel) dX10_doubt_13 ?_
  refine z_iload_n C dX10_doubt_16 rfl 0 rfl ?_
  obtain ⟨h2, hf⟩ := z_some hf
  refine z_iald C 44 cw_at_44 h2 dX10_doubt_17 ?_
  refine z_isub C dX10_doubt_18 ?_
  cases hf
  exact R _ _ dX10_doubt_19
theorem uX10_swap_10 : ∀ w ∈ wsX100, w ∈ wsX10_swap := by decide +kernel
theorem hdX10_swap : yX10_swap.cls = RX10 ∧ yX10_swap.cls ≠ "java/lang/invoke/MethodHandle" ∧ yX10_swap.cls ≠ "java/lang/invoke/VarHandle" ∧ (parseMethodDescriptor yX10_swap.desc).map (fun d => d.parameters.length) = some 3 := by decide +kernel
set_option maxHeartbeats 4000000 in
set_option maxRecDepth 100000 in
theorem tX10_swap (l : Launch) (D : va_G) (t : zTy) (a : Nat → Nat) {v1 : Int32} {v2 : Int32} {v3 : Int32} {x : ST} {out : Int32 × ST} (hf : fX10_swap v1 v2 v3 x = some out) : zMi l yX10_swap wsX10_swap 0 0 D t [.ref (a 11), .int v1, .int v2, .int v3] (CW t a x) out.1 (CW t a out.2) := by
  refine z_entry_i (cc := cX10_swap) (nL := 5) (by decide) rfl (Nat.le_of_ble_eq_true rfl) (fun E _ _ C R => ?_)
  refine z_sub (lv' := [(0, .ref (a 11)), (1, .int v1), (2, .int v2), (3, .int v3)]) [0, 1, 2, 3] rfl ?_
  rw [fX10_swap] at hf
  refine z_aload_n C dX10_swap_0 rfl 0 rfl ?_
  refine cg_Table_numbers C uX10_swap_10 (by decide +kernel) dX10_swap_1 ?_
  refine z_iload_n C dX10_swap_4 rfl 1 rfl ?_
  refine z_iconst C dX10_swap_5 5 rfl ?_
  refine z_imul C dX10_swap_6 ?_
  refine z_iload_n C dX10_swap_7 rfl 2 rfl ?_
  refine z_iadd C dX10_swap_8 ?_
  obtain ⟨h1, hf⟩ := z_some hf
  refine z_iald C 41 cw_at_41 h1 dX10_swap_9 ?_
  refine z_istore C [(4, .int (gA x 41 ((v1 * 5) + v2).toNatClampNeg)), (0, .ref (a 11)), (1, .int v1), (2, .int v2), (3, .int v3)] dX10_swap_10 (by decide) rfl ?_
  refine z_aload_n C dX10_swap_12 rfl 1 rfl ?_
  refine cg_Table_numbers C uX10_swap_10 (by decide +kernel) dX10_swap_13 ?_
  refine z_iload_n C dX10_swap_16 rfl 2 rfl ?_
  refine z_iconst C dX10_swap_17 5 rfl ?_
  refine z_imul C dX10_swap_18 ?_
  refine z_iload_n C dX10_swap_19 rfl 3 rfl ?_
  refine z_iadd C dX10_swap_20 ?_
  refine z_iload_n C dX10_swap_21 rfl 4 rfl ?_
  obtain ⟨h2, hf⟩ := z_some hf
  refine z_iast C 41 cw_at_41 h2 (w' := CW t a (sA x 41 ((v1 * 5) + v2) v3)) cw_up_41 dX10_swap_22 ?_
  refine z_aload_n C dX10_swap_23 rfl 1 rfl ?_
  refine cg_Table_pokes C uX10_swap_10 (by decide +kernel) dX10_swap_24 ?_
  refine z_iload_n C dX10_swap_27 rfl 3 rfl ?_
  refine z_iconst C dX10_swap_28 0 rfl ?_
  obtain ⟨h3, hf⟩ := z_some hf
  refine z_iast C 46 cw_at_46 h3 (w' := CW t a (sA (sA x 41 ((v1 * 5) + v2) v3) 46 v2 0)) cw_up_46 dX10_swap_29 ?_
  refine z_iload C dX10_swap_30 0 rfl ?_
  cases hf
  exact R _ _ dX10_swap_32
theorem uX10_begin_10 : ∀ w ∈ wsX100, w ∈ wsX10_begin := by decide +kernel
set_option maxHeartbeats 4000000 in
set_option maxRecDepth 100000 in
theorem kX10_begin_24 (E : zE) (t : zTy) (a : Nat → Nat) (out : ST) (C : zC E cX10_begin 3 RX10 wsX10_begin (zrm 0 0) t) (R : zRv E cX10_begin 3 (CW t a out)) : ∀ (v1 : Int32) (v2 : Int32) (s0 : Int32) (s1 : Int32) (x : ST), fX10_begin_24 v1 v2 s0 s1 x = some out → zG E 3 0 0 (CW t a x) 24 [(0, .ref (a 11)), (1, .int v1), (2, .int v2)] [.int s0, .int s1, .ref (a 45)] := by
  intro v1 v2 s0 s1 x hf
  rw [fX10_begin_24] at hf
  refine z_iload_n C dX10_begin_24 rfl 2 rfl ?_
  refine z_iadd C dX10_begin_25 ?_
  obtain ⟨h4, hf⟩ := z_some hf
  refine z_iast C 45 cw_at_45 h4 (w' := CW t a (sA x 45 s1 (s0 + v2))) cw_up_45 dX10_begin_26 ?_
  refine z_aload_n C dX10_begin_27 rfl 0 rfl ?_
  refine cg_Table_pokes C uX10_begin_10 (by decide +kernel) dX10_begin_28 ?_
  refine z_iload_n C dX10_begin_31 rfl 1 rfl ?_
  refine z_dup2 C dX10_begin_32 rfl rfl ?_
  obtain ⟨h5, hf⟩ := z_some hf
  refine z_iald C 46 cw_at_46 h5 dX10_begin_33 ?_
  refine z_iconst C dX10_begin_34 1 rfl ?_
  refine z_iadd C dX10_begin_35 ?_
  obtain ⟨h6, hf⟩ := z_some hf
  refine z_iast C 46 cw_at_46 h6 (w' := CW t a (sA (sA x 45 s1 (s0 + v2)) 46 v1 ((gA (sA x 45 s1 (s0 + v2)) 46 v1.toNatClampNeg) + 1))) cw_up_46 dX10_begin_36 ?_
  cases hf
  exact R _ _ dX10_begin_37
theorem hdX10_begin : yX10_begin.cls = RX10 ∧ yX10_begin.cls ≠ "java/lang/invoke/MethodHandle" ∧ yX10_begin.cls ≠ "java/lang/invoke/VarHandle" ∧ (parseMethodDescriptor yX10_begin.desc).map (fun d => d.parameters.length) = some 2 := by decide +kernel
set_option maxHeartbeats 4000000 in
set_option maxRecDepth 100000 in
theorem tX10_begin (l : Launch) (D : va_G) (t : zTy) (a : Nat → Nat) {v1 : Int32} {v2 : Int32} {x : ST} {out : ST} (hf : fX10_begin v1 v2 x = some out) : zMv l yX10_begin wsX10_begin 0 0 D t [.ref (a 11), .int v1, .int v2] (CW t a x) (CW t a out) := by
  refine z_entry_v (cc := cX10_begin) (nL := 3) (by decide) rfl (Nat.le_of_ble_eq_true rfl) (fun E _ _ C R => ?_)
  refine z_sub (lv' := [(0, .ref (a 11)), (1, .int v1), (2, .int v2)]) [0, 1, 2] rfl ?_
  rw [fX10_begin] at hf
  refine z_aload_n C dX10_begin_0 rfl 0 rfl ?_
  refine cg_Table_bys C uX10_begin_10 (by decide +kernel) dX10_begin_1 ?_
  refine z_iload_n C dX10_begin_4 rfl 1 rfl ?_
  refine z_aload_n C dX10_begin_5 rfl 0 rfl ?_
  refine cg_Table_pokes C uX10_begin_10 (by decide +kernel) dX10_begin_6 ?_
  refine z_iload_n C dX10_begin_9 rfl 1 rfl ?_
  obtain ⟨h1, hf⟩ := z_some hf
  refine z_iald C 46 cw_at_46 h1 dX10_begin_10 ?_
  refine z_if_ne C 18 dX10_begin_11 (by decide) (fun c2 => ?_) (fun c2 => ?_)
  · replace hf := z_iff c2 hf
    refine z_aload_n C dX10_begin_18 rfl 0 rfl ?_
    refine cg_Table_bys C uX10_begin_10 (by decide +kernel) dX10_begin_19 ?_
    refine z_iload_n C dX10_begin_22 rfl 1 rfl ?_
    obtain ⟨h3, hf⟩ := z_some hf
    refine z_iald C 45 cw_at_45 h3 dX10_begin_23 ?_
    exact z_sub [0, 1, 2] rfl (kX10_begin_24 E t a out C R _ _ _ _ _ hf)
  · replace hf := z_ift c2 hf
    refine z_iconst C dX10_begin_14 0 rfl ?_
    refine z_goto C 24 dX10_begin_15 (by decide) ?_
    exact z_sub [0, 1, 2] rfl (kX10_begin_24 E t a out C R _ _ _ _ _ hf)
theorem uX10_add_10 : ∀ w ∈ wsX100, w ∈ wsX10_add := by decide +kernel
set_option maxHeartbeats 4000000 in
set_option maxRecDepth 100000 in
theorem kX10_add_115 (E : zE) (t : zTy) (a : Nat → Nat) (out : ST) (C : zC E cX10_add 8 RX10 wsX10_add (zrm 2 36) t) (R : zRv E cX10_add 8 (CW t a out)) : ∀ (v2 : Int32) (v5 : Int32) (s0 : Int32) (s1 : Int32) (x : ST), fX10_add_115 v2 v5 s0 s1 x = some out → zG E 8 0 0 (CW t a x) 115 [(0, .ref (a 11)), (2, .int v2), (5, .int v5)] [.int s0, .int s1, .ref (a 44)] := by
  intro v2 v5 s0 s1 x hf
  rw [fX10_add_115] at hf
  obtain ⟨h13, hf⟩ := z_some hf
  refine z_iast C 44 cw_at_44 h13 (w' := CW t a (sA x 44 s1 s0)) cw_up_44 dX10_add_115 ?_
  refine z_aload_n C dX10_add_116 rfl 0 rfl ?_
  refine cg_Table_numbers C uX10_add_10 (by decide +kernel) dX10_add_117 ?_
  refine z_iload C dX10_add_120 2 rfl ?_
  refine z_aload_n C dX10_add_122 rfl 0 rfl ?_
  refine cg_Table_changes C uX10_add_10 (by decide +kernel) dX10_add_123 ?_
  refine z_iload C dX10_add_126 2 rfl ?_
  obtain ⟨h14, hf⟩ := z_some hf
  refine z_iald C 42 cw_at_42 h14 dX10_add_128 ?_
  refine z_aload_n C dX10_add_129 rfl 0 rfl ?_
  refine cg_Table_bys C uX10_add_10 (by decide +kernel) dX10_add_130 ?_
  refine z_iload_n C dX10_add_133 rfl 1 rfl ?_
  obtain ⟨h15, hf⟩ := z_some hf
  refine z_iald C 45 cw_at_45 h15 dX10_add_134 ?_
  obtain ⟨q16, h17, hf⟩ := z_bind hf
  refine z_callNi C (rest := [.int v5, .ref (a 41)]) (tX11_cut (ze_l E) (ze_D E) t _ h17) gX10_add_X11_cut_n36 (host := RX11) (by decide +kernel) (by decide +kernel) (by decide +kernel) rfl hdX11_cut ⟨(Nat.le_of_ble_eq_true rfl), (Nat.le_of_ble_eq_true rfl)⟩ ⟨Nat.zero_le _, Nat.zero_le _⟩ rfl rfl (Nat.le_of_ble_eq_true rfl) dX10_add_135 ?_
  refine z_bipush C dX10_add_138 (-9) rfl ?_
  refine z_bipush C dX10_add_140 9 rfl ?_
  obtain ⟨q18, h19, hf⟩ := z_bind hf
  refine z_callNi C (rest := [.int v5, .ref (a 41)]) (tX11_held (ze_l E) (ze_D E) t _ h19) gX10_add_X11_held_n48 (host := RX11) (by decide +kernel) (by decide +kernel) (by decide +kernel) rfl hdX11_held ⟨(Nat.le_of_ble_eq_true rfl), (Nat.le_of_ble_eq_true rfl)⟩ ⟨Nat.zero_le _, Nat.zero_le _⟩ rfl rfl (Nat.le_of_ble_eq_true rfl) dX10_add_142 ?_
  obtain ⟨h20, hf⟩ := z_some hf
  refine z_iast C 41 cw_at_41 h20 (w' := CW t a (sA (sA x 44 s1 s0) 41 v5 q18)) cw_up_41 dX10_add_145 ?_
  cases hf
  exact R _ _ dX10_add_146
set_option maxHeartbeats 4000000 in
set_option maxRecDepth 100000 in
theorem kX10_add_86 (E : zE) (t : zTy) (a : Nat → Nat) (out : ST) (C : zC E cX10_add 8 RX10 wsX10_add (zrm 2 36) t) (R : zRv E cX10_add 8 (CW t a out)) : ∀ (v2 : Int32) (v5 : Int32) (v6 : Int32) (v7 : Int32) (s0 : Int32) (s1 : Int32) (x : ST), fX10_add_86 v2 v5 v6 v7 s0 s1 x = some out → zG E 8 0 0 (CW t a x) 86 [(0, .ref (a 11)), (2, .int v2), (5, .int v5), (6, .int v6), (7, .int v7)] [.int s0, .int s1, .ref (a 43)] := by
  intro v2 v5 v6 v7 s0 s1 x hf
  rw [fX10_add_86] at hf
  obtain ⟨h10, hf⟩ := z_some hf
  refine z_iast C 43 cw_at_43 h10 (w' := CW t a (sA x 43 s1 s0)) cw_up_43 dX10_add_86 ?_
  refine z_aload_n C dX10_add_87 rfl 0 rfl ?_
  refine cg_Table_least C uX10_add_10 (by decide +kernel) dX10_add_88 ?_
  refine z_iload C dX10_add_91 2 rfl ?_
  refine z_iload C dX10_add_93 4 rfl ?_
  refine z_if_eq C 103 dX10_add_95 (by decide) (fun c11 => ?_) (fun c11 => ?_)
  · replace hf := z_ift c11 hf
    refine z_aload_n C dX10_add_103 rfl 0 rfl ?_
    refine cg_Table_least C uX10_add_10 (by decide +kernel) dX10_add_104 ?_
    refine z_iload C dX10_add_107 2 rfl ?_
    obtain ⟨h12, hf⟩ := z_some hf
    refine z_iald C 44 cw_at_44 h12 dX10_add_109 ?_
    refine z_iload C dX10_add_110 3 rfl ?_
    refine z_mmin C (by decide +kernel) (by decide +kernel) (by decide +kernel) (by decide +kernel) (Nat.le_of_ble_eq_true rfl) (Nat.le_of_ble_eq_true rfl) (Nat.zero_le _) (Nat.zero_le _) dX10_add_112 ?_
    exact z_sub [0, 1, 2] rfl (kX10_add_115 E t a out C R _ _ _ _ _ hf)
  · replace hf := z_iff c11 hf
    refine z_iload C dX10_add_98 3 rfl ?_
    refine z_goto C 115 dX10_add_100 (by decide) ?_
    exact z_sub [0, 1, 2] rfl (kX10_add_115 E t a out C R _ _ _ _ _ hf)
set_option maxHeartbeats 4000000 in
set_option maxRecDepth 100000 in
theorem kX10_add_54 (E : zE) (t : zTy) (a : Nat → Nat) (out : ST) (C : zC E cX10_add 8 RX10 wsX10_add (zrm 2 36) t) (R : zRv E cX10_add 8 (CW t a out)) : ∀ (v2 : Int32) (v4 : Int32) (v5 : Int32) (v6 : Int32) (v7 : Int32) (s0 : Int32) (s1 : Int32) (x : ST), fX10_add_54 v2 v4 v5 v6 v7 s0 s1 x = some out → zG E 8 0 0 (CW t a x) 54 [(0, .ref (a 11)), (2, .int v2), (4, .int v4), (5, .int v5), (6, .int v6), (7, .int v7)] [.int s0, .int s1, .ref (a 42)] := by
  intro v2 v4 v5 v6 v7 s0 s1 x hf
  rw [fX10_add_54] at hf
  refine z_iload C dX10_add_54 2 rfl ?_
  refine z_iadd C dX10_add_56 ?_
  obtain ⟨h7, hf⟩ := z_some hf
  refine z_iast C 42 cw_at_42 h7 (w' := CW t a (sA x 42 s1 (s0 + v4))) cw_up_42 dX10_add_57 ?_
  refine z_aload_n C dX10_add_58 rfl 0 rfl ?_
  refine cg_Table_greatest C uX10_add_10 (by decide +kernel) dX10_add_59 ?_
  refine z_iload C dX10_add_62 3 rfl ?_
  refine z_iload C dX10_add_64 5 rfl ?_
  refine z_if_eq C 74 dX10_add_66 (by decide) (fun c8 => ?_) (fun c8 => ?_)
  · replace hf := z_ift c8 hf
    refine z_aload_n C dX10_add_74 rfl 0 rfl ?_
    refine cg_Table_greatest C uX10_add_10 (by decide +kernel) dX10_add_75 ?_
    refine z_iload C dX10_add_78 3 rfl ?_
    obtain ⟨h9, hf⟩ := z_some hf
    refine z_iald C 43 cw_at_43 h9 dX10_add_80 ?_
    refine z_iload C dX10_add_81 4 rfl ?_
    refine z_mmax C (by decide +kernel) (by decide +kernel) (by decide +kernel) (by decide +kernel) (Nat.le_of_ble_eq_true rfl) (Nat.le_of_ble_eq_true rfl) (Nat.zero_le _) (Nat.zero_le _) dX10_add_83 ?_
    exact z_sub [0, 1, 3, 4, 5] rfl (kX10_add_86 E t a out C R _ _ _ _ _ _ _ hf)
  · replace hf := z_iff c8 hf
    refine z_iload C dX10_add_69 4 rfl ?_
    refine z_goto C 86 dX10_add_71 (by decide) ?_
    exact z_sub [0, 1, 3, 4, 5] rfl (kX10_add_86 E t a out C R _ _ _ _ _ _ _ hf)
set_option maxHeartbeats 4000000 in
set_option maxRecDepth 100000 in
theorem kX10_add_30 (E : zE) (t : zTy) (a : Nat → Nat) (out : ST) (C : zC E cX10_add 8 RX10 wsX10_add (zrm 2 36) t) (R : zRv E cX10_add 8 (CW t a out)) : ∀ (v2 : Int32) (v4 : Int32) (v5 : Int32) (v6 : Int32) (s0 : Int32) (x : ST), fX10_add_30 v2 v4 v5 v6 s0 x = some out → zG E 8 0 0 (CW t a x) 30 [(0, .ref (a 11)), (2, .int v2), (4, .int v4), (5, .int v5), (6, .int v6)] [.int s0] := by
  intro v2 v4 v5 v6 s0 x hf
  rw [fX10_add_30] at hf
  refine z_istore C [(7, .int s0), (0, .ref (a 11)), (2, .int v2), (4, .int v4), (5, .int v5), (6, .int v6)] dX10_add_30 (by decide) rfl ?_
  refine z_aload_n C dX10_add_32 rfl 1 rfl ?_
  refine cg_Table_changes C uX10_add_10 (by decide +kernel) dX10_add_33 ?_
  refine z_iload C dX10_add_36 4 rfl ?_
  refine z_iload C dX10_add_38 0 rfl ?_
  refine z_if_eq C 47 dX10_add_40 (by decide) (fun c5 => ?_) (fun c5 => ?_)
  · replace hf := z_ift c5 hf
    refine z_aload_n C dX10_add_47 rfl 1 rfl ?_
    refine cg_Table_changes C uX10_add_10 (by decide +kernel) dX10_add_48 ?_
    refine z_iload C dX10_add_51 4 rfl ?_
    obtain ⟨h6, hf⟩ := z_some hf
    refine z_iald C 42 cw_at_42 h6 dX10_add_53 ?_
    exact z_sub [1, 2, 3, 4, 5, 0] rfl (kX10_add_54 E t a out C R _ _ _ _ _ _ _ _ hf)
  · replace hf := z_iff c5 hf
    refine z_iconst C dX10_add_43 0 rfl ?_
    refine z_goto C 54 dX10_add_44 (by decide) ?_
    exact z_sub [1, 2, 3, 4, 5, 0] rfl (kX10_add_54 E t a out C R _ _ _ _ _ _ _ _ hf)
theorem hdX10_add : yX10_add.cls = RX10 ∧ yX10_add.cls ≠ "java/lang/invoke/MethodHandle" ∧ yX10_add.cls ≠ "java/lang/invoke/VarHandle" ∧ (parseMethodDescriptor yX10_add.desc).map (fun d => d.parameters.length) = some 4 := by decide +kernel
set_option maxHeartbeats 4000000 in
set_option maxRecDepth 100000 in
theorem tX10_add (l : Launch) (D : va_G) (t : zTy) (a : Nat → Nat) {v1 : Int32} {v2 : Int32} {v3 : Int32} {v4 : Int32} {x : ST} {out : ST} (hf : fX10_add v1 v2 v3 v4 x = some out) : zMv l yX10_add wsX10_add 2 36 D t [.ref (a 11), .int v1, .int v2, .int v3, .int v4] (CW t a x) (CW t a out) := by
  refine z_entry_v (cc := cX10_add) (nL := 8) (by decide) rfl (Nat.le_of_ble_eq_true rfl) (fun E _ _ C R => ?_)
  refine z_sub (lv' := [(0, .ref (a 11)), (1, .int v1), (2, .int v2), (3, .int v3), (4, .int v4)]) [0, 1, 2, 3, 4] rfl ?_
  rw [fX10_add] at hf
  refine z_iload_n C dX10_add_0 rfl 1 rfl ?_
  refine z_iconst C dX10_add_1 5 rfl ?_
  refine z_imul C dX10_add_2 ?_
  refine z_iload_n C dX10_add_3 rfl 2 rfl ?_
  refine z_iadd C dX10_add_4 ?_
  refine z_istore C [(5, .int ((v1 * 5) + v2)), (0, .ref (a 11)), (1, .int v1), (2, .int v2), (3, .int v3), (4, .int v4)] dX10_add_5 (by decide) rfl ?_
  refine z_iload C dX10_add_7 5 rfl ?_
  refine z_iload_n C dX10_add_9 rfl 4 rfl ?_
  obtain ⟨q1, h2, hf⟩ := z_bind hf
  refine z_callNi C (rest := []) (tX11_cut (ze_l E) (ze_D E) t _ h2) gX10_add_X11_cut_n36 (host := RX11) (by decide +kernel) (by decide +kernel) (by decide +kernel) rfl hdX11_cut ⟨(Nat.le_of_ble_eq_true rfl), (Nat.le_of_ble_eq_true rfl)⟩ ⟨Nat.zero_le _, Nat.zero_le _⟩ rfl rfl (Nat.le_of_ble_eq_true rfl) dX10_add_10 ?_
  refine z_istore C [(6, .int q1), (5, .int ((v1 * 5) + v2)), (0, .ref (a 11)), (1, .int v1), (2, .int v2), (3, .int v3), (4, .int v4)] dX10_add_13 (by decide) rfl ?_
  refine z_aload_n C dX10_add_15 rfl 2 rfl ?_
  refine cg_Table_pokes C uX10_add_10 (by decide +kernel) dX10_add_16 ?_
  refine z_iload_n C dX10_add_19 rfl 4 rfl ?_
  obtain ⟨h3, hf⟩ := z_some hf
  refine z_iald C 46 cw_at_46 h3 dX10_add_20 ?_
  refine z_iconst C dX10_add_21 1 rfl ?_
  refine z_icmp_ne C 29 dX10_add_22 (by decide) (fun c4 => ?_) (fun c4 => ?_)
  · replace hf := z_iff c4 hf
    refine z_iconst C dX10_add_29 0 rfl ?_
    exact z_sub [2, 4, 6, 1, 0] rfl (kX10_add_30 E t a out C R _ _ _ _ _ _ hf)
  · replace hf := z_ift c4 hf
    refine z_iconst C dX10_add_25 1 rfl ?_
    refine z_goto C 30 dX10_add_26 (by decide) ?_
    exact z_sub [2, 4, 6, 1, 0] rfl (kX10_add_30 E t a out C R _ _ _ _ _ _ hf)

theorem uX11_units_11 : ∀ w ∈ wsX110, w ∈ wsX11_units := by decide +kernel
theorem hdX11_units : yX11_units.cls = RX11 ∧ yX11_units.cls ≠ "java/lang/invoke/MethodHandle" ∧ yX11_units.cls ≠ "java/lang/invoke/VarHandle" ∧ (parseMethodDescriptor yX11_units.desc).map (fun d => d.parameters.length) = some 2 := by decide +kernel
set_option maxHeartbeats 4000000 in
set_option maxRecDepth 100000 in
theorem tX11_units (l : Launch) (D : va_G) (t : zTy) (a : Nat → Nat) {v1 : Int32} {v2 : Int32} {x : ST} {out : Int32 × ST} (hf : fX11_units v1 v2 x = some out) : zMi l yX11_units wsX11_units 2 43 D t [.ref (a 0), .int v1, .int v2] (CW t a x) out.1 (CW t a out.2) := by
  refine z_entry_i (cc := cX11_units) (nL := 4) (by decide) rfl (Nat.le_of_ble_eq_true rfl) (fun E _ _ C R => ?_)
  refine z_sub (lv' := [(0, .ref (a 0)), (1, .int v1), (2, .int v2)]) [0, 1, 2] rfl ?_
  rw [fX11_units] at hf
  refine z_aload_n C dX11_units_0 rfl 0 rfl ?_
  refine cg_StillStars_settings C uX11_units_11 (by decide +kernel) dX11_units_1 ?_
  refine z_iconst C dX11_units_4 4 rfl ?_
  obtain ⟨q1, h2, hf⟩ := z_bind hf
  refine z_callVi C (rest := []) (tX7_get (ze_l E) (ze_D E) t a h2) gX11_units_X7_get rfl hdX7_get ⟨(Nat.le_of_ble_eq_true rfl), (Nat.le_of_ble_eq_true rfl)⟩ ⟨Nat.zero_le _, Nat.zero_le _⟩ 8 cw_at_8 rfl rfl rfl (Nat.le_of_ble_eq_true rfl) dX11_units_5 ?_
  refine z_istore_n C [(3, .int q1.1), (0, .ref (a 0)), (1, .int v1), (2, .int v2)] dX11_units_8 rfl (by decide) rfl ?_
  refine z_aload_n C dX11_units_9 rfl 1 rfl ?_
  refine z_iload_n C dX11_units_10 rfl 2 rfl ?_
  obtain ⟨q3, h4, hf⟩ := z_bind hf
  refine z_callVi C (rest := []) (tX11_isPart (ze_l E) (ze_D E) t a h4) gX11_units_X11_isPart rfl hdX11_isPart ⟨(Nat.le_of_ble_eq_true rfl), (Nat.le_of_ble_eq_true rfl)⟩ ⟨Nat.zero_le _, Nat.zero_le _⟩ 0 cw_at_0 rfl rfl rfl (Nat.le_of_ble_eq_true rfl) dX11_units_11 ?_
  refine z_if_eq C 27 dX11_units_14 (by decide) (fun c5 => ?_) (fun c5 => ?_)
  · replace hf := z_ift c5 hf
    refine z_sipush C dX11_units_27 (-10001) rfl ?_
    cases hf
    exact R _ _ dX11_units_30
  · replace hf := z_iff c5 hf
    refine z_iload_n C dX11_units_17 rfl 3 rfl ?_
    refine z_iload_n C dX11_units_18 rfl 0 rfl ?_
    refine z_ineg C dX11_units_19 ?_
    refine z_iload_n C dX11_units_20 rfl 0 rfl ?_
    obtain ⟨q6, h7, hf⟩ := z_bind hf
    refine z_callSi C (rest := []) (tX11_within (ze_l E) (ze_D E) t _ h7) gX11_units_X11_within rfl hdX11_within ⟨(Nat.le_of_ble_eq_true rfl), (Nat.le_of_ble_eq_true rfl)⟩ ⟨Nat.zero_le _, Nat.zero_le _⟩ rfl rfl (Nat.le_of_ble_eq_true rfl) dX11_units_21 ?_
    refine z_if_ne C 31 dX11_units_24 (by decide) (fun c8 => ?_) (fun c8 => ?_)
    · replace hf := z_iff c8 hf
      refine z_aload_n C dX11_units_31 rfl 1 rfl ?_
      refine cg_StillStars_parts C uX11_units_11 (by decide +kernel) dX11_units_32 ?_
      refine z_iload_n C dX11_units_35 rfl 2 rfl ?_
      refine z_iload_n C dX11_units_36 rfl 3 rfl ?_
      obtain ⟨q9, h10, hf⟩ := z_bind hf
      refine z_callVi C (rest := []) (tX6_swapUnits (ze_l E) (ze_D E) t a h10) gX11_units_X6_swapUnits rfl hdX6_swapUnits ⟨(Nat.le_of_ble_eq_true rfl), (Nat.le_of_ble_eq_true rfl)⟩ ⟨Nat.zero_le _, Nat.zero_le _⟩ 7 cw_at_7 rfl rfl rfl (Nat.le_of_ble_eq_true rfl) dX11_units_37 ?_
      cases hf
      exact R _ _ dX11_units_40
    · replace hf := z_ift c8 hf
      refine z_sipush C dX11_units_27 (-10001) rfl ?_
      cases hf
      exact R _ _ dX11_units_30
theorem uX11_shed_11 : ∀ w ∈ wsX110, w ∈ wsX11_shed := by decide +kernel
theorem hdX11_shed : yX11_shed.cls = RX11 ∧ yX11_shed.cls ≠ "java/lang/invoke/MethodHandle" ∧ yX11_shed.cls ≠ "java/lang/invoke/VarHandle" ∧ (parseMethodDescriptor yX11_shed.desc).map (fun d => d.parameters.length) = some 0 := by decide +kernel
set_option maxHeartbeats 4000000 in
set_option maxRecDepth 100000 in
theorem tX11_shed (l : Launch) (D : va_G) (t : zTy) (a : Nat → Nat)  {x : ST} {out : Int32 × ST} (hf : fX11_shed  x = some out) : zMi l yX11_shed wsX11_shed 2 44 D t [.ref (a 0)] (CW t a x) out.1 (CW t a out.2) := by
  refine z_entry_i (cc := cX11_shed) (nL := 1) (by decide) rfl (Nat.le_of_ble_eq_true rfl) (fun E _ _ C R => ?_)
  refine z_sub (lv' := [(0, .ref (a 0))]) [0] rfl ?_
  rw [fX11_shed] at hf
  refine z_aload_n C dX11_shed_0 rfl 0 rfl ?_
  refine cg_StillStars_parts C uX11_shed_11 (by decide +kernel) dX11_shed_1 ?_
  obtain ⟨q1, h2, hf⟩ := z_bind hf
  refine z_callVi C (rest := []) (tX6_giveToTip (ze_l E) (ze_D E) t a h2) gX11_shed_X6_giveToTip rfl hdX6_giveToTip ⟨(Nat.le_of_ble_eq_true rfl), (Nat.le_of_ble_eq_true rfl)⟩ ⟨Nat.zero_le _, Nat.zero_le _⟩ 7 cw_at_7 rfl rfl rfl (Nat.le_of_ble_eq_true rfl) dX11_shed_4 ?_
  cases hf
  exact R _ _ dX11_shed_7
theorem uX11_log_11 : ∀ w ∈ wsX110, w ∈ wsX11_log := by decide +kernel
theorem hdX11_log : yX11_log.cls = RX11 ∧ yX11_log.cls ≠ "java/lang/invoke/MethodHandle" ∧ yX11_log.cls ≠ "java/lang/invoke/VarHandle" ∧ (parseMethodDescriptor yX11_log.desc).map (fun d => d.parameters.length) = some 2 := by decide +kernel
set_option maxHeartbeats 4000000 in
set_option maxRecDepth 100000 in
theorem tX11_log (l : Launch) (D : va_G) (t : zTy) (a : Nat → Nat) {v1 : Int32} {v2 : Int32} {x : ST} {out : Int32 × ST} (hf : fX11_log v1 v2 x = some out) : zMi l yX11_log wsX11_log 2 44 D t [.ref (a 0), .int v1, .int v2] (CW t a x) out.1 (CW t a out.2) := by
  refine z_entry_i (cc := cX11_log) (nL := 3) (by decide) rfl (Nat.le_of_ble_eq_true rfl) (fun E _ _ C R => ?_)
  refine z_sub (lv' := [(0, .ref (a 0)), (1, .int v1), (2, .int v2)]) [0, 1, 2] rfl ?_
  rw [fX11_log] at hf
  refine z_aload_n C dX11_log_0 rfl 0 rfl ?_
  refine cg_StillStars_book C uX11_log_11 (by decide +kernel) dX11_log_1 ?_
  refine z_iload_n C dX11_log_4 rfl 1 rfl ?_
  obtain ⟨q1, h2, hf⟩ := z_bind hf
  refine z_callVi C (rest := []) (tX1_has (ze_l E) (ze_D E) t a h2) gX11_log_X1_has rfl hdX1_has ⟨(Nat.le_of_ble_eq_true rfl), (Nat.le_of_ble_eq_true rfl)⟩ ⟨Nat.zero_le _, Nat.zero_le _⟩ 2 cw_at_2 rfl rfl rfl (Nat.le_of_ble_eq_true rfl) dX11_log_5 ?_
  refine z_if_eq C 20 dX11_log_8 (by decide) (fun c3 => ?_) (fun c3 => ?_)
  · replace hf := z_ift c3 hf
    refine z_sipush C dX11_log_20 (-10001) rfl ?_
    cases hf
    exact R _ _ dX11_log_23
  · replace hf := z_iff c3 hf
    refine z_iload_n C dX11_log_11 rfl 2 rfl ?_
    refine z_iconst C dX11_log_12 0 rfl ?_
    refine z_iconst C dX11_log_13 2 rfl ?_
    obtain ⟨q4, h5, hf⟩ := z_bind hf
    refine z_callSi C (rest := []) (tX11_within (ze_l E) (ze_D E) t _ h5) gX11_log_X11_within rfl hdX11_within ⟨(Nat.le_of_ble_eq_true rfl), (Nat.le_of_ble_eq_true rfl)⟩ ⟨Nat.zero_le _, Nat.zero_le _⟩ rfl rfl (Nat.le_of_ble_eq_true rfl) dX11_log_14 ?_
    refine z_if_ne C 24 dX11_log_17 (by decide) (fun c6 => ?_) (fun c6 => ?_)
    · replace hf := z_iff c6 hf
      refine z_aload_n C dX11_log_24 rfl 0 rfl ?_
      refine cg_StillStars_book C uX11_log_11 (by decide +kernel) dX11_log_25 ?_
      refine z_iload_n C dX11_log_28 rfl 1 rfl ?_
      refine z_iload_n C dX11_log_29 rfl 2 rfl ?_
      obtain ⟨q7, h8, hf⟩ := z_bind hf
      refine z_callVi C (rest := []) (tX1_read (ze_l E) (ze_D E) t a h8) gX11_log_X1_read rfl hdX1_read ⟨(Nat.le_of_ble_eq_true rfl), (Nat.le_of_ble_eq_true rfl)⟩ ⟨Nat.zero_le _, Nat.zero_le _⟩ 2 cw_at_2 rfl rfl rfl (Nat.le_of_ble_eq_true rfl) dX11_log_30 ?_
      cases hf
      exact R _ _ dX11_log_33
    · replace hf := z_ift c6 hf
      refine z_sipush C dX11_log_20 (-10001) rfl ?_
      cases hf
      exact R _ _ dX11_log_23
theorem uX11_loop_11 : ∀ w ∈ wsX110, w ∈ wsX11_loop := by decide +kernel
set_option maxHeartbeats 4000000 in
set_option maxRecDepth 100000 in
theorem kX11_loop_106 (E : zE) (t : zTy) (a : Nat → Nat) (out : Int32 × ST) (C : zC E cX11_loop 8 RX11 wsX11_loop (zrm 3 66) t) (R : zRi E cX11_loop 8 out.1 (CW t a out.2)) (kb69 : Int32 → Int32 → Int32 → Int32 → Int32 → ST → Option (Int32 × ST)) (Kb69 : ∀ (v1 : Int32) (v2 : Int32) (v4 : Int32) (v5 : Int32) (v7 : Int32) (x : ST), kb69 v1 v2 v4 v5 v7 x = some out → zG E 8 0 0 (CW t a x) 69 [(0, .ref (a 0)), (1, .int v1), (2, .int v2), (4, .int v4), (5, .int v5), (7, .int v7)] []) : ∀ (v1 : Int32) (v2 : Int32) (v4 : Int32) (v5 : Int32) (v7 : Int32) (s0 : Int32) (s1 : Int32) (s2 : Int32) (x : ST), fX11_loop_106 kb69 v1 v2 v4 v5 v7 s0 s1 s2 x = some out → zG E 8 0 0 (CW t a x) 106 [(0, .ref (a 0)), (1, .int v1), (2, .int v2), (4, .int v4), (5, .int v5), (7, .int v7)] [.int s0, .int s1, .int s2, .ref (a 6)] := by
  intro v1 v2 v4 v5 v7 s0 s1 s2 x hf
  rw [fX11_loop_106] at hf
  obtain ⟨q17, h18, hf⟩ := z_bind hf
  refine z_callVv C (rest := []) (tX5_setTerm (ze_l E) (ze_D E) t a h18) gX11_loop_X5_setTerm rfl hdX5_setTerm ⟨(Nat.le_of_ble_eq_true rfl), (Nat.le_of_ble_eq_true rfl)⟩ ⟨Nat.zero_le _, Nat.zero_le _⟩ 6 cw_at_6 rfl rfl rfl (Nat.le_of_ble_eq_true rfl) dX11_loop_106 ?_
  refine z_iinc C (v7 + 1) [(7, .int (v7 + 1)), (0, .ref (a 0)), (1, .int v1), (2, .int v2), (4, .int v4), (5, .int v5)] dX11_loop_109 5 rfl rfl (by decide) rfl ?_
  refine z_goto C 69 dX11_loop_112 (by decide) ?_
  exact z_sub [1, 2, 3, 4, 5, 0] rfl (Kb69 _ _ _ _ _ _ hf)
set_option maxHeartbeats 4000000 in
set_option maxRecDepth 100000 in
theorem kX11_loop_69 (E : zE) (t : zTy) (a : Nat → Nat) (out : Int32 × ST) (C : zC E cX11_loop 8 RX11 wsX11_loop (zrm 3 66) t) (R : zRi E cX11_loop 8 out.1 (CW t a out.2)) : ∀ (n : Nat) (v1 : Int32) (v2 : Int32) (v4 : Int32) (v5 : Int32) (v7 : Int32) (x : ST), fX11_loop_69 n v1 v2 v4 v5 v7 x = some out → zG E 8 0 0 (CW t a x) 69 [(0, .ref (a 0)), (1, .int v1), (2, .int v2), (4, .int v4), (5, .int v5), (7, .int v7)] [] := by
  intro n
  induction n with
  | zero =>
    intro v1 v2 v4 v5 v7 x hf
    cases hf
  | succ n ih =>
    intro v1 v2 v4 v5 v7 x hf
    rw [fX11_loop_69] at hf
    refine z_iload C dX11_loop_69 5 rfl ?_
    refine z_iconst C dX11_loop_71 5 rfl ?_
    refine z_icmp_ge C 115 dX11_loop_72 (by decide) (fun c13 => ?_) (fun c13 => ?_)
    · replace hf := z_ift c13 hf
      refine z_iload C dX11_loop_115 4 rfl ?_
      cases hf
      exact R _ _ dX11_loop_117
    · replace hf := z_iff c13 hf
      refine z_aload_n C dX11_loop_75 rfl 0 rfl ?_
      refine cg_StillStars_loop C uX11_loop_11 (by decide +kernel) dX11_loop_76 ?_
      refine z_iload_n C dX11_loop_79 rfl 1 rfl ?_
      refine z_iload C dX11_loop_80 5 rfl ?_
      refine z_iload C dX11_loop_82 5 rfl ?_
      refine z_iload C dX11_loop_84 4 rfl ?_
      refine z_icmp_ge C 105 dX11_loop_86 (by decide) (fun c14 => ?_) (fun c14 => ?_)
      · replace hf := z_ift c14 hf
        refine z_iconst C dX11_loop_105 0 rfl ?_
        exact z_sub [0, 1, 2, 3, 4, 5] rfl (kX11_loop_106 E t a out C R (fX11_loop_69 n) (ih) _ _ _ _ _ _ _ _ _ hf)
      · replace hf := z_iff c14 hf
        refine z_aload_n C dX11_loop_89 rfl 0 rfl ?_
        refine cg_StillStars_sheets C uX11_loop_11 (by decide +kernel) dX11_loop_90 ?_
        refine z_iload_n C dX11_loop_93 rfl 2 rfl ?_
        refine z_iload C dX11_loop_94 3 rfl ?_
        refine z_iload C dX11_loop_96 5 rfl ?_
        refine z_iadd C dX11_loop_98 ?_
        obtain ⟨q15, h16, hf⟩ := z_bind hf
        refine z_callVi C (rest := [.int v7, .int v1, .ref (a 6)]) (tX8_at (ze_l E) (ze_D E) t a h16) gX11_loop_X8_at rfl hdX8_at ⟨(Nat.le_of_ble_eq_true rfl), (Nat.le_of_ble_eq_true rfl)⟩ ⟨Nat.zero_le _, Nat.zero_le _⟩ 9 cw_at_9 rfl rfl rfl (Nat.le_of_ble_eq_true rfl) dX11_loop_99 ?_
        refine z_goto C 106 dX11_loop_102 (by decide) ?_
        exact z_sub [0, 1, 2, 3, 4, 5] rfl (kX11_loop_106 E t a out C R (fX11_loop_69 n) (ih) _ _ _ _ _ _ _ _ _ hf)
theorem hdX11_loop : yX11_loop.cls = RX11 ∧ yX11_loop.cls ≠ "java/lang/invoke/MethodHandle" ∧ yX11_loop.cls ≠ "java/lang/invoke/VarHandle" ∧ (parseMethodDescriptor yX11_loop.desc).map (fun d => d.parameters.length) = some 5 := by decide +kernel
set_option maxHeartbeats 4000000 in
set_option maxRecDepth 100000 in
theorem tX11_loop (l : Launch) (D : va_G) (t : zTy) (a : Nat → Nat) {v1 : Int32} {v2 : Int32} {v3 : Int32} {v4 : Int32} {v5 : Int32} {x : ST} {out : Int32 × ST} (hf : fX11_loop v1 v2 v3 v4 v5 x = some out) : zMi l yX11_loop wsX11_loop 3 66 D t [.ref (a 0), .int v1, .int v2, .int v3, .int v4, .int v5] (CW t a x) out.1 (CW t a out.2) := by
  refine z_entry_i (cc := cX11_loop) (nL := 8) (by decide) rfl (Nat.le_of_ble_eq_true rfl) (fun E _ _ C R => ?_)
  refine z_sub (lv' := [(0, .ref (a 0)), (1, .int v1), (2, .int v2), (3, .int v3), (4, .int v4), (5, .int v5)]) [0, 1, 2, 3, 4, 5] rfl ?_
  rw [fX11_loop] at hf
  refine z_iload_n C dX11_loop_0 rfl 1 rfl ?_
  refine z_iconst C dX11_loop_1 0 rfl ?_
  refine z_iconst C dX11_loop_2 1 rfl ?_
  obtain ⟨q1, h2, hf⟩ := z_bind hf
  refine z_callSi C (rest := []) (tX11_within (ze_l E) (ze_D E) t _ h2) gX11_loop_X11_within rfl hdX11_within ⟨(Nat.le_of_ble_eq_true rfl), (Nat.le_of_ble_eq_true rfl)⟩ ⟨Nat.zero_le _, Nat.zero_le _⟩ rfl rfl (Nat.le_of_ble_eq_true rfl) dX11_loop_3 ?_
  refine z_if_eq C 19 dX11_loop_6 (by decide) (fun c3 => ?_) (fun c3 => ?_)
  · replace hf := z_ift c3 hf
    refine z_iconst C dX11_loop_19 (-1) rfl ?_
    cases hf
    exact R _ _ dX11_loop_20
  · replace hf := z_iff c3 hf
    refine z_iload C dX11_loop_9 5 rfl ?_
    refine z_iconst C dX11_loop_11 1 rfl ?_
    refine z_iconst C dX11_loop_12 5 rfl ?_
    obtain ⟨q4, h5, hf⟩ := z_bind hf
    refine z_callSi C (rest := []) (tX11_within (ze_l E) (ze_D E) t _ h5) gX11_loop_X11_within rfl hdX11_within ⟨(Nat.le_of_ble_eq_true rfl), (Nat.le_of_ble_eq_true rfl)⟩ ⟨Nat.zero_le _, Nat.zero_le _⟩ rfl rfl (Nat.le_of_ble_eq_true rfl) dX11_loop_13 ?_
    refine z_if_ne C 21 dX11_loop_16 (by decide) (fun c6 => ?_) (fun c6 => ?_)
    · replace hf := z_iff c6 hf
      refine z_aload_n C dX11_loop_21 rfl 0 rfl ?_
      refine cg_StillStars_sheets C uX11_loop_11 (by decide +kernel) dX11_loop_22 ?_
      refine z_iload_n C dX11_loop_25 rfl 2 rfl ?_
      refine z_iload_n C dX11_loop_26 rfl 3 rfl ?_
      refine z_iload C dX11_loop_27 4 rfl ?_
      refine z_iload C dX11_loop_29 5 rfl ?_
      obtain ⟨q7, h8, hf⟩ := z_bind hf
      refine z_callVi C (rest := []) (tX8_refusal (ze_l E) (ze_D E) t a h8) gX11_loop_X8_refusal rfl hdX8_refusal ⟨(Nat.le_of_ble_eq_true rfl), (Nat.le_of_ble_eq_true rfl)⟩ ⟨Nat.zero_le _, Nat.zero_le _⟩ 9 cw_at_9 rfl rfl rfl (Nat.le_of_ble_eq_true rfl) dX11_loop_31 ?_
      refine z_istore C [(6, .int q7.1), (0, .ref (a 0)), (1, .int v1), (2, .int v2), (3, .int v3), (4, .int v4), (5, .int v5)] dX11_loop_34 (by decide) rfl ?_
      refine z_iload C dX11_loop_36 0 rfl ?_
      refine z_if_eq C 44 dX11_loop_38 (by decide) (fun c9 => ?_) (fun c9 => ?_)
      · replace hf := z_ift c9 hf
        refine z_aload_n C dX11_loop_44 rfl 1 rfl ?_
        refine cg_StillStars_sheets C uX11_loop_11 (by decide +kernel) dX11_loop_45 ?_
        refine z_iload_n C dX11_loop_48 rfl 3 rfl ?_
        refine z_iload C dX11_loop_49 5 rfl ?_
        refine z_iload C dX11_loop_51 6 rfl ?_
        refine z_bipush C dX11_loop_53 (-50) rfl ?_
        refine z_bipush C dX11_loop_55 50 rfl ?_
        obtain ⟨q10, h11, hf⟩ := z_bind hf
        refine z_callVi C (rest := []) (tX8_allWithin (ze_l E) (ze_D E) t a h11) gX11_loop_X8_allWithin rfl hdX8_allWithin ⟨(Nat.le_of_ble_eq_true rfl), (Nat.le_of_ble_eq_true rfl)⟩ ⟨Nat.zero_le _, Nat.zero_le _⟩ 9 cw_at_9 rfl rfl rfl (Nat.le_of_ble_eq_true rfl) dX11_loop_57 ?_
        refine z_if_ne C 66 dX11_loop_60 (by decide) (fun c12 => ?_) (fun c12 => ?_)
        · replace hf := z_iff c12 hf
          refine z_iconst C dX11_loop_66 0 rfl ?_
          refine z_istore C [(7, .int 0), (6, .int q7.1), (0, .ref (a 0)), (1, .int v1), (2, .int v2), (3, .int v3), (4, .int v4), (5, .int v5)] dX11_loop_67 (by decide) rfl ?_
          exact z_sub [2, 3, 4, 6, 7, 0] rfl (kX11_loop_69 E t a out C R 200 _ _ _ _ _ _ hf)
        · replace hf := z_ift c12 hf
          refine z_bipush C dX11_loop_63 (-2) rfl ?_
          cases hf
          exact R _ _ dX11_loop_65
      · replace hf := z_iff c9 hf
        refine z_iload C dX11_loop_41 0 rfl ?_
        cases hf
        exact R _ _ dX11_loop_43
    · replace hf := z_ift c6 hf
      refine z_iconst C dX11_loop_19 (-1) rfl ?_
      cases hf
      exact R _ _ dX11_loop_20
theorem uX11_steady_11 : ∀ w ∈ wsX110, w ∈ wsX11_steady := by decide +kernel
theorem hdX11_steady : yX11_steady.cls = RX11 ∧ yX11_steady.cls ≠ "java/lang/invoke/MethodHandle" ∧ yX11_steady.cls ≠ "java/lang/invoke/VarHandle" ∧ (parseMethodDescriptor yX11_steady.desc).map (fun d => d.parameters.length) = some 1 := by decide +kernel
set_option maxHeartbeats 4000000 in
set_option maxRecDepth 100000 in
theorem tX11_steady (l : Launch) (D : va_G) (t : zTy) (a : Nat → Nat) {v1 : Int32} {x : ST} {out : Int32 × ST} (hf : fX11_steady v1 x = some out) : zMi l yX11_steady wsX11_steady 4 84 D t [.ref (a 0), .int v1] (CW t a x) out.1 (CW t a out.2) := by
  refine z_entry_i (cc := cX11_steady) (nL := 2) (by decide) rfl (Nat.le_of_ble_eq_true rfl) (fun E _ _ C R => ?_)
  refine z_sub (lv' := [(0, .ref (a 0)), (1, .int v1)]) [0, 1] rfl ?_
  rw [fX11_steady] at hf
  refine z_iload_n C dX11_steady_0 rfl 1 rfl ?_
  refine z_iconst C dX11_steady_1 0 rfl ?_
  refine z_bipush C dX11_steady_2 100 rfl ?_
  obtain ⟨q1, h2, hf⟩ := z_bind hf
  refine z_callSi C (rest := []) (tX11_within (ze_l E) (ze_D E) t _ h2) gX11_steady_X11_within rfl hdX11_within ⟨(Nat.le_of_ble_eq_true rfl), (Nat.le_of_ble_eq_true rfl)⟩ ⟨Nat.zero_le _, Nat.zero_le _⟩ rfl rfl (Nat.le_of_ble_eq_true rfl) dX11_steady_4 ?_
  refine z_if_ne C 12 dX11_steady_7 (by decide) (fun c3 => ?_) (fun c3 => ?_)
  · replace hf := z_iff c3 hf
    refine z_aload_n C dX11_steady_12 rfl 0 rfl ?_
    refine cg_StillStars_loop C uX11_steady_11 (by decide +kernel) dX11_steady_13 ?_
    refine z_iload_n C dX11_steady_16 rfl 1 rfl ?_
    obtain ⟨q4, h5, hf⟩ := z_bind hf
    refine z_callVi C (rest := []) (tX5_isSteady (ze_l E) (ze_D E) t a h5) gX11_steady_X5_isSteady rfl hdX5_isSteady ⟨(Nat.le_of_ble_eq_true rfl), (Nat.le_of_ble_eq_true rfl)⟩ ⟨Nat.zero_le _, Nat.zero_le _⟩ 6 cw_at_6 rfl rfl rfl (Nat.le_of_ble_eq_true rfl) dX11_steady_17 ?_
    refine z_if_eq C 27 dX11_steady_20 (by decide) (fun c6 => ?_) (fun c6 => ?_)
    · replace hf := z_ift c6 hf
      refine z_iconst C dX11_steady_27 0 rfl ?_
      cases hf
      exact R _ _ dX11_steady_28
    · replace hf := z_iff c6 hf
      refine z_iconst C dX11_steady_23 1 rfl ?_
      refine z_goto C 28 dX11_steady_24 (by decide) ?_
      cases hf
      exact R _ _ dX11_steady_28
  · replace hf := z_ift c3 hf
    refine z_iconst C dX11_steady_10 (-1) rfl ?_
    cases hf
    exact R _ _ dX11_steady_11
theorem uX11_unsteady_11 : ∀ w ∈ wsX110, w ∈ wsX11_unsteady := by decide +kernel
set_option maxHeartbeats 4000000 in
set_option maxRecDepth 100000 in
theorem kX11_unsteady_24 (E : zE) (t : zTy) (a : Nat → Nat) (out : Int32 × ST) (C : zC E cX11_unsteady 4 RX11 wsX11_unsteady (zrm 4 84) t) (R : zRi E cX11_unsteady 4 out.1 (CW t a out.2)) : ∀ (n : Nat) (v2 : Int32) (v3 : Int32) (x : ST), fX11_unsteady_24 n v2 v3 x = some out → zG E 4 0 0 (CW t a x) 24 [(0, .ref (a 0)), (2, .int v2), (3, .int v3)] [] := by
  intro n
  induction n with
  | zero =>
    intro v2 v3 x hf
    cases hf
  | succ n ih =>
    intro v2 v3 x hf
    rw [fX11_unsteady_24] at hf
    refine z_iload_n C dX11_unsteady_24 rfl 2 rfl ?_
    refine z_iload_n C dX11_unsteady_25 rfl 1 rfl ?_
    refine z_icmp_gt C 48 dX11_unsteady_26 (by decide) (fun c7 => ?_) (fun c7 => ?_)
    · replace hf := z_ift c7 hf
      refine z_bipush C dX11_unsteady_48 (-4) rfl ?_
      cases hf
      exact R _ _ dX11_unsteady_50
    · replace hf := z_iff c7 hf
      refine z_aload_n C dX11_unsteady_29 rfl 0 rfl ?_
      refine cg_StillStars_loop C uX11_unsteady_11 (by decide +kernel) dX11_unsteady_30 ?_
      refine z_iload_n C dX11_unsteady_33 rfl 2 rfl ?_
      obtain ⟨q8, h9, hf⟩ := z_bind hf
      refine z_callVi C (rest := []) (tX5_isSteady (ze_l E) (ze_D E) t a h9) gX11_unsteady_X5_isSteady rfl hdX5_isSteady ⟨(Nat.le_of_ble_eq_true rfl), (Nat.le_of_ble_eq_true rfl)⟩ ⟨Nat.zero_le _, Nat.zero_le _⟩ 6 cw_at_6 rfl rfl rfl (Nat.le_of_ble_eq_true rfl) dX11_unsteady_34 ?_
      refine z_if_ne C 42 dX11_unsteady_37 (by decide) (fun c10 => ?_) (fun c10 => ?_)
      · replace hf := z_iff c10 hf
        refine z_iinc C (v3 + 1) [(3, .int (v3 + 1)), (0, .ref (a 0)), (2, .int v2)] dX11_unsteady_42 2 rfl rfl (by decide) rfl ?_
        refine z_goto C 24 dX11_unsteady_45 (by decide) ?_
        exact z_sub [1, 2, 0] rfl (ih _ _ _ hf)
      · replace hf := z_ift c10 hf
        refine z_iload_n C dX11_unsteady_40 rfl 2 rfl ?_
        cases hf
        exact R _ _ dX11_unsteady_41
theorem hdX11_unsteady : yX11_unsteady.cls = RX11 ∧ yX11_unsteady.cls ≠ "java/lang/invoke/MethodHandle" ∧ yX11_unsteady.cls ≠ "java/lang/invoke/VarHandle" ∧ (parseMethodDescriptor yX11_unsteady.desc).map (fun d => d.parameters.length) = some 2 := by decide +kernel
set_option maxHeartbeats 4000000 in
set_option maxRecDepth 100000 in
theorem tX11_unsteady (l : Launch) (D : va_G) (t : zTy) (a : Nat → Nat) {v1 : Int32} {v2 : Int32} {x : ST} {out : Int32 × ST} (hf : fX11_unsteady v1 v2 x = some out) : zMi l yX11_unsteady wsX11_unsteady 4 84 D t [.ref (a 0), .int v1, .int v2] (CW t a x) out.1 (CW t a out.2) := by
  refine z_entry_i (cc := cX11_unsteady) (nL := 4) (by decide) rfl (Nat.le_of_ble_eq_true rfl) (fun E _ _ C R => ?_)
  refine z_sub (lv' := [(0, .ref (a 0)), (1, .int v1), (2, .int v2)]) [0, 1, 2] rfl ?_
  rw [fX11_unsteady] at hf
  refine z_iload_n C dX11_unsteady_0 rfl 1 rfl ?_
  refine z_iconst C dX11_unsteady_1 0 rfl ?_
  refine z_bipush C dX11_unsteady_2 100 rfl ?_
  obtain ⟨q1, h2, hf⟩ := z_bind hf
  refine z_callSi C (rest := []) (tX11_within (ze_l E) (ze_D E) t _ h2) gX11_unsteady_X11_within rfl hdX11_within ⟨(Nat.le_of_ble_eq_true rfl), (Nat.le_of_ble_eq_true rfl)⟩ ⟨Nat.zero_le _, Nat.zero_le _⟩ rfl rfl (Nat.le_of_ble_eq_true rfl) dX11_unsteady_4 ?_
  refine z_if_eq C 20 dX11_unsteady_7 (by decide) (fun c3 => ?_) (fun c3 => ?_)
  · replace hf := z_ift c3 hf
    refine z_iconst C dX11_unsteady_20 (-1) rfl ?_
    cases hf
    exact R _ _ dX11_unsteady_21
  · replace hf := z_iff c3 hf
    refine z_iload_n C dX11_unsteady_10 rfl 2 rfl ?_
    refine z_iload_n C dX11_unsteady_11 rfl 1 rfl ?_
    refine z_bipush C dX11_unsteady_12 100 rfl ?_
    obtain ⟨q4, h5, hf⟩ := z_bind hf
    refine z_callSi C (rest := []) (tX11_within (ze_l E) (ze_D E) t _ h5) gX11_unsteady_X11_within rfl hdX11_within ⟨(Nat.le_of_ble_eq_true rfl), (Nat.le_of_ble_eq_true rfl)⟩ ⟨Nat.zero_le _, Nat.zero_le _⟩ rfl rfl (Nat.le_of_ble_eq_true rfl) dX11_unsteady_14 ?_
    refine z_if_ne C 22 dX11_unsteady_17 (by decide) (fun c6 => ?_) (fun c6 => ?_)
    · replace hf := z_iff c6 hf
      refine z_iload_n C dX11_unsteady_22 rfl 1 rfl ?_
      refine z_istore_n C [(3, .int v1), (0, .ref (a 0)), (1, .int v1), (2, .int v2)] dX11_unsteady_23 rfl (by decide) rfl ?_
      exact z_sub [1, 3, 0] rfl (kX11_unsteady_24 E t a out C R 200 _ _ _ hf)
    · replace hf := z_ift c6 hf
      refine z_iconst C dX11_unsteady_20 (-1) rfl ?_
      cases hf
      exact R _ _ dX11_unsteady_21
theorem uX11_cell_11 : ∀ w ∈ wsX110, w ∈ wsX11_cell := by decide +kernel
theorem hdX11_cell : yX11_cell.cls = RX11 ∧ yX11_cell.cls ≠ "java/lang/invoke/MethodHandle" ∧ yX11_cell.cls ≠ "java/lang/invoke/VarHandle" ∧ (parseMethodDescriptor yX11_cell.desc).map (fun d => d.parameters.length) = some 3 := by decide +kernel
set_option maxHeartbeats 4000000 in
set_option maxRecDepth 100000 in
theorem tX11_cell (l : Launch) (D : va_G) (t : zTy) (a : Nat → Nat) {v1 : Int32} {v2 : Int32} {v3 : Int32} {x : ST} {out : Int32 × ST} (hf : fX11_cell v1 v2 v3 x = some out) : zMi l yX11_cell wsX11_cell 2 42 D t [.ref (a 0), .int v1, .int v2, .int v3] (CW t a x) out.1 (CW t a out.2) := by
  refine z_entry_i (cc := cX11_cell) (nL := 4) (by decide) rfl (Nat.le_of_ble_eq_true rfl) (fun E _ _ C R => ?_)
  refine z_sub (lv' := [(0, .ref (a 0)), (1, .int v1), (2, .int v2), (3, .int v3)]) [0, 1, 2, 3] rfl ?_
  rw [fX11_cell] at hf
  refine z_iload_n C dX11_cell_0 rfl 1 rfl ?_
  obtain ⟨q1, h2, hf⟩ := z_bind hf
  refine z_callSi C (rest := []) (tX11_isLayer (ze_l E) (ze_D E) t _ h2) gX11_cell_X11_isLayer rfl hdX11_isLayer ⟨(Nat.le_of_ble_eq_true rfl), (Nat.le_of_ble_eq_true rfl)⟩ ⟨Nat.zero_le _, Nat.zero_le _⟩ rfl rfl (Nat.le_of_ble_eq_true rfl) dX11_cell_1 ?_
  refine z_if_eq C 28 dX11_cell_4 (by decide) (fun c3 => ?_) (fun c3 => ?_)
  · replace hf := z_ift c3 hf
    refine z_sipush C dX11_cell_28 (-10001) rfl ?_
    cases hf
    exact R _ _ dX11_cell_31
  · replace hf := z_iff c3 hf
    refine z_iload_n C dX11_cell_7 rfl 2 rfl ?_
    refine z_iconst C dX11_cell_8 0 rfl ?_
    refine z_bipush C dX11_cell_9 31 rfl ?_
    obtain ⟨q4, h5, hf⟩ := z_bind hf
    refine z_callSi C (rest := []) (tX11_within (ze_l E) (ze_D E) t _ h5) gX11_cell_X11_within rfl hdX11_within ⟨(Nat.le_of_ble_eq_true rfl), (Nat.le_of_ble_eq_true rfl)⟩ ⟨Nat.zero_le _, Nat.zero_le _⟩ rfl rfl (Nat.le_of_ble_eq_true rfl) dX11_cell_11 ?_
    refine z_if_eq C 28 dX11_cell_14 (by decide) (fun c6 => ?_) (fun c6 => ?_)
    · replace hf := z_ift c6 hf
      refine z_sipush C dX11_cell_28 (-10001) rfl ?_
      cases hf
      exact R _ _ dX11_cell_31
    · replace hf := z_iff c6 hf
      refine z_iload_n C dX11_cell_17 rfl 3 rfl ?_
      refine z_bipush C dX11_cell_18 (-99) rfl ?_
      refine z_bipush C dX11_cell_20 99 rfl ?_
      obtain ⟨q7, h8, hf⟩ := z_bind hf
      refine z_callSi C (rest := []) (tX11_within (ze_l E) (ze_D E) t _ h8) gX11_cell_X11_within rfl hdX11_within ⟨(Nat.le_of_ble_eq_true rfl), (Nat.le_of_ble_eq_true rfl)⟩ ⟨Nat.zero_le _, Nat.zero_le _⟩ rfl rfl (Nat.le_of_ble_eq_true rfl) dX11_cell_22 ?_
      refine z_if_ne C 32 dX11_cell_25 (by decide) (fun c9 => ?_) (fun c9 => ?_)
      · replace hf := z_iff c9 hf
        refine z_aload_n C dX11_cell_32 rfl 0 rfl ?_
        refine cg_StillStars_layers C uX11_cell_11 (by decide +kernel) dX11_cell_33 ?_
        refine z_iload_n C dX11_cell_36 rfl 1 rfl ?_
        refine z_iload_n C dX11_cell_37 rfl 2 rfl ?_
        refine z_iload_n C dX11_cell_38 rfl 3 rfl ?_
        obtain ⟨q10, h11, hf⟩ := z_bind hf
        refine z_callVi C (rest := []) (tX4_swapCell (ze_l E) (ze_D E) t a h11) gX11_cell_X4_swapCell rfl hdX4_swapCell ⟨(Nat.le_of_ble_eq_true rfl), (Nat.le_of_ble_eq_true rfl)⟩ ⟨Nat.zero_le _, Nat.zero_le _⟩ 5 cw_at_5 rfl rfl rfl (Nat.le_of_ble_eq_true rfl) dX11_cell_39 ?_
        cases hf
        exact R _ _ dX11_cell_42
      · replace hf := z_ift c9 hf
        refine z_sipush C dX11_cell_28 (-10001) rfl ?_
        cases hf
        exact R _ _ dX11_cell_31
theorem uX11_wind_11 : ∀ w ∈ wsX110, w ∈ wsX11_wind := by decide +kernel
theorem hdX11_wind : yX11_wind.cls = RX11 ∧ yX11_wind.cls ≠ "java/lang/invoke/MethodHandle" ∧ yX11_wind.cls ≠ "java/lang/invoke/VarHandle" ∧ (parseMethodDescriptor yX11_wind.desc).map (fun d => d.parameters.length) = some 2 := by decide +kernel
set_option maxHeartbeats 4000000 in
set_option maxRecDepth 100000 in
theorem tX11_wind (l : Launch) (D : va_G) (t : zTy) (a : Nat → Nat) {v1 : Int32} {v2 : Int32} {x : ST} {out : Int32 × ST} (hf : fX11_wind v1 v2 x = some out) : zMi l yX11_wind wsX11_wind 2 42 D t [.ref (a 0), .int v1, .int v2] (CW t a x) out.1 (CW t a out.2) := by
  refine z_entry_i (cc := cX11_wind) (nL := 3) (by decide) rfl (Nat.le_of_ble_eq_true rfl) (fun E _ _ C R => ?_)
  refine z_sub (lv' := [(0, .ref (a 0)), (1, .int v1), (2, .int v2)]) [0, 1, 2] rfl ?_
  rw [fX11_wind] at hf
  refine z_iload_n C dX11_wind_0 rfl 1 rfl ?_
  obtain ⟨q1, h2, hf⟩ := z_bind hf
  refine z_callSi C (rest := []) (tX11_isLayer (ze_l E) (ze_D E) t _ h2) gX11_wind_X11_isLayer rfl hdX11_isLayer ⟨(Nat.le_of_ble_eq_true rfl), (Nat.le_of_ble_eq_true rfl)⟩ ⟨Nat.zero_le _, Nat.zero_le _⟩ rfl rfl (Nat.le_of_ble_eq_true rfl) dX11_wind_1 ?_
  refine z_if_eq C 18 dX11_wind_4 (by decide) (fun c3 => ?_) (fun c3 => ?_)
  · replace hf := z_ift c3 hf
    refine z_sipush C dX11_wind_18 (-10001) rfl ?_
    cases hf
    exact R _ _ dX11_wind_21
  · replace hf := z_iff c3 hf
    refine z_iload_n C dX11_wind_7 rfl 2 rfl ?_
    refine z_bipush C dX11_wind_8 (-31) rfl ?_
    refine z_bipush C dX11_wind_10 31 rfl ?_
    obtain ⟨q4, h5, hf⟩ := z_bind hf
    refine z_callSi C (rest := []) (tX11_within (ze_l E) (ze_D E) t _ h5) gX11_wind_X11_within rfl hdX11_within ⟨(Nat.le_of_ble_eq_true rfl), (Nat.le_of_ble_eq_true rfl)⟩ ⟨Nat.zero_le _, Nat.zero_le _⟩ rfl rfl (Nat.le_of_ble_eq_true rfl) dX11_wind_12 ?_
    refine z_if_ne C 22 dX11_wind_15 (by decide) (fun c6 => ?_) (fun c6 => ?_)
    · replace hf := z_iff c6 hf
      refine z_aload_n C dX11_wind_22 rfl 0 rfl ?_
      refine cg_StillStars_layers C uX11_wind_11 (by decide +kernel) dX11_wind_23 ?_
      refine z_iload_n C dX11_wind_26 rfl 1 rfl ?_
      refine z_iload_n C dX11_wind_27 rfl 2 rfl ?_
      obtain ⟨q7, h8, hf⟩ := z_bind hf
      refine z_callVi C (rest := []) (tX4_swapWind (ze_l E) (ze_D E) t a h8) gX11_wind_X4_swapWind rfl hdX4_swapWind ⟨(Nat.le_of_ble_eq_true rfl), (Nat.le_of_ble_eq_true rfl)⟩ ⟨Nat.zero_le _, Nat.zero_le _⟩ 5 cw_at_5 rfl rfl rfl (Nat.le_of_ble_eq_true rfl) dX11_wind_28 ?_
      cases hf
      exact R _ _ dX11_wind_31
    · replace hf := z_ift c6 hf
      refine z_sipush C dX11_wind_18 (-10001) rfl ?_
      cases hf
      exact R _ _ dX11_wind_21
theorem uX11_foretell_11 : ∀ w ∈ wsX110, w ∈ wsX11_foretell := by decide +kernel
theorem hdX11_foretell : yX11_foretell.cls = RX11 ∧ yX11_foretell.cls ≠ "java/lang/invoke/MethodHandle" ∧ yX11_foretell.cls ≠ "java/lang/invoke/VarHandle" ∧ (parseMethodDescriptor yX11_foretell.desc).map (fun d => d.parameters.length) = some 2 := by decide +kernel
set_option maxHeartbeats 4000000 in
set_option maxRecDepth 100000 in
theorem tX11_foretell (l : Launch) (D : va_G) (t : zTy) (a : Nat → Nat) {v1 : Int32} {v2 : Int32} {x : ST} {out : Int32 × ST} (hf : fX11_foretell v1 v2 x = some out) : zMi l yX11_foretell wsX11_foretell 2 47 D t [.ref (a 0), .int v1, .int v2] (CW t a x) out.1 (CW t a out.2) := by
  refine z_entry_i (cc := cX11_foretell) (nL := 3) (by decide) rfl (Nat.le_of_ble_eq_true rfl) (fun E _ _ C R => ?_)
  refine z_sub (lv' := [(0, .ref (a 0)), (1, .int v1), (2, .int v2)]) [0, 1, 2] rfl ?_
  rw [fX11_foretell] at hf
  refine z_aload_n C dX11_foretell_0 rfl 0 rfl ?_
  refine z_iload_n C dX11_foretell_1 rfl 1 rfl ?_
  obtain ⟨q1, h2, hf⟩ := z_bind hf
  refine z_callVi C (rest := []) (tX11_isSpot (ze_l E) (ze_D E) t a h2) gX11_foretell_X11_isSpot rfl hdX11_isSpot ⟨(Nat.le_of_ble_eq_true rfl), (Nat.le_of_ble_eq_true rfl)⟩ ⟨Nat.zero_le _, Nat.zero_le _⟩ 0 cw_at_0 rfl rfl rfl (Nat.le_of_ble_eq_true rfl) dX11_foretell_2 ?_
  refine z_if_eq C 19 dX11_foretell_5 (by decide) (fun c3 => ?_) (fun c3 => ?_)
  · replace hf := z_ift c3 hf
    refine z_sipush C dX11_foretell_19 (-10001) rfl ?_
    cases hf
    exact R _ _ dX11_foretell_22
  · replace hf := z_iff c3 hf
    refine z_iload_n C dX11_foretell_8 rfl 2 rfl ?_
    refine z_iconst C dX11_foretell_9 0 rfl ?_
    refine z_sipush C dX11_foretell_10 9999 rfl ?_
    obtain ⟨q4, h5, hf⟩ := z_bind hf
    refine z_callSi C (rest := []) (tX11_within (ze_l E) (ze_D E) t _ h5) gX11_foretell_X11_within rfl hdX11_within ⟨(Nat.le_of_ble_eq_true rfl), (Nat.le_of_ble_eq_true rfl)⟩ ⟨Nat.zero_le _, Nat.zero_le _⟩ rfl rfl (Nat.le_of_ble_eq_true rfl) dX11_foretell_13 ?_
    refine z_if_ne C 23 dX11_foretell_16 (by decide) (fun c6 => ?_) (fun c6 => ?_)
    · replace hf := z_iff c6 hf
      refine z_aload_n C dX11_foretell_23 rfl 0 rfl ?_
      refine cg_StillStars_layers C uX11_foretell_11 (by decide +kernel) dX11_foretell_24 ?_
      refine z_aload_n C dX11_foretell_27 rfl 0 rfl ?_
      refine cg_StillStars_settings C uX11_foretell_11 (by decide +kernel) dX11_foretell_28 ?_
      refine z_bipush C dX11_foretell_31 6 rfl ?_
      obtain ⟨q7, h8, hf⟩ := z_bind hf
      refine z_callVi C (rest := [.ref (a 5)]) (tX7_get (ze_l E) (ze_D E) t a h8) gX11_foretell_X7_get rfl hdX7_get ⟨(Nat.le_of_ble_eq_true rfl), (Nat.le_of_ble_eq_true rfl)⟩ ⟨Nat.zero_le _, Nat.zero_le _⟩ 8 cw_at_8 rfl rfl rfl (Nat.le_of_ble_eq_true rfl) dX11_foretell_33 ?_
      refine z_iload_n C dX11_foretell_36 rfl 1 rfl ?_
      refine z_imul C dX11_foretell_37 ?_
      refine z_iload_n C dX11_foretell_38 rfl 2 rfl ?_
      obtain ⟨q9, h10, hf⟩ := z_bind hf
      refine z_callVi C (rest := []) (tX4_foretold (ze_l E) (ze_D E) t a h10) gX11_foretell_X4_foretold rfl hdX4_foretold ⟨(Nat.le_of_ble_eq_true rfl), (Nat.le_of_ble_eq_true rfl)⟩ ⟨Nat.zero_le _, Nat.zero_le _⟩ 5 cw_at_5 rfl rfl rfl (Nat.le_of_ble_eq_true rfl) dX11_foretell_39 ?_
      cases hf
      exact R _ _ dX11_foretell_42
    · replace hf := z_ift c6 hf
      refine z_sipush C dX11_foretell_19 (-10001) rfl ?_
      cases hf
      exact R _ _ dX11_foretell_22
theorem uX11_guess_11 : ∀ w ∈ wsX110, w ∈ wsX11_guess := by decide +kernel
set_option maxHeartbeats 4000000 in
set_option maxRecDepth 100000 in
theorem kX11_guess_91 (E : zE) (t : zTy) (a : Nat → Nat) (out : Int32 × ST) (C : zC E cX11_guess 11 RX11 wsX11_guess (zrm 3 66) t) (R : zRi E cX11_guess 11 out.1 (CW t a out.2)) (kb55 : Int32 → Int32 → Int32 → Int64 → Int32 → ST → Option (Int32 × ST)) (Kb55 : ∀ (v1 : Int32) (v2 : Int32) (v5 : Int32) (v6 : Int64) (v8 : Int32) (x : ST), kb55 v1 v2 v5 v6 v8 x = some out → zG E 11 0 0 (CW t a x) 55 [(0, .ref (a 0)), (1, .int v1), (2, .int v2), (5, .int v5), (6, .long v6), (8, .int v8)] []) : ∀ (v1 : Int32) (v2 : Int32) (v5 : Int32) (v6 : Int64) (v8 : Int32) (x : ST), fX11_guess_91 kb55 v1 v2 v5 v6 v8 x = some out → zG E 11 0 0 (CW t a x) 91 [(0, .ref (a 0)), (1, .int v1), (2, .int v2), (5, .int v5), (6, .long v6), (8, .int v8)] [] := by
  intro v1 v2 v5 v6 v8 x hf
  rw [fX11_guess_91] at hf
  refine z_iinc C (v8 + 1) [(8, .int (v8 + 1)), (0, .ref (a 0)), (1, .int v1), (2, .int v2), (5, .int v5), (6, .long v6)] dX11_guess_91 5 rfl rfl (by decide) rfl ?_
  refine z_goto C 55 dX11_guess_94 (by decide) ?_
  exact z_sub [1, 2, 3, 4, 5, 0] rfl (Kb55 _ _ _ _ _ _ hf)
set_option maxHeartbeats 4000000 in
set_option maxRecDepth 100000 in
theorem kX11_guess_55 (E : zE) (t : zTy) (a : Nat → Nat) (out : Int32 × ST) (C : zC E cX11_guess 11 RX11 wsX11_guess (zrm 3 66) t) (R : zRi E cX11_guess 11 out.1 (CW t a out.2)) : ∀ (n : Nat) (v1 : Int32) (v2 : Int32) (v5 : Int32) (v6 : Int64) (v8 : Int32) (x : ST), fX11_guess_55 n v1 v2 v5 v6 v8 x = some out → zG E 11 0 0 (CW t a x) 55 [(0, .ref (a 0)), (1, .int v1), (2, .int v2), (5, .int v5), (6, .long v6), (8, .int v8)] [] := by
  intro n
  induction n with
  | zero =>
    intro v1 v2 v5 v6 v8 x hf
    cases hf
  | succ n ih =>
    intro v1 v2 v5 v6 v8 x hf
    rw [fX11_guess_55] at hf
    refine z_iload C dX11_guess_55 5 rfl ?_
    refine z_bipush C dX11_guess_57 32 rfl ?_
    refine z_icmp_ge C 97 dX11_guess_59 (by decide) (fun c10 => ?_) (fun c10 => ?_)
    · replace hf := z_ift c10 hf
      refine z_iload C dX11_guess_97 3 rfl ?_
      cases hf
      exact R _ _ dX11_guess_99
    · replace hf := z_iff c10 hf
      refine z_aload_n C dX11_guess_62 rfl 0 rfl ?_
      refine cg_StillStars_sheets C uX11_guess_11 (by decide +kernel) dX11_guess_63 ?_
      refine z_iload_n C dX11_guess_66 rfl 1 rfl ?_
      refine z_iload_n C dX11_guess_67 rfl 2 rfl ?_
      refine z_iload C dX11_guess_68 5 rfl ?_
      obtain ⟨q11, h12, hf⟩ := z_bind hf
      refine z_callVl C (rest := []) (tX8_apart (ze_l E) (ze_D E) t a h12) gX11_guess_X8_apart rfl hdX8_apart ⟨(Nat.le_of_ble_eq_true rfl), (Nat.le_of_ble_eq_true rfl)⟩ ⟨Nat.zero_le _, Nat.zero_le _⟩ 9 cw_at_9 rfl rfl rfl (Nat.le_of_ble_eq_true rfl) dX11_guess_70 ?_
      refine z_lstore C [(9, .long q11.1), (0, .ref (a 0)), (1, .int v1), (2, .int v2), (5, .int v5), (6, .long v6), (8, .int v8)] dX11_guess_73 (by decide) rfl ?_
      refine z_lload C dX11_guess_75 0 rfl ?_
      refine z_lload C dX11_guess_77 5 rfl ?_
      refine z_lcmp_ge C 91 dX11_guess_79 dX11_guess_80 (by decide) (fun c13 => ?_) (fun c13 => ?_)
      · replace hf := z_ift c13 hf
        exact z_sub [1, 2, 3, 4, 5, 6] rfl (kX11_guess_91 E t a out C R (fX11_guess_55 n) (ih) _ _ _ _ _ _ hf)
      · replace hf := z_iff c13 hf
        refine z_lload C dX11_guess_83 0 rfl ?_
        refine z_lstore C [(6, .long q11.1), (9, .long q11.1), (0, .ref (a 0)), (1, .int v1), (2, .int v2), (5, .int v5), (8, .int v8)] dX11_guess_85 (by decide) rfl ?_
        refine z_iload C dX11_guess_87 6 rfl ?_
        refine z_istore C [(5, .int v8), (6, .long q11.1), (9, .long q11.1), (0, .ref (a 0)), (1, .int v1), (2, .int v2), (8, .int v8)] dX11_guess_89 (by decide) rfl ?_
        exact z_sub [3, 4, 5, 0, 1, 6] rfl (kX11_guess_91 E t a out C R (fX11_guess_55 n) (ih) _ _ _ _ _ _ hf)
theorem hdX11_guess : yX11_guess.cls = RX11 ∧ yX11_guess.cls ≠ "java/lang/invoke/MethodHandle" ∧ yX11_guess.cls ≠ "java/lang/invoke/VarHandle" ∧ (parseMethodDescriptor yX11_guess.desc).map (fun d => d.parameters.length) = some 3 := by decide +kernel
set_option maxHeartbeats 4000000 in
set_option maxRecDepth 100000 in
theorem tX11_guess (l : Launch) (D : va_G) (t : zTy) (a : Nat → Nat) {v1 : Int32} {v2 : Int32} {v3 : Int32} {x : ST} {out : Int32 × ST} (hf : fX11_guess v1 v2 v3 x = some out) : zMi l yX11_guess wsX11_guess 3 66 D t [.ref (a 0), .int v1, .int v2, .int v3] (CW t a x) out.1 (CW t a out.2) := by
  refine z_entry_i (cc := cX11_guess) (nL := 11) (by decide) rfl (Nat.le_of_ble_eq_true rfl) (fun E _ _ C R => ?_)
  refine z_sub (lv' := [(0, .ref (a 0)), (1, .int v1), (2, .int v2), (3, .int v3)]) [0, 1, 2, 3] rfl ?_
  rw [fX11_guess] at hf
  refine z_aload_n C dX11_guess_0 rfl 0 rfl ?_
  refine cg_StillStars_sheets C uX11_guess_11 (by decide +kernel) dX11_guess_1 ?_
  refine z_iload_n C dX11_guess_4 rfl 1 rfl ?_
  refine z_iload_n C dX11_guess_5 rfl 3 rfl ?_
  refine z_iconst C dX11_guess_6 0 rfl ?_
  refine z_bipush C dX11_guess_7 32 rfl ?_
  obtain ⟨q1, h2, hf⟩ := z_bind hf
  refine z_callVi C (rest := []) (tX8_refusal (ze_l E) (ze_D E) t a h2) gX11_guess_X8_refusal rfl hdX8_refusal ⟨(Nat.le_of_ble_eq_true rfl), (Nat.le_of_ble_eq_true rfl)⟩ ⟨Nat.zero_le _, Nat.zero_le _⟩ 9 cw_at_9 rfl rfl rfl (Nat.le_of_ble_eq_true rfl) dX11_guess_9 ?_
  refine z_aload_n C dX11_guess_12 rfl 0 rfl ?_
  refine cg_StillStars_sheets C uX11_guess_11 (by decide +kernel) dX11_guess_13 ?_
  refine z_iload_n C dX11_guess_16 rfl 2 rfl ?_
  refine z_iload_n C dX11_guess_17 rfl 3 rfl ?_
  refine z_iconst C dX11_guess_18 0 rfl ?_
  refine z_bipush C dX11_guess_19 32 rfl ?_
  obtain ⟨q3, h4, hf⟩ := z_bind hf
  refine z_callVi C (rest := [.int q1.1]) (tX8_refusal (ze_l E) (ze_D E) t a h4) gX11_guess_X8_refusal rfl hdX8_refusal ⟨(Nat.le_of_ble_eq_true rfl), (Nat.le_of_ble_eq_true rfl)⟩ ⟨Nat.zero_le _, Nat.zero_le _⟩ 9 cw_at_9 rfl rfl rfl (Nat.le_of_ble_eq_true rfl) dX11_guess_21 ?_
  obtain ⟨q5, h6, hf⟩ := z_bind hf
  refine z_callSi C (rest := []) (tX11_earlier (ze_l E) (ze_D E) t _ h6) gX11_guess_X11_earlier rfl hdX11_earlier ⟨(Nat.le_of_ble_eq_true rfl), (Nat.le_of_ble_eq_true rfl)⟩ ⟨Nat.zero_le _, Nat.zero_le _⟩ rfl rfl (Nat.le_of_ble_eq_true rfl) dX11_guess_24 ?_
  refine z_istore C [(4, .int q5), (0, .ref (a 0)), (1, .int v1), (2, .int v2), (3, .int v3)] dX11_guess_27 (by decide) rfl ?_
  refine z_iload C dX11_guess_29 0 rfl ?_
  refine z_if_eq C 37 dX11_guess_31 (by decide) (fun c7 => ?_) (fun c7 => ?_)
  · replace hf := z_ift c7 hf
    refine z_iconst C dX11_guess_37 0 rfl ?_
    refine z_istore C [(5, .int 0), (4, .int q5), (0, .ref (a 0)), (1, .int v1), (2, .int v2), (3, .int v3)] dX11_guess_38 (by decide) rfl ?_
    refine z_aload_n C dX11_guess_40 rfl 2 rfl ?_
    refine cg_StillStars_sheets C uX11_guess_11 (by decide +kernel) dX11_guess_41 ?_
    refine z_iload_n C dX11_guess_44 rfl 3 rfl ?_
    refine z_iload_n C dX11_guess_45 rfl 4 rfl ?_
    refine z_iconst C dX11_guess_46 0 rfl ?_
    obtain ⟨q8, h9, hf⟩ := z_bind hf
    refine z_callVl C (rest := []) (tX8_apart (ze_l E) (ze_D E) t a h9) gX11_guess_X8_apart rfl hdX8_apart ⟨(Nat.le_of_ble_eq_true rfl), (Nat.le_of_ble_eq_true rfl)⟩ ⟨Nat.zero_le _, Nat.zero_le _⟩ 9 cw_at_9 rfl rfl rfl (Nat.le_of_ble_eq_true rfl) dX11_guess_47 ?_
    refine z_lstore C [(6, .long q8.1), (5, .int 0), (4, .int q5), (0, .ref (a 0)), (1, .int v1), (2, .int v2), (3, .int v3)] dX11_guess_50 (by decide) rfl ?_
    refine z_iconst C dX11_guess_52 1 rfl ?_
    refine z_istore C [(8, .int 1), (6, .long q8.1), (5, .int 0), (4, .int q5), (0, .ref (a 0)), (1, .int v1), (2, .int v2), (3, .int v3)] dX11_guess_53 (by decide) rfl ?_
    exact z_sub [4, 5, 6, 2, 1, 0] rfl (kX11_guess_55 E t a out C R 200 _ _ _ _ _ _ hf)
  · replace hf := z_iff c7 hf
    refine z_iload C dX11_guess_34 0 rfl ?_
    cases hf
    exact R _ _ dX11_guess_36
theorem uX11_sheet_11 : ∀ w ∈ wsX110, w ∈ wsX11_sheet := by decide +kernel
theorem hdX11_sheet : yX11_sheet.cls = RX11 ∧ yX11_sheet.cls ≠ "java/lang/invoke/MethodHandle" ∧ yX11_sheet.cls ≠ "java/lang/invoke/VarHandle" ∧ (parseMethodDescriptor yX11_sheet.desc).map (fun d => d.parameters.length) = some 3 := by decide +kernel
set_option maxHeartbeats 4000000 in
set_option maxRecDepth 100000 in
theorem tX11_sheet (l : Launch) (D : va_G) (t : zTy) (a : Nat → Nat) {v1 : Int32} {v2 : Int32} {v3 : Int32} {x : ST} {out : Int32 × ST} (hf : fX11_sheet v1 v2 v3 x = some out) : zMi l yX11_sheet wsX11_sheet 2 42 D t [.ref (a 0), .int v1, .int v2, .int v3] (CW t a x) out.1 (CW t a out.2) := by
  refine z_entry_i (cc := cX11_sheet) (nL := 4) (by decide) rfl (Nat.le_of_ble_eq_true rfl) (fun E _ _ C R => ?_)
  refine z_sub (lv' := [(0, .ref (a 0)), (1, .int v1), (2, .int v2), (3, .int v3)]) [0, 1, 2, 3] rfl ?_
  rw [fX11_sheet] at hf
  refine z_iload_n C dX11_sheet_0 rfl 1 rfl ?_
  obtain ⟨q1, h2, hf⟩ := z_bind hf
  refine z_callSi C (rest := []) (tX11_isSheet (ze_l E) (ze_D E) t _ h2) gX11_sheet_X11_isSheet rfl hdX11_isSheet ⟨(Nat.le_of_ble_eq_true rfl), (Nat.le_of_ble_eq_true rfl)⟩ ⟨Nat.zero_le _, Nat.zero_le _⟩ rfl rfl (Nat.le_of_ble_eq_true rfl) dX11_sheet_1 ?_
  refine z_if_eq C 20 dX11_sheet_4 (by decide) (fun c3 => ?_) (fun c3 => ?_)
  · replace hf := z_ift c3 hf
    refine z_iconst C dX11_sheet_20 (-1) rfl ?_
    cases hf
    exact R _ _ dX11_sheet_21
  · replace hf := z_iff c3 hf
    refine z_iload_n C dX11_sheet_7 rfl 2 rfl ?_
    obtain ⟨q4, h5, hf⟩ := z_bind hf
    refine z_callSi C (rest := []) (tX11_isLane (ze_l E) (ze_D E) t _ h5) gX11_sheet_X11_isLane rfl hdX11_isLane ⟨(Nat.le_of_ble_eq_true rfl), (Nat.le_of_ble_eq_true rfl)⟩ ⟨Nat.zero_le _, Nat.zero_le _⟩ rfl rfl (Nat.le_of_ble_eq_true rfl) dX11_sheet_8 ?_
    refine z_if_eq C 20 dX11_sheet_11 (by decide) (fun c6 => ?_) (fun c6 => ?_)
    · replace hf := z_ift c6 hf
      refine z_iconst C dX11_sheet_20 (-1) rfl ?_
      cases hf
      exact R _ _ dX11_sheet_21
    · replace hf := z_iff c6 hf
      refine z_iload_n C dX11_sheet_14 rfl 3 rfl ?_
      refine z_bipush C dX11_sheet_15 40 rfl ?_
      refine z_icmp_le C 22 dX11_sheet_17 (by decide) (fun c7 => ?_) (fun c7 => ?_)
      · replace hf := z_ift c7 hf
        refine z_iload_n C dX11_sheet_22 rfl 3 rfl ?_
        refine z_if_ge C 29 dX11_sheet_23 (by decide) (fun c8 => ?_) (fun c8 => ?_)
        · replace hf := z_ift c8 hf
          refine z_aload_n C dX11_sheet_29 rfl 0 rfl ?_
          refine cg_StillStars_sheets C uX11_sheet_11 (by decide +kernel) dX11_sheet_30 ?_
          refine z_iload_n C dX11_sheet_33 rfl 1 rfl ?_
          refine z_iload_n C dX11_sheet_34 rfl 2 rfl ?_
          refine z_iload_n C dX11_sheet_35 rfl 3 rfl ?_
          obtain ⟨q9, h10, hf⟩ := z_bind hf
          refine z_callVv C (rest := []) (tX8_lay (ze_l E) (ze_D E) t a h10) gX11_sheet_X8_lay rfl hdX8_lay ⟨(Nat.le_of_ble_eq_true rfl), (Nat.le_of_ble_eq_true rfl)⟩ ⟨Nat.zero_le _, Nat.zero_le _⟩ 9 cw_at_9 rfl rfl rfl (Nat.le_of_ble_eq_true rfl) dX11_sheet_36 ?_
          refine z_iload_n C dX11_sheet_39 rfl 3 rfl ?_
          cases hf
          exact R _ _ dX11_sheet_40
        · replace hf := z_iff c8 hf
          refine z_bipush C dX11_sheet_26 (-14) rfl ?_
          cases hf
          exact R _ _ dX11_sheet_28
      · replace hf := z_iff c7 hf
        refine z_iconst C dX11_sheet_20 (-1) rfl ?_
        cases hf
        exact R _ _ dX11_sheet_21
theorem uX11_drop_11 : ∀ w ∈ wsX110, w ∈ wsX11_drop := by decide +kernel
theorem hdX11_drop : yX11_drop.cls = RX11 ∧ yX11_drop.cls ≠ "java/lang/invoke/MethodHandle" ∧ yX11_drop.cls ≠ "java/lang/invoke/VarHandle" ∧ (parseMethodDescriptor yX11_drop.desc).map (fun d => d.parameters.length) = some 1 := by decide +kernel
set_option maxHeartbeats 4000000 in
set_option maxRecDepth 100000 in
theorem tX11_drop (l : Launch) (D : va_G) (t : zTy) (a : Nat → Nat) {v1 : Int32} {x : ST} {out : Int32 × ST} (hf : fX11_drop v1 x = some out) : zMi l yX11_drop wsX11_drop 2 42 D t [.ref (a 0), .int v1] (CW t a x) out.1 (CW t a out.2) := by
  refine z_entry_i (cc := cX11_drop) (nL := 2) (by decide) rfl (Nat.le_of_ble_eq_true rfl) (fun E _ _ C R => ?_)
  refine z_sub (lv' := [(0, .ref (a 0)), (1, .int v1)]) [0, 1] rfl ?_
  rw [fX11_drop] at hf
  refine z_iload_n C dX11_drop_0 rfl 1 rfl ?_
  obtain ⟨q1, h2, hf⟩ := z_bind hf
  refine z_callSi C (rest := []) (tX11_isSheet (ze_l E) (ze_D E) t _ h2) gX11_drop_X11_isSheet rfl hdX11_isSheet ⟨(Nat.le_of_ble_eq_true rfl), (Nat.le_of_ble_eq_true rfl)⟩ ⟨Nat.zero_le _, Nat.zero_le _⟩ rfl rfl (Nat.le_of_ble_eq_true rfl) dX11_drop_1 ?_
  refine z_if_ne C 9 dX11_drop_4 (by decide) (fun c3 => ?_) (fun c3 => ?_)
  · replace hf := z_iff c3 hf
    refine z_aload_n C dX11_drop_9 rfl 0 rfl ?_
    refine cg_StillStars_sheets C uX11_drop_11 (by decide +kernel) dX11_drop_10 ?_
    refine z_iload_n C dX11_drop_13 rfl 1 rfl ?_
    obtain ⟨q4, h5, hf⟩ := z_bind hf
    refine z_callVi C (rest := []) (tX8_holds (ze_l E) (ze_D E) t a h5) gX11_drop_X8_holds rfl hdX8_holds ⟨(Nat.le_of_ble_eq_true rfl), (Nat.le_of_ble_eq_true rfl)⟩ ⟨Nat.zero_le _, Nat.zero_le _⟩ 9 cw_at_9 rfl rfl rfl (Nat.le_of_ble_eq_true rfl) dX11_drop_14 ?_
    refine z_if_ne C 23 dX11_drop_17 (by decide) (fun c6 => ?_) (fun c6 => ?_)
    · replace hf := z_iff c6 hf
      refine z_aload_n C dX11_drop_23 rfl 0 rfl ?_
      refine cg_StillStars_sheets C uX11_drop_11 (by decide +kernel) dX11_drop_24 ?_
      refine z_iload_n C dX11_drop_27 rfl 1 rfl ?_
      obtain ⟨q7, h8, hf⟩ := z_bind hf
      refine z_callVi C (rest := []) (tX8_takeAway (ze_l E) (ze_D E) t a h8) gX11_drop_X8_takeAway rfl hdX8_takeAway ⟨(Nat.le_of_ble_eq_true rfl), (Nat.le_of_ble_eq_true rfl)⟩ ⟨Nat.zero_le _, Nat.zero_le _⟩ 9 cw_at_9 rfl rfl rfl (Nat.le_of_ble_eq_true rfl) dX11_drop_28 ?_
      cases hf
      exact R _ _ dX11_drop_31
    · replace hf := z_ift c6 hf
      refine z_bipush C dX11_drop_20 (-11) rfl ?_
      cases hf
      exact R _ _ dX11_drop_22
  · replace hf := z_ift c3 hf
    refine z_iconst C dX11_drop_7 (-1) rfl ?_
    cases hf
    exact R _ _ dX11_drop_8
theorem uX11_item_11 : ∀ w ∈ wsX110, w ∈ wsX11_item := by decide +kernel
theorem hdX11_item : yX11_item.cls = RX11 ∧ yX11_item.cls ≠ "java/lang/invoke/MethodHandle" ∧ yX11_item.cls ≠ "java/lang/invoke/VarHandle" ∧ (parseMethodDescriptor yX11_item.desc).map (fun d => d.parameters.length) = some 4 := by decide +kernel
set_option maxHeartbeats 4000000 in
set_option maxRecDepth 100000 in
theorem tX11_item (l : Launch) (D : va_G) (t : zTy) (a : Nat → Nat) {v1 : Int32} {v2 : Int32} {v3 : Int32} {v4 : Int32} {x : ST} {out : Int32 × ST} (hf : fX11_item v1 v2 v3 v4 x = some out) : zMi l yX11_item wsX11_item 3 66 D t [.ref (a 0), .int v1, .int v2, .int v3, .int v4] (CW t a x) out.1 (CW t a out.2) := by
  refine z_entry_i (cc := cX11_item) (nL := 6) (by decide) rfl (Nat.le_of_ble_eq_true rfl) (fun E _ _ C R => ?_)
  refine z_sub (lv' := [(0, .ref (a 0)), (1, .int v1), (2, .int v2), (3, .int v3), (4, .int v4)]) [0, 1, 2, 3, 4] rfl ?_
  rw [fX11_item] at hf
  refine z_aload_n C dX11_item_0 rfl 0 rfl ?_
  refine cg_StillStars_sheets C uX11_item_11 (by decide +kernel) dX11_item_1 ?_
  refine z_iload_n C dX11_item_4 rfl 1 rfl ?_
  refine z_iload_n C dX11_item_5 rfl 2 rfl ?_
  refine z_iload_n C dX11_item_6 rfl 3 rfl ?_
  refine z_iconst C dX11_item_7 1 rfl ?_
  obtain ⟨q1, h2, hf⟩ := z_bind hf
  refine z_callVi C (rest := []) (tX8_refusal (ze_l E) (ze_D E) t a h2) gX11_item_X8_refusal rfl hdX8_refusal ⟨(Nat.le_of_ble_eq_true rfl), (Nat.le_of_ble_eq_true rfl)⟩ ⟨Nat.zero_le _, Nat.zero_le _⟩ 9 cw_at_9 rfl rfl rfl (Nat.le_of_ble_eq_true rfl) dX11_item_8 ?_
  refine z_istore C [(5, .int q1.1), (0, .ref (a 0)), (1, .int v1), (2, .int v2), (3, .int v3), (4, .int v4)] dX11_item_11 (by decide) rfl ?_
  refine z_iload C dX11_item_13 0 rfl ?_
  refine z_if_eq C 21 dX11_item_15 (by decide) (fun c3 => ?_) (fun c3 => ?_)
  · replace hf := z_ift c3 hf
    refine z_aload_n C dX11_item_21 rfl 1 rfl ?_
    refine cg_StillStars_sheets C uX11_item_11 (by decide +kernel) dX11_item_22 ?_
    refine z_iload_n C dX11_item_25 rfl 2 rfl ?_
    refine z_iload_n C dX11_item_26 rfl 4 rfl ?_
    refine z_iload C dX11_item_27 5 rfl ?_
    obtain ⟨q4, h5, hf⟩ := z_bind hf
    refine z_callVv C (rest := []) (tX8_put (ze_l E) (ze_D E) t a h5) gX11_item_X8_put rfl hdX8_put ⟨(Nat.le_of_ble_eq_true rfl), (Nat.le_of_ble_eq_true rfl)⟩ ⟨Nat.zero_le _, Nat.zero_le _⟩ 9 cw_at_9 rfl rfl rfl (Nat.le_of_ble_eq_true rfl) dX11_item_29 ?_
    refine z_iconst C dX11_item_32 1 rfl ?_
    cases hf
    exact R _ _ dX11_item_33
  · replace hf := z_iff c3 hf
    refine z_iload C dX11_item_18 0 rfl ?_
    cases hf
    exact R _ _ dX11_item_20
theorem uX11_layer_11 : ∀ w ∈ wsX110, w ∈ wsX11_layer := by decide +kernel
set_option maxHeartbeats 4000000 in
set_option maxRecDepth 100000 in
theorem kX11_layer_57 (E : zE) (t : zTy) (a : Nat → Nat) (out : Int32 × ST) (C : zC E cX11_layer 7 RX11 wsX11_layer (zrm 3 66) t) (R : zRi E cX11_layer 7 out.1 (CW t a out.2)) : ∀ (n : Nat) (v1 : Int32) (v2 : Int32) (v4 : Int32) (v6 : Int32) (x : ST), fX11_layer_57 n v1 v2 v4 v6 x = some out → zG E 7 0 0 (CW t a x) 57 [(0, .ref (a 0)), (1, .int v1), (2, .int v2), (4, .int v4), (6, .int v6)] [] := by
  intro n
  induction n with
  | zero =>
    intro v1 v2 v4 v6 x hf
    cases hf
  | succ n ih =>
    intro v1 v2 v4 v6 x hf
    rw [fX11_layer_57] at hf
    refine z_iload C dX11_layer_57 4 rfl ?_
    refine z_bipush C dX11_layer_59 32 rfl ?_
    refine z_icmp_ge C 94 dX11_layer_61 (by decide) (fun c10 => ?_) (fun c10 => ?_)
    · replace hf := z_ift c10 hf
      refine z_bipush C dX11_layer_94 32 rfl ?_
      cases hf
      exact R _ _ dX11_layer_96
    · replace hf := z_iff c10 hf
      refine z_aload_n C dX11_layer_64 rfl 0 rfl ?_
      refine cg_StillStars_layers C uX11_layer_11 (by decide +kernel) dX11_layer_65 ?_
      refine z_iload_n C dX11_layer_68 rfl 1 rfl ?_
      refine z_iload C dX11_layer_69 4 rfl ?_
      refine z_aload_n C dX11_layer_71 rfl 0 rfl ?_
      refine cg_StillStars_sheets C uX11_layer_11 (by decide +kernel) dX11_layer_72 ?_
      refine z_iload_n C dX11_layer_75 rfl 2 rfl ?_
      refine z_iload C dX11_layer_76 3 rfl ?_
      refine z_iload C dX11_layer_78 4 rfl ?_
      refine z_iadd C dX11_layer_80 ?_
      obtain ⟨q11, h12, hf⟩ := z_bind hf
      refine z_callVi C (rest := [.int v6, .int v1, .ref (a 5)]) (tX8_at (ze_l E) (ze_D E) t a h12) gX11_layer_X8_at rfl hdX8_at ⟨(Nat.le_of_ble_eq_true rfl), (Nat.le_of_ble_eq_true rfl)⟩ ⟨Nat.zero_le _, Nat.zero_le _⟩ 9 cw_at_9 rfl rfl rfl (Nat.le_of_ble_eq_true rfl) dX11_layer_81 ?_
      obtain ⟨q13, h14, hf⟩ := z_bind hf
      refine z_callVi C (rest := []) (tX4_swapCell (ze_l E) (ze_D E) t a h14) gX11_layer_X4_swapCell rfl hdX4_swapCell ⟨(Nat.le_of_ble_eq_true rfl), (Nat.le_of_ble_eq_true rfl)⟩ ⟨Nat.zero_le _, Nat.zero_le _⟩ 5 cw_at_5 rfl rfl rfl (Nat.le_of_ble_eq_true rfl) dX11_layer_84 ?_
      refine z_pop C dX11_layer_87 rfl ?_
      refine z_iinc C (v6 + 1) [(6, .int (v6 + 1)), (0, .ref (a 0)), (1, .int v1), (2, .int v2), (4, .int v4)] dX11_layer_88 4 rfl rfl (by decide) rfl ?_
      refine z_goto C 57 dX11_layer_91 (by decide) ?_
      exact z_sub [1, 2, 3, 4, 0] rfl (ih _ _ _ _ _ hf)
theorem hdX11_layer : yX11_layer.cls = RX11 ∧ yX11_layer.cls ≠ "java/lang/invoke/MethodHandle" ∧ yX11_layer.cls ≠ "java/lang/invoke/VarHandle" ∧ (parseMethodDescriptor yX11_layer.desc).map (fun d => d.parameters.length) = some 4 := by decide +kernel
set_option maxHeartbeats 4000000 in
set_option maxRecDepth 100000 in
theorem tX11_layer (l : Launch) (D : va_G) (t : zTy) (a : Nat → Nat) {v1 : Int32} {v2 : Int32} {v3 : Int32} {v4 : Int32} {x : ST} {out : Int32 × ST} (hf : fX11_layer v1 v2 v3 v4 x = some out) : zMi l yX11_layer wsX11_layer 3 66 D t [.ref (a 0), .int v1, .int v2, .int v3, .int v4] (CW t a x) out.1 (CW t a out.2) := by
  refine z_entry_i (cc := cX11_layer) (nL := 7) (by decide) rfl (Nat.le_of_ble_eq_true rfl) (fun E _ _ C R => ?_)
  refine z_sub (lv' := [(0, .ref (a 0)), (1, .int v1), (2, .int v2), (3, .int v3), (4, .int v4)]) [0, 1, 2, 3, 4] rfl ?_
  rw [fX11_layer] at hf
  refine z_iload_n C dX11_layer_0 rfl 1 rfl ?_
  obtain ⟨q1, h2, hf⟩ := z_bind hf
  refine z_callSi C (rest := []) (tX11_isLayer (ze_l E) (ze_D E) t _ h2) gX11_layer_X11_isLayer rfl hdX11_isLayer ⟨(Nat.le_of_ble_eq_true rfl), (Nat.le_of_ble_eq_true rfl)⟩ ⟨Nat.zero_le _, Nat.zero_le _⟩ rfl rfl (Nat.le_of_ble_eq_true rfl) dX11_layer_1 ?_
  refine z_if_ne C 9 dX11_layer_4 (by decide) (fun c3 => ?_) (fun c3 => ?_)
  · replace hf := z_iff c3 hf
    refine z_aload_n C dX11_layer_9 rfl 0 rfl ?_
    refine cg_StillStars_sheets C uX11_layer_11 (by decide +kernel) dX11_layer_10 ?_
    refine z_iload_n C dX11_layer_13 rfl 2 rfl ?_
    refine z_iload_n C dX11_layer_14 rfl 3 rfl ?_
    refine z_iload C dX11_layer_15 4 rfl ?_
    refine z_bipush C dX11_layer_17 32 rfl ?_
    obtain ⟨q4, h5, hf⟩ := z_bind hf
    refine z_callVi C (rest := []) (tX8_refusal (ze_l E) (ze_D E) t a h5) gX11_layer_X8_refusal rfl hdX8_refusal ⟨(Nat.le_of_ble_eq_true rfl), (Nat.le_of_ble_eq_true rfl)⟩ ⟨Nat.zero_le _, Nat.zero_le _⟩ 9 cw_at_9 rfl rfl rfl (Nat.le_of_ble_eq_true rfl) dX11_layer_19 ?_
    refine z_istore C [(5, .int q4.1), (0, .ref (a 0)), (1, .int v1), (2, .int v2), (3, .int v3), (4, .int v4)] dX11_layer_22 (by decide) rfl ?_
    refine z_iload C dX11_layer_24 0 rfl ?_
    refine z_if_eq C 32 dX11_layer_26 (by decide) (fun c6 => ?_) (fun c6 => ?_)
    · replace hf := z_ift c6 hf
      refine z_aload_n C dX11_layer_32 rfl 1 rfl ?_
      refine cg_StillStars_sheets C uX11_layer_11 (by decide +kernel) dX11_layer_33 ?_
      refine z_iload_n C dX11_layer_36 rfl 3 rfl ?_
      refine z_iload C dX11_layer_37 5 rfl ?_
      refine z_bipush C dX11_layer_39 32 rfl ?_
      refine z_bipush C dX11_layer_41 (-99) rfl ?_
      refine z_bipush C dX11_layer_43 99 rfl ?_
      obtain ⟨q7, h8, hf⟩ := z_bind hf
      refine z_callVi C (rest := []) (tX8_allWithin (ze_l E) (ze_D E) t a h8) gX11_layer_X8_allWithin rfl hdX8_allWithin ⟨(Nat.le_of_ble_eq_true rfl), (Nat.le_of_ble_eq_true rfl)⟩ ⟨Nat.zero_le _, Nat.zero_le _⟩ 9 cw_at_9 rfl rfl rfl (Nat.le_of_ble_eq_true rfl) dX11_layer_45 ?_
      refine z_if_ne C 54 dX11_layer_48 (by decide) (fun c9 => ?_) (fun c9 => ?_)
      · replace hf := z_iff c9 hf
        refine z_iconst C dX11_layer_54 0 rfl ?_
        refine z_istore C [(6, .int 0), (5, .int q4.1), (0, .ref (a 0)), (1, .int v1), (2, .int v2), (3, .int v3), (4, .int v4)] dX11_layer_55 (by decide) rfl ?_
        exact z_sub [2, 3, 4, 6, 0] rfl (kX11_layer_57 E t a out C R 200 _ _ _ _ _ hf)
      · replace hf := z_ift c9 hf
        refine z_bipush C dX11_layer_51 (-2) rfl ?_
        cases hf
        exact R _ _ dX11_layer_53
    · replace hf := z_iff c6 hf
      refine z_iload C dX11_layer_29 0 rfl ?_
      cases hf
      exact R _ _ dX11_layer_31
  · replace hf := z_ift c3 hf
    refine z_iconst C dX11_layer_7 (-1) rfl ?_
    cases hf
    exact R _ _ dX11_layer_8

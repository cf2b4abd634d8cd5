theorem uX11_mirror_11 : ∀ w ∈ wsX110, w ∈ wsX11_mirror := by decide +kernel
theorem hdX11_mirror : yX11_mirror.cls = RX11 ∧ yX11_mirror.cls ≠ "java/lang/invoke/MethodHandle" ∧ yX11_mirror.cls ≠ "java/lang/invoke/VarHandle" ∧ (parseMethodDescriptor yX11_mirror.desc).map (fun d => d.parameters.length) = some 2 := by decide +kernel
set_option maxHeartbeats 4000000 in
set_option maxRecDepth 100000 in
theorem tX11_mirror (l : Launch) (D : va_G) (t : zTy) (a : Nat → Nat) {v1 : Int32} {v2 : Int32} {x : ST} {out : Int32 × ST} (hf : fX11_mirror v1 v2 x = some out) : zMi l yX11_mirror wsX11_mirror 3 65 D t [.ref (a 0), .int v1, .int v2] (CW t a x) out.1 (CW t a out.2) := by
  refine z_entry_i (cc := cX11_mirror) (nL := 3) (by decide) rfl (Nat.le_of_ble_eq_true rfl) (fun E _ _ C R => ?_)
  refine z_sub (lv' := [(0, .ref (a 0)), (1, .int v1), (2, .int v2)]) [0, 1, 2] rfl ?_
  rw [fX11_mirror] at hf
  refine z_iload_n C dX11_mirror_0 rfl 1 rfl ?_
  refine z_iconst C dX11_mirror_1 1 rfl ?_
  refine z_bipush C dX11_mirror_2 8 rfl ?_
  obtain ⟨q1, h2, hf⟩ := z_bind hf
  refine z_callSi C (rest := []) (tX11_within (ze_l E) (ze_D E) t _ h2) gX11_mirror_X11_within rfl hdX11_within ⟨(Nat.le_of_ble_eq_true rfl), (Nat.le_of_ble_eq_true rfl)⟩ ⟨Nat.zero_le _, Nat.zero_le _⟩ rfl rfl (Nat.le_of_ble_eq_true rfl) dX11_mirror_4 ?_
  refine z_if_eq C 19 dX11_mirror_7 (by decide) (fun c3 => ?_) (fun c3 => ?_)
  · replace hf := z_ift c3 hf
    refine z_iconst C dX11_mirror_19 (-1) rfl ?_
    cases hf
    exact R _ _ dX11_mirror_20
  · replace hf := z_iff c3 hf
    refine z_iload_n C dX11_mirror_10 rfl 2 rfl ?_
    refine z_iconst C dX11_mirror_11 1 rfl ?_
    refine z_iconst C dX11_mirror_12 5 rfl ?_
    obtain ⟨q4, h5, hf⟩ := z_bind hf
    refine z_callSi C (rest := []) (tX11_within (ze_l E) (ze_D E) t _ h5) gX11_mirror_X11_within rfl hdX11_within ⟨(Nat.le_of_ble_eq_true rfl), (Nat.le_of_ble_eq_true rfl)⟩ ⟨Nat.zero_le _, Nat.zero_le _⟩ rfl rfl (Nat.le_of_ble_eq_true rfl) dX11_mirror_13 ?_
    refine z_if_ne C 21 dX11_mirror_16 (by decide) (fun c6 => ?_) (fun c6 => ?_)
    · replace hf := z_iff c6 hf
      refine z_aload_n C dX11_mirror_21 rfl 0 rfl ?_
      refine cg_StillStars_spots C uX11_mirror_11 (by decide +kernel) dX11_mirror_22 ?_
      refine z_iload_n C dX11_mirror_25 rfl 1 rfl ?_
      obtain ⟨q7, h8, hf⟩ := z_bind hf
      refine z_callVv C (rest := []) (tX9_renew (ze_l E) (ze_D E) t a h8) gX11_mirror_X9_renew rfl hdX9_renew ⟨(Nat.le_of_ble_eq_true rfl), (Nat.le_of_ble_eq_true rfl)⟩ ⟨Nat.zero_le _, Nat.zero_le _⟩ 10 cw_at_10 rfl rfl rfl (Nat.le_of_ble_eq_true rfl) dX11_mirror_26 ?_
      refine z_aload_n C dX11_mirror_29 rfl 0 rfl ?_
      refine cg_StillStars_parts C uX11_mirror_11 (by decide +kernel) dX11_mirror_30 ?_
      refine z_iload_n C dX11_mirror_33 rfl 2 rfl ?_
      obtain ⟨q9, h10, hf⟩ := z_bind hf
      refine z_callVv C (rest := []) (tX6_renew (ze_l E) (ze_D E) t a h10) gX11_mirror_X6_renew rfl hdX6_renew ⟨(Nat.le_of_ble_eq_true rfl), (Nat.le_of_ble_eq_true rfl)⟩ ⟨Nat.zero_le _, Nat.zero_le _⟩ 7 cw_at_7 rfl rfl rfl (Nat.le_of_ble_eq_true rfl) dX11_mirror_34 ?_
      refine z_aload_n C dX11_mirror_37 rfl 0 rfl ?_
      refine cg_StillStars_table C uX11_mirror_11 (by decide +kernel) dX11_mirror_38 ?_
      obtain ⟨q11, h12, hf⟩ := z_bind hf
      refine z_callVv C (rest := []) (tX10_renew (ze_l E) (ze_D E) t a h12) gX11_mirror_X10_renew rfl hdX10_renew ⟨(Nat.le_of_ble_eq_true rfl), (Nat.le_of_ble_eq_true rfl)⟩ ⟨Nat.zero_le _, Nat.zero_le _⟩ 11 cw_at_11 rfl rfl rfl (Nat.le_of_ble_eq_true rfl) dX11_mirror_41 ?_
      refine z_aload_n C dX11_mirror_44 rfl 0 rfl ?_
      refine cg_StillStars_keeper C uX11_mirror_11 (by decide +kernel) dX11_mirror_45 ?_
      obtain ⟨q13, h14, hf⟩ := z_bind hf
      refine z_callVv C (rest := []) (tX3_renew (ze_l E) (ze_D E) t a h14) gX11_mirror_X3_renew rfl hdX3_renew ⟨(Nat.le_of_ble_eq_true rfl), (Nat.le_of_ble_eq_true rfl)⟩ ⟨Nat.zero_le _, Nat.zero_le _⟩ 4 cw_at_4 rfl rfl rfl (Nat.le_of_ble_eq_true rfl) dX11_mirror_48 ?_
      refine z_aload_n C dX11_mirror_51 rfl 0 rfl ?_
      refine cg_StillStars_book C uX11_mirror_11 (by decide +kernel) dX11_mirror_52 ?_
      obtain ⟨q15, h16, hf⟩ := z_bind hf
      refine z_callVv C (rest := []) (tX1_renew (ze_l E) (ze_D E) t a h16) gX11_mirror_X1_renew rfl hdX1_renew ⟨(Nat.le_of_ble_eq_true rfl), (Nat.le_of_ble_eq_true rfl)⟩ ⟨Nat.zero_le _, Nat.zero_le _⟩ 2 cw_at_2 rfl rfl rfl (Nat.le_of_ble_eq_true rfl) dX11_mirror_55 ?_
      refine z_iconst C dX11_mirror_58 1 rfl ?_
      cases hf
      exact R _ _ dX11_mirror_59
    · replace hf := z_ift c6 hf
      refine z_iconst C dX11_mirror_19 (-1) rfl ?_
      cases hf
      exact R _ _ dX11_mirror_20
theorem uX11_isSpot_11 : ∀ w ∈ wsX110, w ∈ wsX11_isSpot := by decide +kernel
theorem hdX11_isSpot : yX11_isSpot.cls = RX11 ∧ yX11_isSpot.cls ≠ "java/lang/invoke/MethodHandle" ∧ yX11_isSpot.cls ≠ "java/lang/invoke/VarHandle" ∧ (parseMethodDescriptor yX11_isSpot.desc).map (fun d => d.parameters.length) = some 1 := by decide +kernel
set_option maxHeartbeats 4000000 in
set_option maxRecDepth 100000 in
theorem tX11_isSpot (l : Launch) (D : va_G) (t : zTy) (a : Nat → Nat) {v1 : Int32} {x : ST} {out : Int32 × ST} (hf : fX11_isSpot v1 x = some out) : zMi l yX11_isSpot wsX11_isSpot 1 22 D t [.ref (a 0), .int v1] (CW t a x) out.1 (CW t a out.2) := by
  refine z_entry_z (cc := cX11_isSpot) (nL := 2) (by decide) rfl (Nat.le_of_ble_eq_true rfl) (fun E _ _ C R => ?_)
  refine z_sub (lv' := [(0, .ref (a 0)), (1, .int v1)]) [0, 1] rfl ?_
  rw [fX11_isSpot] at hf
  refine z_iload_n C dX11_isSpot_0 rfl 1 rfl ?_
  refine z_iconst C dX11_isSpot_1 0 rfl ?_
  refine z_aload_n C dX11_isSpot_2 rfl 0 rfl ?_
  refine cg_StillStars_spots C uX11_isSpot_11 (by decide +kernel) dX11_isSpot_3 ?_
  obtain ⟨q1, h2, hf⟩ := z_bind hf
  refine z_callVi C (rest := [.int 0, .int v1]) (tX9_count (ze_l E) (ze_D E) t a h2) gX11_isSpot_X9_count rfl hdX9_count ⟨(Nat.le_of_ble_eq_true rfl), (Nat.le_of_ble_eq_true rfl)⟩ ⟨Nat.zero_le _, Nat.zero_le _⟩ 10 cw_at_10 rfl rfl rfl (Nat.le_of_ble_eq_true rfl) dX11_isSpot_6 ?_
  refine z_iconst C dX11_isSpot_9 1 rfl ?_
  refine z_isub C dX11_isSpot_10 ?_
  obtain ⟨q3, h4, hf⟩ := z_bind hf
  refine z_callSi C (rest := []) (tX11_within (ze_l E) (ze_D E) t _ h4) gX11_isSpot_X11_within rfl hdX11_within ⟨(Nat.le_of_ble_eq_true rfl), (Nat.le_of_ble_eq_true rfl)⟩ ⟨Nat.zero_le _, Nat.zero_le _⟩ rfl rfl (Nat.le_of_ble_eq_true rfl) dX11_isSpot_11 ?_
  obtain ⟨h5, hf⟩ := z_some hf
  cases hf
  exact R _ _ dX11_isSpot_14 h5
theorem uX11_light_11 : ∀ w ∈ wsX110, w ∈ wsX11_light := by decide +kernel
theorem hdX11_light : yX11_light.cls = RX11 ∧ yX11_light.cls ≠ "java/lang/invoke/MethodHandle" ∧ yX11_light.cls ≠ "java/lang/invoke/VarHandle" ∧ (parseMethodDescriptor yX11_light.desc).map (fun d => d.parameters.length) = some 3 := by decide +kernel
set_option maxHeartbeats 4000000 in
set_option maxRecDepth 100000 in
theorem tX11_light (l : Launch) (D : va_G) (t : zTy) (a : Nat → Nat) {v1 : Int32} {v2 : Int32} {v3 : Int32} {x : ST} {out : Int32 × ST} (hf : fX11_light v1 v2 v3 x = some out) : zMi l yX11_light wsX11_light 2 43 D t [.ref (a 0), .int v1, .int v2, .int v3] (CW t a x) out.1 (CW t a out.2) := by
  refine z_entry_i (cc := cX11_light) (nL := 4) (by decide) rfl (Nat.le_of_ble_eq_true rfl) (fun E _ _ C R => ?_)
  refine z_sub (lv' := [(0, .ref (a 0)), (1, .int v1), (2, .int v2), (3, .int v3)]) [0, 1, 2, 3] rfl ?_
  rw [fX11_light] at hf
  refine z_aload_n C dX11_light_0 rfl 0 rfl ?_
  refine z_iload_n C dX11_light_1 rfl 1 rfl ?_
  obtain ⟨q1, h2, hf⟩ := z_bind hf
  refine z_callVi C (rest := []) (tX11_isSpot (ze_l E) (ze_D E) t a h2) gX11_light_X11_isSpot rfl hdX11_isSpot ⟨(Nat.le_of_ble_eq_true rfl), (Nat.le_of_ble_eq_true rfl)⟩ ⟨Nat.zero_le _, Nat.zero_le _⟩ 0 cw_at_0 rfl rfl rfl (Nat.le_of_ble_eq_true rfl) dX11_light_2 ?_
  refine z_if_eq C 29 dX11_light_5 (by decide) (fun c3 => ?_) (fun c3 => ?_)
  · replace hf := z_ift c3 hf
    refine z_iconst C dX11_light_29 (-1) rfl ?_
    cases hf
    exact R _ _ dX11_light_30
  · replace hf := z_iff c3 hf
    refine z_iload_n C dX11_light_8 rfl 2 rfl ?_
    refine z_iconst C dX11_light_9 0 rfl ?_
    refine z_bipush C dX11_light_10 15 rfl ?_
    obtain ⟨q4, h5, hf⟩ := z_bind hf
    refine z_callSi C (rest := []) (tX11_within (ze_l E) (ze_D E) t _ h5) gX11_light_X11_within rfl hdX11_within ⟨(Nat.le_of_ble_eq_true rfl), (Nat.le_of_ble_eq_true rfl)⟩ ⟨Nat.zero_le _, Nat.zero_le _⟩ rfl rfl (Nat.le_of_ble_eq_true rfl) dX11_light_12 ?_
    refine z_if_eq C 29 dX11_light_15 (by decide) (fun c6 => ?_) (fun c6 => ?_)
    · replace hf := z_ift c6 hf
      refine z_iconst C dX11_light_29 (-1) rfl ?_
      cases hf
      exact R _ _ dX11_light_30
    · replace hf := z_iff c6 hf
      refine z_iload_n C dX11_light_18 rfl 3 rfl ?_
      refine z_iconst C dX11_light_19 0 rfl ?_
      refine z_sipush C dX11_light_20 255 rfl ?_
      obtain ⟨q7, h8, hf⟩ := z_bind hf
      refine z_callSi C (rest := []) (tX11_within (ze_l E) (ze_D E) t _ h8) gX11_light_X11_within rfl hdX11_within ⟨(Nat.le_of_ble_eq_true rfl), (Nat.le_of_ble_eq_true rfl)⟩ ⟨Nat.zero_le _, Nat.zero_le _⟩ rfl rfl (Nat.le_of_ble_eq_true rfl) dX11_light_23 ?_
      refine z_if_ne C 31 dX11_light_26 (by decide) (fun c9 => ?_) (fun c9 => ?_)
      · replace hf := z_iff c9 hf
        refine z_aload_n C dX11_light_31 rfl 0 rfl ?_
        refine cg_StillStars_spots C uX11_light_11 (by decide +kernel) dX11_light_32 ?_
        refine z_iload_n C dX11_light_35 rfl 1 rfl ?_
        refine z_iload_n C dX11_light_36 rfl 2 rfl ?_
        refine z_iload_n C dX11_light_37 rfl 3 rfl ?_
        obtain ⟨q10, h11, hf⟩ := z_bind hf
        refine z_callVi C (rest := []) (tX9_swapLight (ze_l E) (ze_D E) t a h11) gX11_light_X9_swapLight rfl hdX9_swapLight ⟨(Nat.le_of_ble_eq_true rfl), (Nat.le_of_ble_eq_true rfl)⟩ ⟨Nat.zero_le _, Nat.zero_le _⟩ 10 cw_at_10 rfl rfl rfl (Nat.le_of_ble_eq_true rfl) dX11_light_38 ?_
        cases hf
        exact R _ _ dX11_light_41
      · replace hf := z_ift c9 hf
        refine z_iconst C dX11_light_29 (-1) rfl ?_
        cases hf
        exact R _ _ dX11_light_30
theorem uX11_board_11 : ∀ w ∈ wsX110, w ∈ wsX11_board := by decide +kernel
set_option maxHeartbeats 4000000 in
set_option maxRecDepth 100000 in
theorem kX11_board_62 (E : zE) (t : zTy) (a : Nat → Nat) (out : Int32 × ST) (C : zC E cX11_board 7 RX11 wsX11_board (zrm 3 66) t) (R : zRi E cX11_board 7 out.1 (CW t a out.2)) : ∀ (n : Nat) (v1 : Int32) (v2 : Int32) (v4 : Int32) (v6 : Int32) (x : ST), fX11_board_62 n v1 v2 v4 v6 x = some out → zG E 7 0 0 (CW t a x) 62 [(0, .ref (a 0)), (1, .int v1), (2, .int v2), (4, .int v4), (6, .int v6)] [] := by
  intro n
  induction n with
  | zero =>
    intro v1 v2 v4 v6 x hf
    cases hf
  | succ n ih =>
    intro v1 v2 v4 v6 x hf
    rw [fX11_board_62] at hf
    refine z_iload C dX11_board_62 4 rfl ?_
    refine z_bipush C dX11_board_64 16 rfl ?_
    refine z_icmp_ge C 103 dX11_board_66 (by decide) (fun c11 => ?_) (fun c11 => ?_)
    · replace hf := z_ift c11 hf
      refine z_iconst C dX11_board_103 1 rfl ?_
      cases hf
      exact R _ _ dX11_board_104
    · replace hf := z_iff c11 hf
      refine z_aload_n C dX11_board_69 rfl 0 rfl ?_
      refine cg_StillStars_spots C uX11_board_11 (by decide +kernel) dX11_board_70 ?_
      refine z_iload_n C dX11_board_73 rfl 1 rfl ?_
      refine z_iload C dX11_board_74 4 rfl ?_
      refine z_aload_n C dX11_board_76 rfl 0 rfl ?_
      refine cg_StillStars_sheets C uX11_board_11 (by decide +kernel) dX11_board_77 ?_
      refine z_iload_n C dX11_board_80 rfl 2 rfl ?_
      refine z_iload C dX11_board_81 3 rfl ?_
      refine z_iload C dX11_board_83 4 rfl ?_
      refine z_iadd C dX11_board_85 ?_
      obtain ⟨q12, h13, hf⟩ := z_bind hf
      refine z_callVi C (rest := [.int v6, .int v1, .ref (a 10)]) (tX8_at (ze_l E) (ze_D E) t a h13) gX11_board_X8_at rfl hdX8_at ⟨(Nat.le_of_ble_eq_true rfl), (Nat.le_of_ble_eq_true rfl)⟩ ⟨Nat.zero_le _, Nat.zero_le _⟩ 9 cw_at_9 rfl rfl rfl (Nat.le_of_ble_eq_true rfl) dX11_board_86 ?_
      refine z_sipush C dX11_board_89 255 rfl ?_
      refine z_iand C dX11_board_92 ?_
      obtain ⟨q14, h15, hf⟩ := z_bind hf
      refine z_callVi C (rest := []) (tX9_swapLight (ze_l E) (ze_D E) t a h15) gX11_board_X9_swapLight rfl hdX9_swapLight ⟨(Nat.le_of_ble_eq_true rfl), (Nat.le_of_ble_eq_true rfl)⟩ ⟨Nat.zero_le _, Nat.zero_le _⟩ 10 cw_at_10 rfl rfl rfl (Nat.le_of_ble_eq_true rfl) dX11_board_93 ?_
      refine z_pop C dX11_board_96 rfl ?_
      refine z_iinc C (v6 + 1) [(6, .int (v6 + 1)), (0, .ref (a 0)), (1, .int v1), (2, .int v2), (4, .int v4)] dX11_board_97 4 rfl rfl (by decide) rfl ?_
      refine z_goto C 62 dX11_board_100 (by decide) ?_
      exact z_sub [1, 2, 3, 4, 0] rfl (ih _ _ _ _ _ hf)
set_option maxHeartbeats 4000000 in
set_option maxRecDepth 100000 in
theorem kX11_board_59 (E : zE) (t : zTy) (a : Nat → Nat) (out : Int32 × ST) (C : zC E cX11_board 7 RX11 wsX11_board (zrm 3 66) t) (R : zRi E cX11_board 7 out.1 (CW t a out.2)) : ∀ (v1 : Int32) (v2 : Int32) (v4 : Int32) (x : ST), fX11_board_59 v1 v2 v4 x = some out → zG E 7 0 0 (CW t a x) 59 [(0, .ref (a 0)), (1, .int v1), (2, .int v2), (4, .int v4)] [] := by
  intro v1 v2 v4 x hf
  rw [fX11_board_59] at hf
  refine z_iconst C dX11_board_59 0 rfl ?_
  refine z_istore C [(6, .int 0), (0, .ref (a 0)), (1, .int v1), (2, .int v2), (4, .int v4)] dX11_board_60 (by decide) rfl ?_
  exact z_sub [1, 2, 3, 4, 0] rfl (kX11_board_62 E t a out C R 200 _ _ _ _ _ hf)
theorem hdX11_board : yX11_board.cls = RX11 ∧ yX11_board.cls ≠ "java/lang/invoke/MethodHandle" ∧ yX11_board.cls ≠ "java/lang/invoke/VarHandle" ∧ (parseMethodDescriptor yX11_board.desc).map (fun d => d.parameters.length) = some 4 := by decide +kernel
set_option maxHeartbeats 4000000 in
set_option maxRecDepth 100000 in
theorem tX11_board (l : Launch) (D : va_G) (t : zTy) (a : Nat → Nat) {v1 : Int32} {v2 : Int32} {v3 : Int32} {v4 : Int32} {x : ST} {out : Int32 × ST} (hf : fX11_board v1 v2 v3 v4 x = some out) : zMi l yX11_board wsX11_board 3 66 D t [.ref (a 0), .int v1, .int v2, .int v3, .int v4] (CW t a x) out.1 (CW t a out.2) := by
  refine z_entry_i (cc := cX11_board) (nL := 7) (by decide) rfl (Nat.le_of_ble_eq_true rfl) (fun E _ _ C R => ?_)
  refine z_sub (lv' := [(0, .ref (a 0)), (1, .int v1), (2, .int v2), (3, .int v3), (4, .int v4)]) [0, 1, 2, 3, 4] rfl ?_
  rw [fX11_board] at hf
  refine z_aload_n C dX11_board_0 rfl 0 rfl ?_
  refine z_iload_n C dX11_board_1 rfl 1 rfl ?_
  obtain ⟨q1, h2, hf⟩ := z_bind hf
  refine z_callVi C (rest := []) (tX11_isSpot (ze_l E) (ze_D E) t a h2) gX11_board_X11_isSpot rfl hdX11_isSpot ⟨(Nat.le_of_ble_eq_true rfl), (Nat.le_of_ble_eq_true rfl)⟩ ⟨Nat.zero_le _, Nat.zero_le _⟩ 0 cw_at_0 rfl rfl rfl (Nat.le_of_ble_eq_true rfl) dX11_board_2 ?_
  refine z_if_ne C 10 dX11_board_5 (by decide) (fun c3 => ?_) (fun c3 => ?_)
  · replace hf := z_iff c3 hf
    refine z_aload_n C dX11_board_10 rfl 0 rfl ?_
    refine cg_StillStars_sheets C uX11_board_11 (by decide +kernel) dX11_board_11 ?_
    refine z_iload_n C dX11_board_14 rfl 2 rfl ?_
    refine z_iload_n C dX11_board_15 rfl 3 rfl ?_
    refine z_iload C dX11_board_16 4 rfl ?_
    refine z_bipush C dX11_board_18 16 rfl ?_
    obtain ⟨q4, h5, hf⟩ := z_bind hf
    refine z_callVi C (rest := []) (tX8_refusal (ze_l E) (ze_D E) t a h5) gX11_board_X8_refusal rfl hdX8_refusal ⟨(Nat.le_of_ble_eq_true rfl), (Nat.le_of_ble_eq_true rfl)⟩ ⟨Nat.zero_le _, Nat.zero_le _⟩ 9 cw_at_9 rfl rfl rfl (Nat.le_of_ble_eq_true rfl) dX11_board_20 ?_
    refine z_istore C [(5, .int q4.1), (0, .ref (a 0)), (1, .int v1), (2, .int v2), (3, .int v3), (4, .int v4)] dX11_board_23 (by decide) rfl ?_
    refine z_iload C dX11_board_25 0 rfl ?_
    refine z_if_eq C 33 dX11_board_27 (by decide) (fun c6 => ?_) (fun c6 => ?_)
    · replace hf := z_ift c6 hf
      refine z_iload_n C dX11_board_33 rfl 4 rfl ?_
      refine z_if_eq C 59 dX11_board_34 (by decide) (fun c7 => ?_) (fun c7 => ?_)
      · replace hf := z_ift c7 hf
        exact z_sub [1, 2, 3, 5] rfl (kX11_board_59 E t a out C R _ _ _ _ hf)
      · replace hf := z_iff c7 hf
        refine z_aload_n C dX11_board_37 rfl 1 rfl ?_
        refine cg_StillStars_sheets C uX11_board_11 (by decide +kernel) dX11_board_38 ?_
        refine z_iload_n C dX11_board_41 rfl 3 rfl ?_
        refine z_iload C dX11_board_42 5 rfl ?_
        refine z_bipush C dX11_board_44 16 rfl ?_
        refine z_iconst C dX11_board_46 0 rfl ?_
        refine z_sipush C dX11_board_47 255 rfl ?_
        obtain ⟨q8, h9, hf⟩ := z_bind hf
        refine z_callVi C (rest := []) (tX8_allWithin (ze_l E) (ze_D E) t a h9) gX11_board_X8_allWithin rfl hdX8_allWithin ⟨(Nat.le_of_ble_eq_true rfl), (Nat.le_of_ble_eq_true rfl)⟩ ⟨Nat.zero_le _, Nat.zero_le _⟩ 9 cw_at_9 rfl rfl rfl (Nat.le_of_ble_eq_true rfl) dX11_board_50 ?_
        refine z_if_ne C 59 dX11_board_53 (by decide) (fun c10 => ?_) (fun c10 => ?_)
        · replace hf := z_iff c10 hf
          exact z_sub [1, 2, 3, 5] rfl (kX11_board_59 E t a out C R _ _ _ _ hf)
        · replace hf := z_ift c10 hf
          refine z_bipush C dX11_board_56 (-2) rfl ?_
          cases hf
          exact R _ _ dX11_board_58
    · replace hf := z_iff c6 hf
      refine z_iload C dX11_board_30 0 rfl ?_
      cases hf
      exact R _ _ dX11_board_32
  · replace hf := z_ift c3 hf
    refine z_iconst C dX11_board_8 (-1) rfl ?_
    cases hf
    exact R _ _ dX11_board_9
theorem uX11_set_11 : ∀ w ∈ wsX110, w ∈ wsX11_set := by decide +kernel
theorem hdX11_set : yX11_set.cls = RX11 ∧ yX11_set.cls ≠ "java/lang/invoke/MethodHandle" ∧ yX11_set.cls ≠ "java/lang/invoke/VarHandle" ∧ (parseMethodDescriptor yX11_set.desc).map (fun d => d.parameters.length) = some 2 := by decide +kernel
set_option maxHeartbeats 4000000 in
set_option maxRecDepth 100000 in
theorem tX11_set (l : Launch) (D : va_G) (t : zTy) (a : Nat → Nat) {v1 : Int32} {v2 : Int32} {x : ST} {out : Int32 × ST} (hf : fX11_set v1 v2 x = some out) : zMi l yX11_set wsX11_set 2 44 D t [.ref (a 0), .int v1, .int v2] (CW t a x) out.1 (CW t a out.2) := by
  refine z_entry_i (cc := cX11_set) (nL := 3) (by decide) rfl (Nat.le_of_ble_eq_true rfl) (fun E _ _ C R => ?_)
  refine z_sub (lv' := [(0, .ref (a 0)), (1, .int v1), (2, .int v2)]) [0, 1, 2] rfl ?_
  rw [fX11_set] at hf
  refine z_aload_n C dX11_set_0 rfl 0 rfl ?_
  refine cg_StillStars_settings C uX11_set_11 (by decide +kernel) dX11_set_1 ?_
  refine z_iload_n C dX11_set_4 rfl 1 rfl ?_
  refine z_iload_n C dX11_set_5 rfl 2 rfl ?_
  obtain ⟨q1, h2, hf⟩ := z_bind hf
  refine z_callVi C (rest := []) (tX7_takes (ze_l E) (ze_D E) t a h2) gX11_set_X7_takes rfl hdX7_takes ⟨(Nat.le_of_ble_eq_true rfl), (Nat.le_of_ble_eq_true rfl)⟩ ⟨Nat.zero_le _, Nat.zero_le _⟩ 8 cw_at_8 rfl rfl rfl (Nat.le_of_ble_eq_true rfl) dX11_set_6 ?_
  refine z_if_ne C 16 dX11_set_9 (by decide) (fun c3 => ?_) (fun c3 => ?_)
  · replace hf := z_iff c3 hf
    refine z_aload_n C dX11_set_16 rfl 0 rfl ?_
    refine cg_StillStars_settings C uX11_set_11 (by decide +kernel) dX11_set_17 ?_
    refine z_iload_n C dX11_set_20 rfl 1 rfl ?_
    refine z_iload_n C dX11_set_21 rfl 2 rfl ?_
    obtain ⟨q4, h5, hf⟩ := z_bind hf
    refine z_callVi C (rest := []) (tX7_swap (ze_l E) (ze_D E) t a h5) gX11_set_X7_swap rfl hdX7_swap ⟨(Nat.le_of_ble_eq_true rfl), (Nat.le_of_ble_eq_true rfl)⟩ ⟨Nat.zero_le _, Nat.zero_le _⟩ 8 cw_at_8 rfl rfl rfl (Nat.le_of_ble_eq_true rfl) dX11_set_22 ?_
    cases hf
    exact R _ _ dX11_set_25
  · replace hf := z_ift c3 hf
    refine z_sipush C dX11_set_12 (-10001) rfl ?_
    cases hf
    exact R _ _ dX11_set_15
theorem uX11_rest_11 : ∀ w ∈ wsX110, w ∈ wsX11_rest := by decide +kernel
theorem hdX11_rest : yX11_rest.cls = RX11 ∧ yX11_rest.cls ≠ "java/lang/invoke/MethodHandle" ∧ yX11_rest.cls ≠ "java/lang/invoke/VarHandle" ∧ (parseMethodDescriptor yX11_rest.desc).map (fun d => d.parameters.length) = some 2 := by decide +kernel
set_option maxHeartbeats 4000000 in
set_option maxRecDepth 100000 in
theorem tX11_rest (l : Launch) (D : va_G) (t : zTy) (a : Nat → Nat) {v1 : Int32} {v2 : Int32} {x : ST} {out : Int32 × ST} (hf : fX11_rest v1 v2 x = some out) : zMi l yX11_rest wsX11_rest 2 43 D t [.ref (a 0), .int v1, .int v2] (CW t a x) out.1 (CW t a out.2) := by
  refine z_entry_i (cc := cX11_rest) (nL := 3) (by decide) rfl (Nat.le_of_ble_eq_true rfl) (fun E _ _ C R => ?_)
  refine z_sub (lv' := [(0, .ref (a 0)), (1, .int v1), (2, .int v2)]) [0, 1, 2] rfl ?_
  rw [fX11_rest] at hf
  refine z_aload_n C dX11_rest_0 rfl 0 rfl ?_
  refine z_iload_n C dX11_rest_1 rfl 1 rfl ?_
  obtain ⟨q1, h2, hf⟩ := z_bind hf
  refine z_callVi C (rest := []) (tX11_isSpot (ze_l E) (ze_D E) t a h2) gX11_rest_X11_isSpot rfl hdX11_isSpot ⟨(Nat.le_of_ble_eq_true rfl), (Nat.le_of_ble_eq_true rfl)⟩ ⟨Nat.zero_le _, Nat.zero_le _⟩ 0 cw_at_0 rfl rfl rfl (Nat.le_of_ble_eq_true rfl) dX11_rest_2 ?_
  refine z_if_eq C 19 dX11_rest_5 (by decide) (fun c3 => ?_) (fun c3 => ?_)
  · replace hf := z_ift c3 hf
    refine z_iconst C dX11_rest_19 (-1) rfl ?_
    cases hf
    exact R _ _ dX11_rest_20
  · replace hf := z_iff c3 hf
    refine z_iload_n C dX11_rest_8 rfl 2 rfl ?_
    refine z_iconst C dX11_rest_9 0 rfl ?_
    refine z_sipush C dX11_rest_10 3000 rfl ?_
    obtain ⟨q4, h5, hf⟩ := z_bind hf
    refine z_callSi C (rest := []) (tX11_within (ze_l E) (ze_D E) t _ h5) gX11_rest_X11_within rfl hdX11_within ⟨(Nat.le_of_ble_eq_true rfl), (Nat.le_of_ble_eq_true rfl)⟩ ⟨Nat.zero_le _, Nat.zero_le _⟩ rfl rfl (Nat.le_of_ble_eq_true rfl) dX11_rest_13 ?_
    refine z_if_ne C 21 dX11_rest_16 (by decide) (fun c6 => ?_) (fun c6 => ?_)
    · replace hf := z_iff c6 hf
      refine z_aload_n C dX11_rest_21 rfl 0 rfl ?_
      refine cg_StillStars_spots C uX11_rest_11 (by decide +kernel) dX11_rest_22 ?_
      refine z_iload_n C dX11_rest_25 rfl 1 rfl ?_
      refine z_iload_n C dX11_rest_26 rfl 2 rfl ?_
      obtain ⟨q7, h8, hf⟩ := z_bind hf
      refine z_callVi C (rest := []) (tX9_swapRest (ze_l E) (ze_D E) t a h8) gX11_rest_X9_swapRest rfl hdX9_swapRest ⟨(Nat.le_of_ble_eq_true rfl), (Nat.le_of_ble_eq_true rfl)⟩ ⟨Nat.zero_le _, Nat.zero_le _⟩ 10 cw_at_10 rfl rfl rfl (Nat.le_of_ble_eq_true rfl) dX11_rest_27 ?_
      cases hf
      exact R _ _ dX11_rest_30
    · replace hf := z_ift c6 hf
      refine z_iconst C dX11_rest_19 (-1) rfl ?_
      cases hf
      exact R _ _ dX11_rest_20
theorem uX11_spot_11 : ∀ w ∈ wsX110, w ∈ wsX11_spot := by decide +kernel
theorem hdX11_spot : yX11_spot.cls = RX11 ∧ yX11_spot.cls ≠ "java/lang/invoke/MethodHandle" ∧ yX11_spot.cls ≠ "java/lang/invoke/VarHandle" ∧ (parseMethodDescriptor yX11_spot.desc).map (fun d => d.parameters.length) = some 2 := by decide +kernel
set_option maxHeartbeats 4000000 in
set_option maxRecDepth 100000 in
theorem tX11_spot (l : Launch) (D : va_G) (t : zTy) (a : Nat → Nat) {v1 : Int32} {v2 : Int32} {x : ST} {out : Int32 × ST} (hf : fX11_spot v1 v2 x = some out) : zMi l yX11_spot wsX11_spot 3 70 D t [.ref (a 0), .int v1, .int v2] (CW t a x) out.1 (CW t a out.2) := by
  refine z_entry_i (cc := cX11_spot) (nL := 4) (by decide) rfl (Nat.le_of_ble_eq_true rfl) (fun E _ _ C R => ?_)
  refine z_sub (lv' := [(0, .ref (a 0)), (1, .int v1), (2, .int v2)]) [0, 1, 2] rfl ?_
  rw [fX11_spot] at hf
  refine z_aload_n C dX11_spot_0 rfl 0 rfl ?_
  refine z_iload_n C dX11_spot_1 rfl 1 rfl ?_
  obtain ⟨q1, h2, hf⟩ := z_bind hf
  refine z_callVi C (rest := []) (tX11_isSpot (ze_l E) (ze_D E) t a h2) gX11_spot_X11_isSpot rfl hdX11_isSpot ⟨(Nat.le_of_ble_eq_true rfl), (Nat.le_of_ble_eq_true rfl)⟩ ⟨Nat.zero_le _, Nat.zero_le _⟩ 0 cw_at_0 rfl rfl rfl (Nat.le_of_ble_eq_true rfl) dX11_spot_2 ?_
  refine z_if_eq C 17 dX11_spot_5 (by decide) (fun c3 => ?_) (fun c3 => ?_)
  · replace hf := z_ift c3 hf
    refine z_sipush C dX11_spot_17 (-10001) rfl ?_
    cases hf
    exact R _ _ dX11_spot_20
  · replace hf := z_iff c3 hf
    refine z_iload_n C dX11_spot_8 rfl 2 rfl ?_
    refine z_iconst C dX11_spot_9 0 rfl ?_
    refine z_iconst C dX11_spot_10 3 rfl ?_
    obtain ⟨q4, h5, hf⟩ := z_bind hf
    refine z_callSi C (rest := []) (tX11_within (ze_l E) (ze_D E) t _ h5) gX11_spot_X11_within rfl hdX11_within ⟨(Nat.le_of_ble_eq_true rfl), (Nat.le_of_ble_eq_true rfl)⟩ ⟨Nat.zero_le _, Nat.zero_le _⟩ rfl rfl (Nat.le_of_ble_eq_true rfl) dX11_spot_11 ?_
    refine z_if_ne C 21 dX11_spot_14 (by decide) (fun c6 => ?_) (fun c6 => ?_)
    · replace hf := z_iff c6 hf
      refine z_aload_n C dX11_spot_21 rfl 0 rfl ?_
      refine cg_StillStars_spots C uX11_spot_11 (by decide +kernel) dX11_spot_22 ?_
      refine z_aload_n C dX11_spot_25 rfl 0 rfl ?_
      refine cg_StillStars_settings C uX11_spot_11 (by decide +kernel) dX11_spot_26 ?_
      refine z_iconst C dX11_spot_29 0 rfl ?_
      obtain ⟨q7, h8, hf⟩ := z_bind hf
      refine z_callVi C (rest := [.ref (a 10)]) (tX7_get (ze_l E) (ze_D E) t a h8) gX11_spot_X7_get rfl hdX7_get ⟨(Nat.le_of_ble_eq_true rfl), (Nat.le_of_ble_eq_true rfl)⟩ ⟨Nat.zero_le _, Nat.zero_le _⟩ 8 cw_at_8 rfl rfl rfl (Nat.le_of_ble_eq_true rfl) dX11_spot_30 ?_
      refine z_aload_n C dX11_spot_33 rfl 0 rfl ?_
      refine cg_StillStars_settings C uX11_spot_11 (by decide +kernel) dX11_spot_34 ?_
      refine z_iconst C dX11_spot_37 1 rfl ?_
      obtain ⟨q9, h10, hf⟩ := z_bind hf
      refine z_callVi C (rest := [.int q7.1, .ref (a 10)]) (tX7_get (ze_l E) (ze_D E) t a h10) gX11_spot_X7_get rfl hdX7_get ⟨(Nat.le_of_ble_eq_true rfl), (Nat.le_of_ble_eq_true rfl)⟩ ⟨Nat.zero_le _, Nat.zero_le _⟩ 8 cw_at_8 rfl rfl rfl (Nat.le_of_ble_eq_true rfl) dX11_spot_38 ?_
      obtain ⟨q11, h12, hf⟩ := z_bind hf
      refine z_callVv C (rest := []) (tX9_measure (ze_l E) (ze_D E) t a h12) gX11_spot_X9_measure rfl hdX9_measure ⟨(Nat.le_of_ble_eq_true rfl), (Nat.le_of_ble_eq_true rfl)⟩ ⟨Nat.zero_le _, Nat.zero_le _⟩ 10 cw_at_10 rfl rfl rfl (Nat.le_of_ble_eq_true rfl) dX11_spot_41 ?_
      refine z_aload_n C dX11_spot_44 rfl 0 rfl ?_
      refine cg_StillStars_spots C uX11_spot_11 (by decide +kernel) dX11_spot_45 ?_
      refine z_iload_n C dX11_spot_48 rfl 1 rfl ?_
      obtain ⟨q13, h14, hf⟩ := z_bind hf
      refine z_callVi C (rest := []) (tX9_isLost (ze_l E) (ze_D E) t a h14) gX11_spot_X9_isLost rfl hdX9_isLost ⟨(Nat.le_of_ble_eq_true rfl), (Nat.le_of_ble_eq_true rfl)⟩ ⟨Nat.zero_le _, Nat.zero_le _⟩ 10 cw_at_10 rfl rfl rfl (Nat.le_of_ble_eq_true rfl) dX11_spot_49 ?_
      refine z_istore_n C [(3, .int q13.1), (0, .ref (a 0)), (1, .int v1), (2, .int v2)] dX11_spot_52 rfl (by decide) rfl ?_
      refine z_iload_n C dX11_spot_53 rfl 3 rfl ?_
      by_cases c15 : v2 = 0
      · replace hf := z_ift c15 hf
        refine z_swIn C 0 80 dX11_spot_54 c15 (by decide) (by decide) rfl (by decide) ?_
        refine z_aload_n C dX11_spot_80 rfl 1 rfl ?_
        refine cg_StillStars_spots C uX11_spot_11 (by decide +kernel) dX11_spot_81 ?_
        refine z_iload_n C dX11_spot_84 rfl 2 rfl ?_
        obtain ⟨q16, h17, hf⟩ := z_bind hf
        refine z_callVi C (rest := []) (tX9_lightOf (ze_l E) (ze_D E) t a h17) gX11_spot_X9_lightOf rfl hdX9_lightOf ⟨(Nat.le_of_ble_eq_true rfl), (Nat.le_of_ble_eq_true rfl)⟩ ⟨Nat.zero_le _, Nat.zero_le _⟩ 10 cw_at_10 rfl rfl rfl (Nat.le_of_ble_eq_true rfl) dX11_spot_85 ?_
        cases hf
        exact R _ _ dX11_spot_88
      replace hf := z_iff c15 hf
      by_cases c18 : v2 = 1
      · replace hf := z_ift c18 hf
        refine z_swIn C 1 89 dX11_spot_54 c18 (by decide) (by decide) rfl (by decide) ?_
        refine z_iload_n C dX11_spot_89 rfl 0 rfl ?_
        refine z_if_eq C 97 dX11_spot_90 (by decide) (fun c19 => ?_) (fun c19 => ?_)
        · replace hf := z_ift c19 hf
          refine z_iconst C dX11_spot_97 0 rfl ?_
          cases hf
          exact R _ _ dX11_spot_98
        · replace hf := z_iff c19 hf
          refine z_iconst C dX11_spot_93 1 rfl ?_
          refine z_goto C 98 dX11_spot_94 (by decide) ?_
          cases hf
          exact R _ _ dX11_spot_98
      replace hf := z_iff c18 hf
      by_cases c20 : v2 = 2
      · replace hf := z_ift c20 hf
        refine z_swIn C 2 99 dX11_spot_54 c20 (by decide) (by decide) rfl (by decide) ?_
        refine z_iload_n C dX11_spot_99 rfl 0 rfl ?_
        refine z_if_eq C 108 dX11_spot_100 (by decide) (fun c21 => ?_) (fun c21 => ?_)
        · replace hf := z_ift c21 hf
          refine z_aload_n C dX11_spot_108 rfl 1 rfl ?_
          refine cg_StillStars_spots C uX11_spot_11 (by decide +kernel) dX11_spot_109 ?_
          refine z_iload_n C dX11_spot_112 rfl 2 rfl ?_
          obtain ⟨q22, h23, hf⟩ := z_bind hf
          refine z_callVi C (rest := []) (tX9_middleOf (ze_l E) (ze_D E) t a h23) gX11_spot_X9_middleOf rfl hdX9_middleOf ⟨(Nat.le_of_ble_eq_true rfl), (Nat.le_of_ble_eq_true rfl)⟩ ⟨Nat.zero_le _, Nat.zero_le _⟩ 10 cw_at_10 rfl rfl rfl (Nat.le_of_ble_eq_true rfl) dX11_spot_113 ?_
          cases hf
          exact R _ _ dX11_spot_116
        · replace hf := z_iff c21 hf
          refine z_bipush C dX11_spot_103 (-4) rfl ?_
          refine z_goto C 116 dX11_spot_105 (by decide) ?_
          cases hf
          exact R _ _ dX11_spot_116
      replace hf := z_iff c20 hf
      refine z_swOut C 117 dX11_spot_54 (fun k h1 h2 => by rcases (show k = 0 ∨ k = 1 ∨ k = 2 by omega) with rfl | rfl | rfl <;> assumption) (by decide) ?_
      refine z_iload_n C dX11_spot_117 rfl 0 rfl ?_
      refine z_if_eq C 127 dX11_spot_118 (by decide) (fun c24 => ?_) (fun c24 => ?_)
      · replace hf := z_ift c24 hf
        refine z_aload_n C dX11_spot_127 rfl 1 rfl ?_
        refine cg_StillStars_spots C uX11_spot_11 (by decide +kernel) dX11_spot_128 ?_
        refine z_iload_n C dX11_spot_131 rfl 2 rfl ?_
        obtain ⟨q25, h26, hf⟩ := z_bind hf
        refine z_callVi C (rest := []) (tX9_slopeOf (ze_l E) (ze_D E) t a h26) gX11_spot_X9_slopeOf rfl hdX9_slopeOf ⟨(Nat.le_of_ble_eq_true rfl), (Nat.le_of_ble_eq_true rfl)⟩ ⟨Nat.zero_le _, Nat.zero_le _⟩ 10 cw_at_10 rfl rfl rfl (Nat.le_of_ble_eq_true rfl) dX11_spot_132 ?_
        cases hf
        exact R _ _ dX11_spot_135
      · replace hf := z_iff c24 hf
        refine z_sipush C dX11_spot_121 (-10002) rfl ?_
        refine z_goto C 135 dX11_spot_124 (by decide) ?_
        cases hf
        exact R _ _ dX11_spot_135
    · replace hf := z_ift c6 hf
      refine z_sipush C dX11_spot_17 (-10001) rfl ?_
      cases hf
      exact R _ _ dX11_spot_20
theorem uX11_isPart_11 : ∀ w ∈ wsX110, w ∈ wsX11_isPart := by decide +kernel
theorem hdX11_isPart : yX11_isPart.cls = RX11 ∧ yX11_isPart.cls ≠ "java/lang/invoke/MethodHandle" ∧ yX11_isPart.cls ≠ "java/lang/invoke/VarHandle" ∧ (parseMethodDescriptor yX11_isPart.desc).map (fun d => d.parameters.length) = some 1 := by decide +kernel
set_option maxHeartbeats 4000000 in
set_option maxRecDepth 100000 in
theorem tX11_isPart (l : Launch) (D : va_G) (t : zTy) (a : Nat → Nat) {v1 : Int32} {x : ST} {out : Int32 × ST} (hf : fX11_isPart v1 x = some out) : zMi l yX11_isPart wsX11_isPart 1 22 D t [.ref (a 0), .int v1] (CW t a x) out.1 (CW t a out.2) := by
  refine z_entry_z (cc := cX11_isPart) (nL := 2) (by decide) rfl (Nat.le_of_ble_eq_true rfl) (fun E _ _ C R => ?_)
  refine z_sub (lv' := [(0, .ref (a 0)), (1, .int v1)]) [0, 1] rfl ?_
  rw [fX11_isPart] at hf
  refine z_iload_n C dX11_isPart_0 rfl 1 rfl ?_
  refine z_iconst C dX11_isPart_1 0 rfl ?_
  refine z_aload_n C dX11_isPart_2 rfl 0 rfl ?_
  refine cg_StillStars_parts C uX11_isPart_11 (by decide +kernel) dX11_isPart_3 ?_
  obtain ⟨q1, h2, hf⟩ := z_bind hf
  refine z_callVi C (rest := [.int 0, .int v1]) (tX6_count (ze_l E) (ze_D E) t a h2) gX11_isPart_X6_count rfl hdX6_count ⟨(Nat.le_of_ble_eq_true rfl), (Nat.le_of_ble_eq_true rfl)⟩ ⟨Nat.zero_le _, Nat.zero_le _⟩ 7 cw_at_7 rfl rfl rfl (Nat.le_of_ble_eq_true rfl) dX11_isPart_6 ?_
  refine z_iconst C dX11_isPart_9 1 rfl ?_
  refine z_isub C dX11_isPart_10 ?_
  obtain ⟨q3, h4, hf⟩ := z_bind hf
  refine z_callSi C (rest := []) (tX11_within (ze_l E) (ze_D E) t _ h4) gX11_isPart_X11_within rfl hdX11_within ⟨(Nat.le_of_ble_eq_true rfl), (Nat.le_of_ble_eq_true rfl)⟩ ⟨Nat.zero_le _, Nat.zero_le _⟩ rfl rfl (Nat.le_of_ble_eq_true rfl) dX11_isPart_11 ?_
  obtain ⟨h5, hf⟩ := z_some hf
  cases hf
  exact R _ _ dX11_isPart_14 h5
theorem uX11_table_11 : ∀ w ∈ wsX110, w ∈ wsX11_table := by decide +kernel
theorem hdX11_table : yX11_table.cls = RX11 ∧ yX11_table.cls ≠ "java/lang/invoke/MethodHandle" ∧ yX11_table.cls ≠ "java/lang/invoke/VarHandle" ∧ (parseMethodDescriptor yX11_table.desc).map (fun d => d.parameters.length) = some 3 := by decide +kernel
set_option maxHeartbeats 4000000 in
set_option maxRecDepth 100000 in
theorem tX11_table (l : Launch) (D : va_G) (t : zTy) (a : Nat → Nat) {v1 : Int32} {v2 : Int32} {v3 : Int32} {x : ST} {out : Int32 × ST} (hf : fX11_table v1 v2 v3 x = some out) : zMi l yX11_table wsX11_table 2 43 D t [.ref (a 0), .int v1, .int v2, .int v3] (CW t a x) out.1 (CW t a out.2) := by
  refine z_entry_i (cc := cX11_table) (nL := 4) (by decide) rfl (Nat.le_of_ble_eq_true rfl) (fun E _ _ C R => ?_)
  refine z_sub (lv' := [(0, .ref (a 0)), (1, .int v1), (2, .int v2), (3, .int v3)]) [0, 1, 2, 3] rfl ?_
  rw [fX11_table] at hf
  refine z_aload_n C dX11_table_0 rfl 0 rfl ?_
  refine z_iload_n C dX11_table_1 rfl 1 rfl ?_
  obtain ⟨q1, h2, hf⟩ := z_bind hf
  refine z_callVi C (rest := []) (tX11_isSpot (ze_l E) (ze_D E) t a h2) gX11_table_X11_isSpot rfl hdX11_isSpot ⟨(Nat.le_of_ble_eq_true rfl), (Nat.le_of_ble_eq_true rfl)⟩ ⟨Nat.zero_le _, Nat.zero_le _⟩ 0 cw_at_0 rfl rfl rfl (Nat.le_of_ble_eq_true rfl) dX11_table_2 ?_
  refine z_if_eq C 27 dX11_table_5 (by decide) (fun c3 => ?_) (fun c3 => ?_)
  · replace hf := z_ift c3 hf
    refine z_sipush C dX11_table_27 (-10001) rfl ?_
    cases hf
    exact R _ _ dX11_table_30
  · replace hf := z_iff c3 hf
    refine z_aload_n C dX11_table_8 rfl 0 rfl ?_
    refine z_iload_n C dX11_table_9 rfl 2 rfl ?_
    obtain ⟨q4, h5, hf⟩ := z_bind hf
    refine z_callVi C (rest := []) (tX11_isPart (ze_l E) (ze_D E) t a h5) gX11_table_X11_isPart rfl hdX11_isPart ⟨(Nat.le_of_ble_eq_true rfl), (Nat.le_of_ble_eq_true rfl)⟩ ⟨Nat.zero_le _, Nat.zero_le _⟩ 0 cw_at_0 rfl rfl rfl (Nat.le_of_ble_eq_true rfl) dX11_table_10 ?_
    refine z_if_eq C 27 dX11_table_13 (by decide) (fun c6 => ?_) (fun c6 => ?_)
    · replace hf := z_ift c6 hf
      refine z_sipush C dX11_table_27 (-10001) rfl ?_
      cases hf
      exact R _ _ dX11_table_30
    · replace hf := z_iff c6 hf
      refine z_iload_n C dX11_table_16 rfl 3 rfl ?_
      refine z_bipush C dX11_table_17 (-9) rfl ?_
      refine z_bipush C dX11_table_19 9 rfl ?_
      obtain ⟨q7, h8, hf⟩ := z_bind hf
      refine z_callSi C (rest := []) (tX11_within (ze_l E) (ze_D E) t _ h8) gX11_table_X11_within rfl hdX11_within ⟨(Nat.le_of_ble_eq_true rfl), (Nat.le_of_ble_eq_true rfl)⟩ ⟨Nat.zero_le _, Nat.zero_le _⟩ rfl rfl (Nat.le_of_ble_eq_true rfl) dX11_table_21 ?_
      refine z_if_ne C 31 dX11_table_24 (by decide) (fun c9 => ?_) (fun c9 => ?_)
      · replace hf := z_iff c9 hf
        refine z_aload_n C dX11_table_31 rfl 0 rfl ?_
        refine cg_StillStars_table C uX11_table_11 (by decide +kernel) dX11_table_32 ?_
        refine z_iload_n C dX11_table_35 rfl 1 rfl ?_
        refine z_iload_n C dX11_table_36 rfl 2 rfl ?_
        refine z_iload_n C dX11_table_37 rfl 3 rfl ?_
        obtain ⟨q10, h11, hf⟩ := z_bind hf
        refine z_callVi C (rest := []) (tX10_swap (ze_l E) (ze_D E) t a h11) gX11_table_X10_swap rfl hdX10_swap ⟨(Nat.le_of_ble_eq_true rfl), (Nat.le_of_ble_eq_true rfl)⟩ ⟨Nat.zero_le _, Nat.zero_le _⟩ 11 cw_at_11 rfl rfl rfl (Nat.le_of_ble_eq_true rfl) dX11_table_38 ?_
        cases hf
        exact R _ _ dX11_table_41
      · replace hf := z_ift c9 hf
        refine z_sipush C dX11_table_27 (-10001) rfl ?_
        cases hf
        exact R _ _ dX11_table_30
theorem uX11_poke_11 : ∀ w ∈ wsX110, w ∈ wsX11_poke := by decide +kernel
set_option maxHeartbeats 4000000 in
set_option maxRecDepth 100000 in
theorem kX11_poke_148 (E : zE) (t : zTy) (a : Nat → Nat) (out : Int32 × ST) (C : zC E cX11_poke 8 RX11 wsX11_poke (zrm 3 66) t) (R : zRi E cX11_poke 8 out.1 (CW t a out.2)) : ∀ (v1 : Int32) (x : ST), fX11_poke_148 v1 x = some out → zG E 8 0 0 (CW t a x) 148 [(0, .ref (a 0)), (1, .int v1)] [] := by
  intro v1 x hf
  rw [fX11_poke_148] at hf
  refine z_aload_n C dX11_poke_148 rfl 0 rfl ?_
  refine cg_StillStars_table C uX11_poke_11 (by decide +kernel) dX11_poke_149 ?_
  refine z_iload_n C dX11_poke_152 rfl 1 rfl ?_
  obtain ⟨q29, h30, hf⟩ := z_bind hf
  refine z_callVi C (rest := []) (tX10_pokesOf (ze_l E) (ze_D E) t a h30) gX11_poke_X10_pokesOf rfl hdX10_pokesOf ⟨(Nat.le_of_ble_eq_true rfl), (Nat.le_of_ble_eq_true rfl)⟩ ⟨Nat.zero_le _, Nat.zero_le _⟩ 11 cw_at_11 rfl rfl rfl (Nat.le_of_ble_eq_true rfl) dX11_poke_153 ?_
  cases hf
  exact R _ _ dX11_poke_156
set_option maxHeartbeats 4000000 in
set_option maxRecDepth 100000 in
theorem kX11_poke_106 (E : zE) (t : zTy) (a : Nat → Nat) (out : Int32 × ST) (C : zC E cX11_poke 8 RX11 wsX11_poke (zrm 3 66) t) (R : zRi E cX11_poke 8 out.1 (CW t a out.2)) : ∀ (n : Nat) (v1 : Int32) (v2 : Int32) (v3 : Int32) (v5 : Int32) (v7 : Int32) (x : ST), fX11_poke_106 n v1 v2 v3 v5 v7 x = some out → zG E 8 0 0 (CW t a x) 106 [(0, .ref (a 0)), (1, .int v1), (2, .int v2), (3, .int v3), (5, .int v5), (7, .int v7)] [] := by
  intro n
  induction n with
  | zero =>
    intro v1 v2 v3 v5 v7 x hf
    cases hf
  | succ n ih =>
    intro v1 v2 v3 v5 v7 x hf
    rw [fX11_poke_106] at hf
    refine z_iload C dX11_poke_106 5 rfl ?_
    refine z_aload_n C dX11_poke_108 rfl 0 rfl ?_
    refine cg_StillStars_spots C uX11_poke_11 (by decide +kernel) dX11_poke_109 ?_
    obtain ⟨q22, h23, hf⟩ := z_bind hf
    refine z_callVi C (rest := [.int v7]) (tX9_count (ze_l E) (ze_D E) t a h23) gX11_poke_X9_count rfl hdX9_count ⟨(Nat.le_of_ble_eq_true rfl), (Nat.le_of_ble_eq_true rfl)⟩ ⟨Nat.zero_le _, Nat.zero_le _⟩ 10 cw_at_10 rfl rfl rfl (Nat.le_of_ble_eq_true rfl) dX11_poke_112 ?_
    refine z_icmp_ge C 148 dX11_poke_115 (by decide) (fun c24 => ?_) (fun c24 => ?_)
    · replace hf := z_ift c24 hf
      exact z_sub [0, 1] rfl (kX11_poke_148 E t a out C R _ _ hf)
    · replace hf := z_iff c24 hf
      refine z_aload_n C dX11_poke_118 rfl 0 rfl ?_
      refine cg_StillStars_table C uX11_poke_11 (by decide +kernel) dX11_poke_119 ?_
      refine z_iload C dX11_poke_122 5 rfl ?_
      refine z_iload_n C dX11_poke_124 rfl 1 rfl ?_
      refine z_iload_n C dX11_poke_125 rfl 2 rfl ?_
      refine z_aload_n C dX11_poke_126 rfl 0 rfl ?_
      refine cg_StillStars_sheets C uX11_poke_11 (by decide +kernel) dX11_poke_127 ?_
      refine z_iload_n C dX11_poke_130 rfl 3 rfl ?_
      refine z_iload C dX11_poke_131 4 rfl ?_
      refine z_iload C dX11_poke_133 5 rfl ?_
      refine z_iadd C dX11_poke_135 ?_
      obtain ⟨q25, h26, hf⟩ := z_bind hf
      refine z_callVi C (rest := [.int v2, .int v1, .int v7, .ref (a 11)]) (tX8_at (ze_l E) (ze_D E) t a h26) gX11_poke_X8_at rfl hdX8_at ⟨(Nat.le_of_ble_eq_true rfl), (Nat.le_of_ble_eq_true rfl)⟩ ⟨Nat.zero_le _, Nat.zero_le _⟩ 9 cw_at_9 rfl rfl rfl (Nat.le_of_ble_eq_true rfl) dX11_poke_136 ?_
      obtain ⟨q27, h28, hf⟩ := z_bind hf
      refine z_callVv C (rest := []) (tX10_add (ze_l E) (ze_D E) t a h28) gX11_poke_X10_add rfl hdX10_add ⟨(Nat.le_of_ble_eq_true rfl), (Nat.le_of_ble_eq_true rfl)⟩ ⟨Nat.zero_le _, Nat.zero_le _⟩ 11 cw_at_11 rfl rfl rfl (Nat.le_of_ble_eq_true rfl) dX11_poke_139 ?_
      refine z_iinc C (v7 + 1) [(7, .int (v7 + 1)), (0, .ref (a 0)), (1, .int v1), (2, .int v2), (3, .int v3), (5, .int v5)] dX11_poke_142 5 rfl rfl (by decide) rfl ?_
      refine z_goto C 106 dX11_poke_145 (by decide) ?_
      exact z_sub [1, 2, 3, 4, 5, 0] rfl (ih _ _ _ _ _ _ hf)
theorem hdX11_poke : yX11_poke.cls = RX11 ∧ yX11_poke.cls ≠ "java/lang/invoke/MethodHandle" ∧ yX11_poke.cls ≠ "java/lang/invoke/VarHandle" ∧ (parseMethodDescriptor yX11_poke.desc).map (fun d => d.parameters.length) = some 5 := by decide +kernel
set_option maxHeartbeats 4000000 in
set_option maxRecDepth 100000 in
theorem tX11_poke (l : Launch) (D : va_G) (t : zTy) (a : Nat → Nat) {v1 : Int32} {v2 : Int32} {v3 : Int32} {v4 : Int32} {v5 : Int32} {x : ST} {out : Int32 × ST} (hf : fX11_poke v1 v2 v3 v4 v5 x = some out) : zMi l yX11_poke wsX11_poke 3 66 D t [.ref (a 0), .int v1, .int v2, .int v3, .int v4, .int v5] (CW t a x) out.1 (CW t a out.2) := by
  refine z_entry_i (cc := cX11_poke) (nL := 8) (by decide) rfl (Nat.le_of_ble_eq_true rfl) (fun E _ _ C R => ?_)
  refine z_sub (lv' := [(0, .ref (a 0)), (1, .int v1), (2, .int v2), (3, .int v3), (4, .int v4), (5, .int v5)]) [0, 1, 2, 3, 4, 5] rfl ?_
  rw [fX11_poke] at hf
  refine z_aload_n C dX11_poke_0 rfl 0 rfl ?_
  refine z_iload_n C dX11_poke_1 rfl 1 rfl ?_
  obtain ⟨q1, h2, hf⟩ := z_bind hf
  refine z_callVi C (rest := []) (tX11_isPart (ze_l E) (ze_D E) t a h2) gX11_poke_X11_isPart rfl hdX11_isPart ⟨(Nat.le_of_ble_eq_true rfl), (Nat.le_of_ble_eq_true rfl)⟩ ⟨Nat.zero_le _, Nat.zero_le _⟩ 0 cw_at_0 rfl rfl rfl (Nat.le_of_ble_eq_true rfl) dX11_poke_2 ?_
  refine z_if_eq C 18 dX11_poke_5 (by decide) (fun c3 => ?_) (fun c3 => ?_)
  · replace hf := z_ift c3 hf
    refine z_iconst C dX11_poke_18 (-1) rfl ?_
    cases hf
    exact R _ _ dX11_poke_19
  · replace hf := z_iff c3 hf
    refine z_iload_n C dX11_poke_8 rfl 2 rfl ?_
    refine z_iconst C dX11_poke_9 1 rfl ?_
    refine z_bipush C dX11_poke_10 99 rfl ?_
    obtain ⟨q4, h5, hf⟩ := z_bind hf
    refine z_callSi C (rest := []) (tX11_within (ze_l E) (ze_D E) t _ h5) gX11_poke_X11_within rfl hdX11_within ⟨(Nat.le_of_ble_eq_true rfl), (Nat.le_of_ble_eq_true rfl)⟩ ⟨Nat.zero_le _, Nat.zero_le _⟩ rfl rfl (Nat.le_of_ble_eq_true rfl) dX11_poke_12 ?_
    refine z_if_ne C 20 dX11_poke_15 (by decide) (fun c6 => ?_) (fun c6 => ?_)
    · replace hf := z_iff c6 hf
      refine z_aload_n C dX11_poke_20 rfl 0 rfl ?_
      refine cg_StillStars_sheets C uX11_poke_11 (by decide +kernel) dX11_poke_21 ?_
      refine z_iload_n C dX11_poke_24 rfl 3 rfl ?_
      refine z_iload C dX11_poke_25 4 rfl ?_
      refine z_iload C dX11_poke_27 5 rfl ?_
      refine z_aload_n C dX11_poke_29 rfl 0 rfl ?_
      refine cg_StillStars_spots C uX11_poke_11 (by decide +kernel) dX11_poke_30 ?_
      obtain ⟨q7, h8, hf⟩ := z_bind hf
      refine z_callVi C (rest := [.int v5, .int v4, .int v3, .ref (a 9)]) (tX9_count (ze_l E) (ze_D E) t a h8) gX11_poke_X9_count rfl hdX9_count ⟨(Nat.le_of_ble_eq_true rfl), (Nat.le_of_ble_eq_true rfl)⟩ ⟨Nat.zero_le _, Nat.zero_le _⟩ 10 cw_at_10 rfl rfl rfl (Nat.le_of_ble_eq_true rfl) dX11_poke_33 ?_
      obtain ⟨q9, h10, hf⟩ := z_bind hf
      refine z_callVi C (rest := []) (tX8_refusal (ze_l E) (ze_D E) t a h10) gX11_poke_X8_refusal rfl hdX8_refusal ⟨(Nat.le_of_ble_eq_true rfl), (Nat.le_of_ble_eq_true rfl)⟩ ⟨Nat.zero_le _, Nat.zero_le _⟩ 9 cw_at_9 rfl rfl rfl (Nat.le_of_ble_eq_true rfl) dX11_poke_36 ?_
      refine z_istore C [(6, .int q9.1), (0, .ref (a 0)), (1, .int v1), (2, .int v2), (3, .int v3), (4, .int v4), (5, .int v5)] dX11_poke_39 (by decide) rfl ?_
      refine z_iload C dX11_poke_41 0 rfl ?_
      refine z_if_eq C 49 dX11_poke_43 (by decide) (fun c11 => ?_) (fun c11 => ?_)
      · replace hf := z_ift c11 hf
        refine z_aload_n C dX11_poke_49 rfl 1 rfl ?_
        refine cg_StillStars_sheets C uX11_poke_11 (by decide +kernel) dX11_poke_50 ?_
        refine z_iload_n C dX11_poke_53 rfl 4 rfl ?_
        refine z_iload C dX11_poke_54 6 rfl ?_
        refine z_aload_n C dX11_poke_56 rfl 1 rfl ?_
        refine cg_StillStars_spots C uX11_poke_11 (by decide +kernel) dX11_poke_57 ?_
        obtain ⟨q12, h13, hf⟩ := z_bind hf
        refine z_callVi C (rest := [.int v5, .int v3, .ref (a 9)]) (tX9_count (ze_l E) (ze_D E) t a h13) gX11_poke_X9_count rfl hdX9_count ⟨(Nat.le_of_ble_eq_true rfl), (Nat.le_of_ble_eq_true rfl)⟩ ⟨Nat.zero_le _, Nat.zero_le _⟩ 10 cw_at_10 rfl rfl rfl (Nat.le_of_ble_eq_true rfl) dX11_poke_60 ?_
        refine z_sipush C dX11_poke_63 (-999) rfl ?_
        refine z_sipush C dX11_poke_66 999 rfl ?_
        obtain ⟨q14, h15, hf⟩ := z_bind hf
        refine z_callVi C (rest := []) (tX8_allWithin (ze_l E) (ze_D E) t a h15) gX11_poke_X8_allWithin rfl hdX8_allWithin ⟨(Nat.le_of_ble_eq_true rfl), (Nat.le_of_ble_eq_true rfl)⟩ ⟨Nat.zero_le _, Nat.zero_le _⟩ 9 cw_at_9 rfl rfl rfl (Nat.le_of_ble_eq_true rfl) dX11_poke_69 ?_
        refine z_if_ne C 78 dX11_poke_72 (by decide) (fun c16 => ?_) (fun c16 => ?_)
        · replace hf := z_iff c16 hf
          refine z_aload_n C dX11_poke_78 rfl 1 rfl ?_
          refine cg_StillStars_table C uX11_poke_11 (by decide +kernel) dX11_poke_79 ?_
          refine z_iload_n C dX11_poke_82 rfl 2 rfl ?_
          obtain ⟨q17, h18, hf⟩ := z_bind hf
          refine z_callVi C (rest := []) (tX10_pokesOf (ze_l E) (ze_D E) t a h18) gX11_poke_X10_pokesOf rfl hdX10_pokesOf ⟨(Nat.le_of_ble_eq_true rfl), (Nat.le_of_ble_eq_true rfl)⟩ ⟨Nat.zero_le _, Nat.zero_le _⟩ 11 cw_at_11 rfl rfl rfl (Nat.le_of_ble_eq_true rfl) dX11_poke_83 ?_
          refine z_bipush C dX11_poke_86 9 rfl ?_
          refine z_icmp_lt C 94 dX11_poke_88 (by decide) (fun c19 => ?_) (fun c19 => ?_)
          · replace hf := z_ift c19 hf
            refine z_aload_n C dX11_poke_94 rfl 1 rfl ?_
            refine cg_StillStars_table C uX11_poke_11 (by decide +kernel) dX11_poke_95 ?_
            refine z_iload_n C dX11_poke_98 rfl 2 rfl ?_
            refine z_iload_n C dX11_poke_99 rfl 3 rfl ?_
            obtain ⟨q20, h21, hf⟩ := z_bind hf
            refine z_callVv C (rest := []) (tX10_begin (ze_l E) (ze_D E) t a h21) gX11_poke_X10_begin rfl hdX10_begin ⟨(Nat.le_of_ble_eq_true rfl), (Nat.le_of_ble_eq_true rfl)⟩ ⟨Nat.zero_le _, Nat.zero_le _⟩ 11 cw_at_11 rfl rfl rfl (Nat.le_of_ble_eq_true rfl) dX11_poke_100 ?_
            refine z_iconst C dX11_poke_103 0 rfl ?_
            refine z_istore C [(7, .int 0), (6, .int q9.1), (0, .ref (a 0)), (1, .int v1), (2, .int v2), (3, .int v3), (4, .int v4), (5, .int v5)] dX11_poke_104 (by decide) rfl ?_
            exact z_sub [2, 3, 4, 5, 7, 0] rfl (kX11_poke_106 E t a out C R 200 _ _ _ _ _ _ hf)
          · replace hf := z_iff c19 hf
            refine z_bipush C dX11_poke_91 (-3) rfl ?_
            cases hf
            exact R _ _ dX11_poke_93
        · replace hf := z_ift c16 hf
          refine z_bipush C dX11_poke_75 (-2) rfl ?_
          cases hf
          exact R _ _ dX11_poke_77
      · replace hf := z_iff c11 hf
        refine z_iload C dX11_poke_46 0 rfl ?_
        cases hf
        exact R _ _ dX11_poke_48
    · replace hf := z_ift c6 hf
      refine z_iconst C dX11_poke_18 (-1) rfl ?_
      cases hf
      exact R _ _ dX11_poke_19
theorem uX11_told_11 : ∀ w ∈ wsX110, w ∈ wsX11_told := by decide +kernel
theorem hdX11_told : yX11_told.cls = RX11 ∧ yX11_told.cls ≠ "java/lang/invoke/MethodHandle" ∧ yX11_told.cls ≠ "java/lang/invoke/VarHandle" ∧ (parseMethodDescriptor yX11_told.desc).map (fun d => d.parameters.length) = some 3 := by decide +kernel
set_option maxHeartbeats 4000000 in
set_option maxRecDepth 100000 in
theorem tX11_told (l : Launch) (D : va_G) (t : zTy) (a : Nat → Nat) {v1 : Int32} {v2 : Int32} {v3 : Int32} {x : ST} {out : Int32 × ST} (hf : fX11_told v1 v2 v3 x = some out) : zMi l yX11_told wsX11_told 2 43 D t [.ref (a 0), .int v1, .int v2, .int v3] (CW t a x) out.1 (CW t a out.2) := by
  refine z_entry_i (cc := cX11_told) (nL := 4) (by decide) rfl (Nat.le_of_ble_eq_true rfl) (fun E _ _ C R => ?_)
  refine z_sub (lv' := [(0, .ref (a 0)), (1, .int v1), (2, .int v2), (3, .int v3)]) [0, 1, 2, 3] rfl ?_
  rw [fX11_told] at hf
  refine z_aload_n C dX11_told_0 rfl 0 rfl ?_
  refine z_iload_n C dX11_told_1 rfl 1 rfl ?_
  obtain ⟨q1, h2, hf⟩ := z_bind hf
  refine z_callVi C (rest := []) (tX11_isSpot (ze_l E) (ze_D E) t a h2) gX11_told_X11_isSpot rfl hdX11_isSpot ⟨(Nat.le_of_ble_eq_true rfl), (Nat.le_of_ble_eq_true rfl)⟩ ⟨Nat.zero_le _, Nat.zero_le _⟩ 0 cw_at_0 rfl rfl rfl (Nat.le_of_ble_eq_true rfl) dX11_told_2 ?_
  refine z_if_eq C 25 dX11_told_5 (by decide) (fun c3 => ?_) (fun c3 => ?_)
  · replace hf := z_ift c3 hf
    refine z_sipush C dX11_told_25 (-10001) rfl ?_
    cases hf
    exact R _ _ dX11_told_28
  · replace hf := z_iff c3 hf
    refine z_aload_n C dX11_told_8 rfl 0 rfl ?_
    refine z_iload_n C dX11_told_9 rfl 2 rfl ?_
    obtain ⟨q4, h5, hf⟩ := z_bind hf
    refine z_callVi C (rest := []) (tX11_isPart (ze_l E) (ze_D E) t a h5) gX11_told_X11_isPart rfl hdX11_isPart ⟨(Nat.le_of_ble_eq_true rfl), (Nat.le_of_ble_eq_true rfl)⟩ ⟨Nat.zero_le _, Nat.zero_le _⟩ 0 cw_at_0 rfl rfl rfl (Nat.le_of_ble_eq_true rfl) dX11_told_10 ?_
    refine z_if_eq C 25 dX11_told_13 (by decide) (fun c6 => ?_) (fun c6 => ?_)
    · replace hf := z_ift c6 hf
      refine z_sipush C dX11_told_25 (-10001) rfl ?_
      cases hf
      exact R _ _ dX11_told_28
    · replace hf := z_iff c6 hf
      refine z_iload_n C dX11_told_16 rfl 3 rfl ?_
      refine z_iconst C dX11_told_17 0 rfl ?_
      refine z_iconst C dX11_told_18 1 rfl ?_
      obtain ⟨q7, h8, hf⟩ := z_bind hf
      refine z_callSi C (rest := []) (tX11_within (ze_l E) (ze_D E) t _ h8) gX11_told_X11_within rfl hdX11_within ⟨(Nat.le_of_ble_eq_true rfl), (Nat.le_of_ble_eq_true rfl)⟩ ⟨Nat.zero_le _, Nat.zero_le _⟩ rfl rfl (Nat.le_of_ble_eq_true rfl) dX11_told_19 ?_
      refine z_if_ne C 29 dX11_told_22 (by decide) (fun c9 => ?_) (fun c9 => ?_)
      · replace hf := z_iff c9 hf
        refine z_iload_n C dX11_told_29 rfl 3 rfl ?_
        refine z_if_ne C 43 dX11_told_30 (by decide) (fun c10 => ?_) (fun c10 => ?_)
        · replace hf := z_iff c10 hf
          refine z_aload_n C dX11_told_43 rfl 0 rfl ?_
          refine cg_StillStars_table C uX11_told_11 (by decide +kernel) dX11_told_44 ?_
          refine z_iload_n C dX11_told_47 rfl 2 rfl ?_
          obtain ⟨q11, h12, hf⟩ := z_bind hf
          refine z_callVi C (rest := []) (tX10_pokesOf (ze_l E) (ze_D E) t a h12) gX11_told_X10_pokesOf rfl hdX10_pokesOf ⟨(Nat.le_of_ble_eq_true rfl), (Nat.le_of_ble_eq_true rfl)⟩ ⟨Nat.zero_le _, Nat.zero_le _⟩ 11 cw_at_11 rfl rfl rfl (Nat.le_of_ble_eq_true rfl) dX11_told_48 ?_
          refine z_if_ne C 60 dX11_told_51 (by decide) (fun c13 => ?_) (fun c13 => ?_)
          · replace hf := z_iff c13 hf
            refine z_aload_n C dX11_told_60 rfl 0 rfl ?_
            refine cg_StillStars_table C uX11_told_11 (by decide +kernel) dX11_told_61 ?_
            refine z_iload_n C dX11_told_64 rfl 1 rfl ?_
            refine z_iload_n C dX11_told_65 rfl 2 rfl ?_
            obtain ⟨q14, h15, hf⟩ := z_bind hf
            refine z_callVi C (rest := []) (tX10_doubt (ze_l E) (ze_D E) t a h15) gX11_told_X10_doubt rfl hdX10_doubt ⟨(Nat.le_of_ble_eq_true rfl), (Nat.le_of_ble_eq_true rfl)⟩ ⟨Nat.zero_le _, Nat.zero_le _⟩ 11 cw_at_11 rfl rfl rfl (Nat.le_of_ble_eq_true rfl) dX11_told_66 ?_
            cases hf
            exact R _ _ dX11_told_69
          · replace hf := z_ift c13 hf
            refine z_sipush C dX11_told_54 (-10004) rfl ?_
            refine z_goto C 69 dX11_told_57 (by decide) ?_
            cases hf
            exact R _ _ dX11_told_69
        · replace hf := z_ift c10 hf
          refine z_aload_n C dX11_told_33 rfl 0 rfl ?_
          refine cg_StillStars_table C uX11_told_11 (by decide +kernel) dX11_told_34 ?_
          refine z_iload_n C dX11_told_37 rfl 1 rfl ?_
          refine z_iload_n C dX11_told_38 rfl 2 rfl ?_
          obtain ⟨q16, h17, hf⟩ := z_bind hf
          refine z_callVi C (rest := []) (tX10_number (ze_l E) (ze_D E) t a h17) gX11_told_X10_number rfl hdX10_number ⟨(Nat.le_of_ble_eq_true rfl), (Nat.le_of_ble_eq_true rfl)⟩ ⟨Nat.zero_le _, Nat.zero_le _⟩ 11 cw_at_11 rfl rfl rfl (Nat.le_of_ble_eq_true rfl) dX11_told_39 ?_
          cases hf
          exact R _ _ dX11_told_42
      · replace hf := z_ift c9 hf
        refine z_sipush C dX11_told_25 (-10001) rfl ?_
        cases hf
        exact R _ _ dX11_told_28
theorem uX11_dead_11 : ∀ w ∈ wsX110, w ∈ wsX11_dead := by decide +kernel
theorem hdX11_dead : yX11_dead.cls = RX11 ∧ yX11_dead.cls ≠ "java/lang/invoke/MethodHandle" ∧ yX11_dead.cls ≠ "java/lang/invoke/VarHandle" ∧ (parseMethodDescriptor yX11_dead.desc).map (fun d => d.parameters.length) = some 2 := by decide +kernel
set_option maxHeartbeats 4000000 in
set_option maxRecDepth 100000 in
theorem tX11_dead (l : Launch) (D : va_G) (t : zTy) (a : Nat → Nat) {v1 : Int32} {v2 : Int32} {x : ST} {out : Int32 × ST} (hf : fX11_dead v1 v2 x = some out) : zMi l yX11_dead wsX11_dead 2 43 D t [.ref (a 0), .int v1, .int v2] (CW t a x) out.1 (CW t a out.2) := by
  refine z_entry_i (cc := cX11_dead) (nL := 3) (by decide) rfl (Nat.le_of_ble_eq_true rfl) (fun E _ _ C R => ?_)
  refine z_sub (lv' := [(0, .ref (a 0)), (1, .int v1), (2, .int v2)]) [0, 1, 2] rfl ?_
  rw [fX11_dead] at hf
  refine z_aload_n C dX11_dead_0 rfl 0 rfl ?_
  refine z_iload_n C dX11_dead_1 rfl 1 rfl ?_
  obtain ⟨q1, h2, hf⟩ := z_bind hf
  refine z_callVi C (rest := []) (tX11_isPart (ze_l E) (ze_D E) t a h2) gX11_dead_X11_isPart rfl hdX11_isPart ⟨(Nat.le_of_ble_eq_true rfl), (Nat.le_of_ble_eq_true rfl)⟩ ⟨Nat.zero_le _, Nat.zero_le _⟩ 0 cw_at_0 rfl rfl rfl (Nat.le_of_ble_eq_true rfl) dX11_dead_2 ?_
  refine z_if_eq C 12 dX11_dead_5 (by decide) (fun c3 => ?_) (fun c3 => ?_)
  · replace hf := z_ift c3 hf
    refine z_iconst C dX11_dead_12 (-1) rfl ?_
    cases hf
    exact R _ _ dX11_dead_13
  · replace hf := z_iff c3 hf
    refine z_iload_n C dX11_dead_8 rfl 1 rfl ?_
    refine z_if_ne C 14 dX11_dead_9 (by decide) (fun c4 => ?_) (fun c4 => ?_)
    · replace hf := z_iff c4 hf
      refine z_aload_n C dX11_dead_14 rfl 0 rfl ?_
      refine cg_StillStars_parts C uX11_dead_11 (by decide +kernel) dX11_dead_15 ?_
      refine z_iload_n C dX11_dead_18 rfl 1 rfl ?_
      refine z_iload_n C dX11_dead_19 rfl 2 rfl ?_
      obtain ⟨q5, h6, hf⟩ := z_bind hf
      refine z_callVi C (rest := []) (tX6_swapDead (ze_l E) (ze_D E) t a h6) gX11_dead_X6_swapDead rfl hdX6_swapDead ⟨(Nat.le_of_ble_eq_true rfl), (Nat.le_of_ble_eq_true rfl)⟩ ⟨Nat.zero_le _, Nat.zero_le _⟩ 7 cw_at_7 rfl rfl rfl (Nat.le_of_ble_eq_true rfl) dX11_dead_20 ?_
      refine z_if_eq C 30 dX11_dead_23 (by decide) (fun c7 => ?_) (fun c7 => ?_)
      · replace hf := z_ift c7 hf
        refine z_iconst C dX11_dead_30 0 rfl ?_
        cases hf
        exact R _ _ dX11_dead_31
      · replace hf := z_iff c7 hf
        refine z_iconst C dX11_dead_26 1 rfl ?_
        refine z_goto C 31 dX11_dead_27 (by decide) ?_
        cases hf
        exact R _ _ dX11_dead_31
    · replace hf := z_ift c4 hf
      refine z_iconst C dX11_dead_12 (-1) rfl ?_
      cases hf
      exact R _ _ dX11_dead_13
theorem uX11_findBends_11 : ∀ w ∈ wsX110, w ∈ wsX11_findBends := by decide +kernel
theorem hdX11_findBends : yX11_findBends.cls = RX11 ∧ yX11_findBends.cls ≠ "java/lang/invoke/MethodHandle" ∧ yX11_findBends.cls ≠ "java/lang/invoke/VarHandle" ∧ (parseMethodDescriptor yX11_findBends.desc).map (fun d => d.parameters.length) = some 0 := by decide +kernel
set_option maxHeartbeats 4000000 in
set_option maxRecDepth 100000 in
theorem tX11_findBends (l : Launch) (D : va_G) (t : zTy) (a : Nat → Nat)  {x : ST} {out : ST} (hf : fX11_findBends  x = some out) : zMv l yX11_findBends wsX11_findBends 5 122 D t [.ref (a 0)] (CW t a x) (CW t a out) := by
  refine z_entry_v (cc := cX11_findBends) (nL := 1) (by decide) rfl (Nat.le_of_ble_eq_true rfl) (fun E _ _ C R => ?_)
  refine z_sub (lv' := [(0, .ref (a 0))]) [0] rfl ?_
  rw [fX11_findBends] at hf
  refine z_aload_n C dX11_findBends_0 rfl 0 rfl ?_
  refine cg_StillStars_spots C uX11_findBends_11 (by decide +kernel) dX11_findBends_1 ?_
  refine z_aload_n C dX11_findBends_4 rfl 0 rfl ?_
  refine cg_StillStars_settings C uX11_findBends_11 (by decide +kernel) dX11_findBends_5 ?_
  refine z_iconst C dX11_findBends_8 0 rfl ?_
  obtain ⟨q1, h2, hf⟩ := z_bind hf
  refine z_callVi C (rest := [.ref (a 10)]) (tX7_get (ze_l E) (ze_D E) t a h2) gX11_findBends_X7_get rfl hdX7_get ⟨(Nat.le_of_ble_eq_true rfl), (Nat.le_of_ble_eq_true rfl)⟩ ⟨Nat.zero_le _, Nat.zero_le _⟩ 8 cw_at_8 rfl rfl rfl (Nat.le_of_ble_eq_true rfl) dX11_findBends_9 ?_
  refine z_aload_n C dX11_findBends_12 rfl 0 rfl ?_
  refine cg_StillStars_settings C uX11_findBends_11 (by decide +kernel) dX11_findBends_13 ?_
  refine z_iconst C dX11_findBends_16 1 rfl ?_
  obtain ⟨q3, h4, hf⟩ := z_bind hf
  refine z_callVi C (rest := [.int q1.1, .ref (a 10)]) (tX7_get (ze_l E) (ze_D E) t a h4) gX11_findBends_X7_get rfl hdX7_get ⟨(Nat.le_of_ble_eq_true rfl), (Nat.le_of_ble_eq_true rfl)⟩ ⟨Nat.zero_le _, Nat.zero_le _⟩ 8 cw_at_8 rfl rfl rfl (Nat.le_of_ble_eq_true rfl) dX11_findBends_17 ?_
  obtain ⟨q5, h6, hf⟩ := z_bind hf
  refine z_callVv C (rest := []) (tX9_measure (ze_l E) (ze_D E) t a h6) gX11_findBends_X9_measure rfl hdX9_measure ⟨(Nat.le_of_ble_eq_true rfl), (Nat.le_of_ble_eq_true rfl)⟩ ⟨Nat.zero_le _, Nat.zero_le _⟩ 10 cw_at_10 rfl rfl rfl (Nat.le_of_ble_eq_true rfl) dX11_findBends_20 ?_
  refine z_aload_n C dX11_findBends_23 rfl 0 rfl ?_
  refine cg_StillStars_bends C uX11_findBends_11 (by decide +kernel) dX11_findBends_24 ?_
  refine z_aload_n C dX11_findBends_27 rfl 0 rfl ?_
  refine cg_StillStars_spots C uX11_findBends_11 (by decide +kernel) dX11_findBends_28 ?_
  refine z_aload_n C dX11_findBends_31 rfl 0 rfl ?_
  refine cg_StillStars_table C uX11_findBends_11 (by decide +kernel) dX11_findBends_32 ?_
  refine z_aload_n C dX11_findBends_35 rfl 0 rfl ?_
  refine cg_StillStars_parts C uX11_findBends_11 (by decide +kernel) dX11_findBends_36 ?_
  obtain ⟨q7, h8, hf⟩ := z_bind hf
  refine z_callVv C (rest := []) (tX0_find (ze_l E) (ze_D E) t a h8) gX11_findBends_X0_find rfl hdX0_find ⟨(Nat.le_of_ble_eq_true rfl), (Nat.le_of_ble_eq_true rfl)⟩ ⟨Nat.zero_le _, Nat.zero_le _⟩ 1 cw_at_1 rfl rfl rfl (Nat.le_of_ble_eq_true rfl) dX11_findBends_39 ?_
  cases hf
  exact R _ _ dX11_findBends_42
theorem uX11_seen_11 : ∀ w ∈ wsX110, w ∈ wsX11_seen := by decide +kernel
theorem hdX11_seen : yX11_seen.cls = RX11 ∧ yX11_seen.cls ≠ "java/lang/invoke/MethodHandle" ∧ yX11_seen.cls ≠ "java/lang/invoke/VarHandle" ∧ (parseMethodDescriptor yX11_seen.desc).map (fun d => d.parameters.length) = some 0 := by decide +kernel
set_option maxHeartbeats 4000000 in
set_option maxRecDepth 100000 in
theorem tX11_seen (l : Launch) (D : va_G) (t : zTy) (a : Nat → Nat)  {x : ST} {out : Int32 × ST} (hf : fX11_seen  x = some out) : zMi l yX11_seen wsX11_seen 6 142 D t [.ref (a 0)] (CW t a x) out.1 (CW t a out.2) := by
  refine z_entry_i (cc := cX11_seen) (nL := 1) (by decide) rfl (Nat.le_of_ble_eq_true rfl) (fun E _ _ C R => ?_)
  refine z_sub (lv' := [(0, .ref (a 0))]) [0] rfl ?_
  rw [fX11_seen] at hf
  refine z_aload_n C dX11_seen_0 rfl 0 rfl ?_
  obtain ⟨q1, h2, hf⟩ := z_bind hf
  refine z_callVv C (rest := []) (tX11_findBends (ze_l E) (ze_D E) t a h2) gX11_seen_X11_findBends rfl hdX11_findBends ⟨(Nat.le_of_ble_eq_true rfl), (Nat.le_of_ble_eq_true rfl)⟩ ⟨Nat.zero_le _, Nat.zero_le _⟩ 0 cw_at_0 rfl rfl rfl (Nat.le_of_ble_eq_true rfl) dX11_seen_1 ?_
  refine z_aload_n C dX11_seen_4 rfl 0 rfl ?_
  refine cg_StillStars_bends C uX11_seen_11 (by decide +kernel) dX11_seen_5 ?_
  obtain ⟨q3, h4, hf⟩ := z_bind hf
  refine z_callVi C (rest := []) (tX0_seenBits (ze_l E) (ze_D E) t a h4) gX11_seen_X0_seenBits rfl hdX0_seenBits ⟨(Nat.le_of_ble_eq_true rfl), (Nat.le_of_ble_eq_true rfl)⟩ ⟨Nat.zero_le _, Nat.zero_le _⟩ 1 cw_at_1 rfl rfl rfl (Nat.le_of_ble_eq_true rfl) dX11_seen_8 ?_
  cases hf
  exact R _ _ dX11_seen_11
theorem uX11_bend_11 : ∀ w ∈ wsX110, w ∈ wsX11_bend := by decide +kernel
theorem hdX11_bend : yX11_bend.cls = RX11 ∧ yX11_bend.cls ≠ "java/lang/invoke/MethodHandle" ∧ yX11_bend.cls ≠ "java/lang/invoke/VarHandle" ∧ (parseMethodDescriptor yX11_bend.desc).map (fun d => d.parameters.length) = some 2 := by decide +kernel
set_option maxHeartbeats 4000000 in
set_option maxRecDepth 100000 in
theorem tX11_bend (l : Launch) (D : va_G) (t : zTy) (a : Nat → Nat) {v1 : Int32} {v2 : Int32} {x : ST} {out : Int64 × ST} (hf : fX11_bend v1 v2 x = some out) : zMl l yX11_bend wsX11_bend 6 142 D t [.ref (a 0), .int v1, .int v2] (CW t a x) out.1 (CW t a out.2) := by
  refine z_entry_l (cc := cX11_bend) (nL := 3) (by decide) rfl (Nat.le_of_ble_eq_true rfl) (fun E _ _ C R => ?_)
  refine z_sub (lv' := [(0, .ref (a 0)), (1, .int v1), (2, .int v2)]) [0, 1, 2] rfl ?_
  rw [fX11_bend] at hf
  refine z_aload_n C dX11_bend_0 rfl 0 rfl ?_
  refine z_iload_n C dX11_bend_1 rfl 1 rfl ?_
  obtain ⟨q1, h2, hf⟩ := z_bind hf
  refine z_callVi C (rest := []) (tX11_isPart (ze_l E) (ze_D E) t a h2) gX11_bend_X11_isPart rfl hdX11_isPart ⟨(Nat.le_of_ble_eq_true rfl), (Nat.le_of_ble_eq_true rfl)⟩ ⟨Nat.zero_le _, Nat.zero_le _⟩ 0 cw_at_0 rfl rfl rfl (Nat.le_of_ble_eq_true rfl) dX11_bend_2 ?_
  refine z_if_eq C 17 dX11_bend_5 (by decide) (fun c3 => ?_) (fun c3 => ?_)
  · replace hf := z_ift c3 hf
    refine z_ldc2 C (-4611686018427387905) (by decide +kernel) dX11_bend_17 ?_
    cases hf
    exact R _ _ dX11_bend_20
  · replace hf := z_iff c3 hf
    refine z_iload_n C dX11_bend_8 rfl 2 rfl ?_
    refine z_iconst C dX11_bend_9 0 rfl ?_
    refine z_iconst C dX11_bend_10 1 rfl ?_
    obtain ⟨q4, h5, hf⟩ := z_bind hf
    refine z_callSi C (rest := []) (tX11_within (ze_l E) (ze_D E) t _ h5) gX11_bend_X11_within rfl hdX11_within ⟨(Nat.le_of_ble_eq_true rfl), (Nat.le_of_ble_eq_true rfl)⟩ ⟨Nat.zero_le _, Nat.zero_le _⟩ rfl rfl (Nat.le_of_ble_eq_true rfl) dX11_bend_11 ?_
    refine z_if_ne C 21 dX11_bend_14 (by decide) (fun c6 => ?_) (fun c6 => ?_)
    · replace hf := z_iff c6 hf
      refine z_aload_n C dX11_bend_21 rfl 0 rfl ?_
      obtain ⟨q7, h8, hf⟩ := z_bind hf
      refine z_callVv C (rest := []) (tX11_findBends (ze_l E) (ze_D E) t a h8) gX11_bend_X11_findBends rfl hdX11_findBends ⟨(Nat.le_of_ble_eq_true rfl), (Nat.le_of_ble_eq_true rfl)⟩ ⟨Nat.zero_le _, Nat.zero_le _⟩ 0 cw_at_0 rfl rfl rfl (Nat.le_of_ble_eq_true rfl) dX11_bend_22 ?_
      refine z_iload_n C dX11_bend_25 rfl 2 rfl ?_
      refine z_if_ne C 40 dX11_bend_26 (by decide) (fun c9 => ?_) (fun c9 => ?_)
      · replace hf := z_iff c9 hf
        refine z_aload_n C dX11_bend_40 rfl 0 rfl ?_
        refine cg_StillStars_bends C uX11_bend_11 (by decide +kernel) dX11_bend_41 ?_
        refine z_iload_n C dX11_bend_44 rfl 1 rfl ?_
        obtain ⟨q10, h11, hf⟩ := z_bind hf
        refine z_callVl C (rest := []) (tX0_below (ze_l E) (ze_D E) t a h11) gX11_bend_X0_below rfl hdX0_below ⟨(Nat.le_of_ble_eq_true rfl), (Nat.le_of_ble_eq_true rfl)⟩ ⟨Nat.zero_le _, Nat.zero_le _⟩ 1 cw_at_1 rfl rfl rfl (Nat.le_of_ble_eq_true rfl) dX11_bend_45 ?_
        cases hf
        exact R _ _ dX11_bend_48
      · replace hf := z_ift c9 hf
        refine z_aload_n C dX11_bend_29 rfl 0 rfl ?_
        refine cg_StillStars_bends C uX11_bend_11 (by decide +kernel) dX11_bend_30 ?_
        refine z_iload_n C dX11_bend_33 rfl 1 rfl ?_
        obtain ⟨q12, h13, hf⟩ := z_bind hf
        refine z_callVl C (rest := []) (tX0_above (ze_l E) (ze_D E) t a h13) gX11_bend_X0_above rfl hdX0_above ⟨(Nat.le_of_ble_eq_true rfl), (Nat.le_of_ble_eq_true rfl)⟩ ⟨Nat.zero_le _, Nat.zero_le _⟩ 1 cw_at_1 rfl rfl rfl (Nat.le_of_ble_eq_true rfl) dX11_bend_34 ?_
        refine z_goto C 48 dX11_bend_37 (by decide) ?_
        cases hf
        exact R _ _ dX11_bend_48
    · replace hf := z_ift c6 hf
      refine z_ldc2 C (-4611686018427387905) (by decide +kernel) dX11_bend_17 ?_
      cases hf
      exact R _ _ dX11_bend_20
theorem uX11_whole_11 : ∀ w ∈ wsX110, w ∈ wsX11_whole := by decide +kernel
theorem hdX11_whole : yX11_whole.cls = RX11 ∧ yX11_whole.cls ≠ "java/lang/invoke/MethodHandle" ∧ yX11_whole.cls ≠ "java/lang/invoke/VarHandle" ∧ (parseMethodDescriptor yX11_whole.desc).map (fun d => d.parameters.length) = some 1 := by decide +kernel
set_option maxHeartbeats 4000000 in
set_option maxRecDepth 100000 in
theorem tX11_whole (l : Launch) (D : va_G) (t : zTy) (a : Nat → Nat) {v1 : Int32} {x : ST} {out : Int32 × ST} (hf : fX11_whole v1 x = some out) : zMi l yX11_whole wsX11_whole 6 142 D t [.ref (a 0), .int v1] (CW t a x) out.1 (CW t a out.2) := by
  refine z_entry_i (cc := cX11_whole) (nL := 2) (by decide) rfl (Nat.le_of_ble_eq_true rfl) (fun E _ _ C R => ?_)
  refine z_sub (lv' := [(0, .ref (a 0)), (1, .int v1)]) [0, 1] rfl ?_
  rw [fX11_whole] at hf
  refine z_aload_n C dX11_whole_0 rfl 0 rfl ?_
  refine z_iload_n C dX11_whole_1 rfl 1 rfl ?_
  obtain ⟨q1, h2, hf⟩ := z_bind hf
  refine z_callVi C (rest := []) (tX11_isPart (ze_l E) (ze_D E) t a h2) gX11_whole_X11_isPart rfl hdX11_isPart ⟨(Nat.le_of_ble_eq_true rfl), (Nat.le_of_ble_eq_true rfl)⟩ ⟨Nat.zero_le _, Nat.zero_le _⟩ 0 cw_at_0 rfl rfl rfl (Nat.le_of_ble_eq_true rfl) dX11_whole_2 ?_
  refine z_if_ne C 12 dX11_whole_5 (by decide) (fun c3 => ?_) (fun c3 => ?_)
  · replace hf := z_iff c3 hf
    refine z_aload_n C dX11_whole_12 rfl 0 rfl ?_
    obtain ⟨q4, h5, hf⟩ := z_bind hf
    refine z_callVv C (rest := []) (tX11_findBends (ze_l E) (ze_D E) t a h5) gX11_whole_X11_findBends rfl hdX11_findBends ⟨(Nat.le_of_ble_eq_true rfl), (Nat.le_of_ble_eq_true rfl)⟩ ⟨Nat.zero_le _, Nat.zero_le _⟩ 0 cw_at_0 rfl rfl rfl (Nat.le_of_ble_eq_true rfl) dX11_whole_13 ?_
    refine z_aload_n C dX11_whole_16 rfl 0 rfl ?_
    refine cg_StillStars_bends C uX11_whole_11 (by decide +kernel) dX11_whole_17 ?_
    refine z_iload_n C dX11_whole_20 rfl 1 rfl ?_
    obtain ⟨q6, h7, hf⟩ := z_bind hf
    refine z_callVi C (rest := []) (tX0_rounded (ze_l E) (ze_D E) t a h7) gX11_whole_X0_rounded rfl hdX0_rounded ⟨(Nat.le_of_ble_eq_true rfl), (Nat.le_of_ble_eq_true rfl)⟩ ⟨Nat.zero_le _, Nat.zero_le _⟩ 1 cw_at_1 rfl rfl rfl (Nat.le_of_ble_eq_true rfl) dX11_whole_21 ?_
    cases hf
    exact R _ _ dX11_whole_24
  · replace hf := z_ift c3 hf
    refine z_sipush C dX11_whole_8 (-10001) rfl ?_
    cases hf
    exact R _ _ dX11_whole_11
theorem uX11_fitWholes_11 : ∀ w ∈ wsX110, w ∈ wsX11_fitWholes := by decide +kernel
set_option maxHeartbeats 4000000 in
set_option maxRecDepth 100000 in
theorem kX11_fitWholes_35 (E : zE) (t : zTy) (a : Nat → Nat) (out : ST) (C : zC E cX11_fitWholes 2 RX11 wsX11_fitWholes (zrm 5 111) t) (R : zRv E cX11_fitWholes 2 (CW t a out)) : ∀ (x : ST), fX11_fitWholes_35 x = some out → zG E 2 0 0 (CW t a x) 35 [(0, .ref (a 0))] [] := by
  intro x hf
  rw [fX11_fitWholes_35] at hf
  refine z_aload_n C dX11_fitWholes_35 rfl 0 rfl ?_
  refine cg_StillStars_fit C uX11_fitWholes_11 (by decide +kernel) dX11_fitWholes_36 ?_
  refine z_aload_n C dX11_fitWholes_39 rfl 0 rfl ?_
  refine cg_StillStars_parts C uX11_fitWholes_11 (by decide +kernel) dX11_fitWholes_40 ?_
  refine z_aload_n C dX11_fitWholes_43 rfl 0 rfl ?_
  refine cg_StillStars_settings C uX11_fitWholes_11 (by decide +kernel) dX11_fitWholes_44 ?_
  refine z_iconst C dX11_fitWholes_47 4 rfl ?_
  obtain ⟨q8, h9, hf⟩ := z_bind hf
  refine z_callVi C (rest := [.ref (a 7), .ref (a 3)]) (tX7_get (ze_l E) (ze_D E) t a h9) gX11_fitWholes_X7_get rfl hdX7_get ⟨(Nat.le_of_ble_eq_true rfl), (Nat.le_of_ble_eq_true rfl)⟩ ⟨Nat.zero_le _, Nat.zero_le _⟩ 8 cw_at_8 rfl rfl rfl (Nat.le_of_ble_eq_true rfl) dX11_fitWholes_48 ?_
  refine z_aload_n C dX11_fitWholes_51 rfl 0 rfl ?_
  refine cg_StillStars_settings C uX11_fitWholes_11 (by decide +kernel) dX11_fitWholes_52 ?_
  refine z_iconst C dX11_fitWholes_55 5 rfl ?_
  obtain ⟨q10, h11, hf⟩ := z_bind hf
  refine z_callVi C (rest := [.int q8.1, .ref (a 7), .ref (a 3)]) (tX7_get (ze_l E) (ze_D E) t a h11) gX11_fitWholes_X7_get rfl hdX7_get ⟨(Nat.le_of_ble_eq_true rfl), (Nat.le_of_ble_eq_true rfl)⟩ ⟨Nat.zero_le _, Nat.zero_le _⟩ 8 cw_at_8 rfl rfl rfl (Nat.le_of_ble_eq_true rfl) dX11_fitWholes_56 ?_
  obtain ⟨q12, h13, hf⟩ := z_bind hf
  refine z_callVv C (rest := []) (tX2_find (ze_l E) (ze_D E) t a h13) gX11_fitWholes_X2_find rfl hdX2_find ⟨(Nat.le_of_ble_eq_true rfl), (Nat.le_of_ble_eq_true rfl)⟩ ⟨Nat.zero_le _, Nat.zero_le _⟩ 3 cw_at_3 rfl rfl rfl (Nat.le_of_ble_eq_true rfl) dX11_fitWholes_59 ?_
  cases hf
  exact R _ _ dX11_fitWholes_62
set_option maxHeartbeats 4000000 in
set_option maxRecDepth 100000 in
theorem kX11_fitWholes_2 (E : zE) (t : zTy) (a : Nat → Nat) (out : ST) (C : zC E cX11_fitWholes 2 RX11 wsX11_fitWholes (zrm 5 111) t) (R : zRv E cX11_fitWholes 2 (CW t a out)) : ∀ (n : Nat) (v1 : Int32) (x : ST), fX11_fitWholes_2 n v1 x = some out → zG E 2 0 0 (CW t a x) 2 [(0, .ref (a 0)), (1, .int v1)] [] := by
  intro n
  induction n with
  | zero =>
    intro v1 x hf
    cases hf
  | succ n ih =>
    intro v1 x hf
    rw [fX11_fitWholes_2] at hf
    refine z_iload_n C dX11_fitWholes_2 rfl 1 rfl ?_
    refine z_aload_n C dX11_fitWholes_3 rfl 0 rfl ?_
    refine cg_StillStars_parts C uX11_fitWholes_11 (by decide +kernel) dX11_fitWholes_4 ?_
    obtain ⟨q1, h2, hf⟩ := z_bind hf
    refine z_callVi C (rest := [.int v1]) (tX6_count (ze_l E) (ze_D E) t a h2) gX11_fitWholes_X6_count rfl hdX6_count ⟨(Nat.le_of_ble_eq_true rfl), (Nat.le_of_ble_eq_true rfl)⟩ ⟨Nat.zero_le _, Nat.zero_le _⟩ 7 cw_at_7 rfl rfl rfl (Nat.le_of_ble_eq_true rfl) dX11_fitWholes_7 ?_
    refine z_icmp_ge C 35 dX11_fitWholes_10 (by decide) (fun c3 => ?_) (fun c3 => ?_)
    · replace hf := z_ift c3 hf
      exact z_sub [0] rfl (kX11_fitWholes_35 E t a out C R _ hf)
    · replace hf := z_iff c3 hf
      refine z_aload_n C dX11_fitWholes_13 rfl 0 rfl ?_
      refine cg_StillStars_fit C uX11_fitWholes_11 (by decide +kernel) dX11_fitWholes_14 ?_
      refine z_iload_n C dX11_fitWholes_17 rfl 1 rfl ?_
      refine z_aload_n C dX11_fitWholes_18 rfl 0 rfl ?_
      refine cg_StillStars_bends C uX11_fitWholes_11 (by decide +kernel) dX11_fitWholes_19 ?_
      refine z_iload_n C dX11_fitWholes_22 rfl 1 rfl ?_
      obtain ⟨q4, h5, hf⟩ := z_bind hf
      refine z_callVi C (rest := [.int v1, .ref (a 3)]) (tX0_rounded (ze_l E) (ze_D E) t a h5) gX11_fitWholes_X0_rounded rfl hdX0_rounded ⟨(Nat.le_of_ble_eq_true rfl), (Nat.le_of_ble_eq_true rfl)⟩ ⟨Nat.zero_le _, Nat.zero_le _⟩ 1 cw_at_1 rfl rfl rfl (Nat.le_of_ble_eq_true rfl) dX11_fitWholes_23 ?_
      obtain ⟨q6, h7, hf⟩ := z_bind hf
      refine z_callVv C (rest := []) (tX2_wish (ze_l E) (ze_D E) t a h7) gX11_fitWholes_X2_wish rfl hdX2_wish ⟨(Nat.le_of_ble_eq_true rfl), (Nat.le_of_ble_eq_true rfl)⟩ ⟨Nat.zero_le _, Nat.zero_le _⟩ 3 cw_at_3 rfl rfl rfl (Nat.le_of_ble_eq_true rfl) dX11_fitWholes_26 ?_
      refine z_iinc C (v1 + 1) [(1, .int (v1 + 1)), (0, .ref (a 0))] dX11_fitWholes_29 1 rfl rfl (by decide) rfl ?_
      refine z_goto C 2 dX11_fitWholes_32 (by decide) ?_
      exact z_sub [1, 0] rfl (ih _ _ hf)
theorem hdX11_fitWholes : yX11_fitWholes.cls = RX11 ∧ yX11_fitWholes.cls ≠ "java/lang/invoke/MethodHandle" ∧ yX11_fitWholes.cls ≠ "java/lang/invoke/VarHandle" ∧ (parseMethodDescriptor yX11_fitWholes.desc).map (fun d => d.parameters.length) = some 0 := by decide +kernel
set_option maxHeartbeats 4000000 in
set_option maxRecDepth 100000 in
theorem tX11_fitWholes (l : Launch) (D : va_G) (t : zTy) (a : Nat → Nat)  {x : ST} {out : ST} (hf : fX11_fitWholes  x = some out) : zMv l yX11_fitWholes wsX11_fitWholes 5 111 D t [.ref (a 0)] (CW t a x) (CW t a out) := by
  refine z_entry_v (cc := cX11_fitWholes) (nL := 2) (by decide) rfl (Nat.le_of_ble_eq_true rfl) (fun E _ _ C R => ?_)
  refine z_sub (lv' := [(0, .ref (a 0))]) [0] rfl ?_
  rw [fX11_fitWholes] at hf
  refine z_iconst C dX11_fitWholes_0 0 rfl ?_
  refine z_istore_n C [(1, .int 0), (0, .ref (a 0))] dX11_fitWholes_1 rfl (by decide) rfl ?_
  exact z_sub [1, 0] rfl (kX11_fitWholes_2 E t a out C R 200 _ _ hf)
theorem uX11_nearest_11 : ∀ w ∈ wsX110, w ∈ wsX11_nearest := by decide +kernel
theorem hdX11_nearest : yX11_nearest.cls = RX11 ∧ yX11_nearest.cls ≠ "java/lang/invoke/MethodHandle" ∧ yX11_nearest.cls ≠ "java/lang/invoke/VarHandle" ∧ (parseMethodDescriptor yX11_nearest.desc).map (fun d => d.parameters.length) = some 1 := by decide +kernel
set_option maxHeartbeats 4000000 in
set_option maxRecDepth 100000 in
theorem tX11_nearest (l : Launch) (D : va_G) (t : zTy) (a : Nat → Nat) {v1 : Int32} {x : ST} {out : Int32 × ST} (hf : fX11_nearest v1 x = some out) : zMi l yX11_nearest wsX11_nearest 6 142 D t [.ref (a 0), .int v1] (CW t a x) out.1 (CW t a out.2) := by
  refine z_entry_i (cc := cX11_nearest) (nL := 2) (by decide) rfl (Nat.le_of_ble_eq_true rfl) (fun E _ _ C R => ?_)
  refine z_sub (lv' := [(0, .ref (a 0)), (1, .int v1)]) [0, 1] rfl ?_
  rw [fX11_nearest] at hf
  refine z_aload_n C dX11_nearest_0 rfl 0 rfl ?_
  refine z_iload_n C dX11_nearest_1 rfl 1 rfl ?_
  obtain ⟨q1, h2, hf⟩ := z_bind hf
  refine z_callVi C (rest := []) (tX11_isPart (ze_l E) (ze_D E) t a h2) gX11_nearest_X11_isPart rfl hdX11_isPart ⟨(Nat.le_of_ble_eq_true rfl), (Nat.le_of_ble_eq_true rfl)⟩ ⟨Nat.zero_le _, Nat.zero_le _⟩ 0 cw_at_0 rfl rfl rfl (Nat.le_of_ble_eq_true rfl) dX11_nearest_2 ?_
  refine z_if_ne C 12 dX11_nearest_5 (by decide) (fun c3 => ?_) (fun c3 => ?_)
  · replace hf := z_iff c3 hf
    refine z_aload_n C dX11_nearest_12 rfl 0 rfl ?_
    obtain ⟨q4, h5, hf⟩ := z_bind hf
    refine z_callVv C (rest := []) (tX11_findBends (ze_l E) (ze_D E) t a h5) gX11_nearest_X11_findBends rfl hdX11_findBends ⟨(Nat.le_of_ble_eq_true rfl), (Nat.le_of_ble_eq_true rfl)⟩ ⟨Nat.zero_le _, Nat.zero_le _⟩ 0 cw_at_0 rfl rfl rfl (Nat.le_of_ble_eq_true rfl) dX11_nearest_13 ?_
    refine z_aload_n C dX11_nearest_16 rfl 0 rfl ?_
    obtain ⟨q6, h7, hf⟩ := z_bind hf
    refine z_callVv C (rest := []) (tX11_fitWholes (ze_l E) (ze_D E) t a h7) gX11_nearest_X11_fitWholes rfl hdX11_fitWholes ⟨(Nat.le_of_ble_eq_true rfl), (Nat.le_of_ble_eq_true rfl)⟩ ⟨Nat.zero_le _, Nat.zero_le _⟩ 0 cw_at_0 rfl rfl rfl (Nat.le_of_ble_eq_true rfl) dX11_nearest_17 ?_
    refine z_aload_n C dX11_nearest_20 rfl 0 rfl ?_
    refine cg_StillStars_fit C uX11_nearest_11 (by decide +kernel) dX11_nearest_21 ?_
    refine z_iload_n C dX11_nearest_24 rfl 1 rfl ?_
    obtain ⟨q8, h9, hf⟩ := z_bind hf
    refine z_callVi C (rest := []) (tX2_unitsOf (ze_l E) (ze_D E) t a h9) gX11_nearest_X2_unitsOf rfl hdX2_unitsOf ⟨(Nat.le_of_ble_eq_true rfl), (Nat.le_of_ble_eq_true rfl)⟩ ⟨Nat.zero_le _, Nat.zero_le _⟩ 3 cw_at_3 rfl rfl rfl (Nat.le_of_ble_eq_true rfl) dX11_nearest_25 ?_
    cases hf
    exact R _ _ dX11_nearest_28
  · replace hf := z_ift c3 hf
    refine z_sipush C dX11_nearest_8 (-10001) rfl ?_
    cases hf
    exact R _ _ dX11_nearest_11
theorem uX11_off_11 : ∀ w ∈ wsX110, w ∈ wsX11_off := by decide +kernel
theorem hdX11_off : yX11_off.cls = RX11 ∧ yX11_off.cls ≠ "java/lang/invoke/MethodHandle" ∧ yX11_off.cls ≠ "java/lang/invoke/VarHandle" ∧ (parseMethodDescriptor yX11_off.desc).map (fun d => d.parameters.length) = some 0 := by decide +kernel
set_option maxHeartbeats 4000000 in
set_option maxRecDepth 100000 in
theorem tX11_off (l : Launch) (D : va_G) (t : zTy) (a : Nat → Nat)  {x : ST} {out : Int64 × ST} (hf : fX11_off  x = some out) : zMl l yX11_off wsX11_off 6 142 D t [.ref (a 0)] (CW t a x) out.1 (CW t a out.2) := by
  refine z_entry_l (cc := cX11_off) (nL := 1) (by decide) rfl (Nat.le_of_ble_eq_true rfl) (fun E _ _ C R => ?_)
  refine z_sub (lv' := [(0, .ref (a 0))]) [0] rfl ?_
  rw [fX11_off] at hf
  refine z_aload_n C dX11_off_0 rfl 0 rfl ?_
  obtain ⟨q1, h2, hf⟩ := z_bind hf
  refine z_callVv C (rest := []) (tX11_findBends (ze_l E) (ze_D E) t a h2) gX11_off_X11_findBends rfl hdX11_findBends ⟨(Nat.le_of_ble_eq_true rfl), (Nat.le_of_ble_eq_true rfl)⟩ ⟨Nat.zero_le _, Nat.zero_le _⟩ 0 cw_at_0 rfl rfl rfl (Nat.le_of_ble_eq_true rfl) dX11_off_1 ?_
  refine z_aload_n C dX11_off_4 rfl 0 rfl ?_
  obtain ⟨q3, h4, hf⟩ := z_bind hf
  refine z_callVv C (rest := []) (tX11_fitWholes (ze_l E) (ze_D E) t a h4) gX11_off_X11_fitWholes rfl hdX11_fitWholes ⟨(Nat.le_of_ble_eq_true rfl), (Nat.le_of_ble_eq_true rfl)⟩ ⟨Nat.zero_le _, Nat.zero_le _⟩ 0 cw_at_0 rfl rfl rfl (Nat.le_of_ble_eq_true rfl) dX11_off_5 ?_
  refine z_aload_n C dX11_off_8 rfl 0 rfl ?_
  refine cg_StillStars_fit C uX11_off_11 (by decide +kernel) dX11_off_9 ?_
  obtain ⟨q5, h6, hf⟩ := z_bind hf
  refine z_callVl C (rest := []) (tX2_squares (ze_l E) (ze_D E) t a h6) gX11_off_X2_squares rfl hdX2_squares ⟨(Nat.le_of_ble_eq_true rfl), (Nat.le_of_ble_eq_true rfl)⟩ ⟨Nat.zero_le _, Nat.zero_le _⟩ 3 cw_at_3 rfl rfl rfl (Nat.le_of_ble_eq_true rfl) dX11_off_12 ?_
  cases hf
  exact R _ _ dX11_off_15
theorem uX11_start_11 : ∀ w ∈ wsX110, w ∈ wsX11_start := by decide +kernel
theorem hdX11_start : yX11_start.cls = RX11 ∧ yX11_start.cls ≠ "java/lang/invoke/MethodHandle" ∧ yX11_start.cls ≠ "java/lang/invoke/VarHandle" ∧ (parseMethodDescriptor yX11_start.desc).map (fun d => d.parameters.length) = some 0 := by decide +kernel
set_option maxHeartbeats 4000000 in
set_option maxRecDepth 100000 in
theorem tX11_start (l : Launch) (D : va_G) (t : zTy) (a : Nat → Nat)  {x : ST} {out : Int32 × ST} (hf : fX11_start  x = some out) : zMi l yX11_start wsX11_start 1 21 D t [.ref (a 0)] (CW t a x) out.1 (CW t a out.2) := by
  refine z_entry_i (cc := cX11_start) (nL := 1) (by decide) rfl (Nat.le_of_ble_eq_true rfl) (fun E _ _ C R => ?_)
  refine z_sub (lv' := [(0, .ref (a 0))]) [0] rfl ?_
  rw [fX11_start] at hf
  refine z_aload_n C dX11_start_0 rfl 0 rfl ?_
  refine cg_StillStars_keeper C uX11_start_11 (by decide +kernel) dX11_start_1 ?_
  obtain ⟨q1, h2, hf⟩ := z_bind hf
  refine z_callVi C (rest := []) (tX3_now (ze_l E) (ze_D E) t a h2) gX11_start_X3_now rfl hdX3_now ⟨(Nat.le_of_ble_eq_true rfl), (Nat.le_of_ble_eq_true rfl)⟩ ⟨Nat.zero_le _, Nat.zero_le _⟩ 4 cw_at_4 rfl rfl rfl (Nat.le_of_ble_eq_true rfl) dX11_start_4 ?_
  refine z_if_eq C 13 dX11_start_7 (by decide) (fun c3 => ?_) (fun c3 => ?_)
  · replace hf := z_ift c3 hf
    refine z_aload_n C dX11_start_13 rfl 0 rfl ?_
    refine cg_StillStars_keeper C uX11_start_11 (by decide +kernel) dX11_start_14 ?_
    refine z_iconst C dX11_start_17 1 rfl ?_
    obtain ⟨q4, h5, hf⟩ := z_bind hf
    refine z_callVv C (rest := []) (tX3_enter (ze_l E) (ze_D E) t a h5) gX11_start_X3_enter rfl hdX3_enter ⟨(Nat.le_of_ble_eq_true rfl), (Nat.le_of_ble_eq_true rfl)⟩ ⟨Nat.zero_le _, Nat.zero_le _⟩ 4 cw_at_4 rfl rfl rfl (Nat.le_of_ble_eq_true rfl) dX11_start_18 ?_
    refine z_iconst C dX11_start_21 1 rfl ?_
    cases hf
    exact R _ _ dX11_start_22
  · replace hf := z_iff c3 hf
    refine z_bipush C dX11_start_10 (-2) rfl ?_
    cases hf
    exact R _ _ dX11_start_12
theorem uX11_stop_11 : ∀ w ∈ wsX110, w ∈ wsX11_stop := by decide +kernel
theorem hdX11_stop : yX11_stop.cls = RX11 ∧ yX11_stop.cls ≠ "java/lang/invoke/MethodHandle" ∧ yX11_stop.cls ≠ "java/lang/invoke/VarHandle" ∧ (parseMethodDescriptor yX11_stop.desc).map (fun d => d.parameters.length) = some 0 := by decide +kernel
set_option maxHeartbeats 4000000 in
set_option maxRecDepth 100000 in
theorem tX11_stop (l : Launch) (D : va_G) (t : zTy) (a : Nat → Nat)  {x : ST} {out : Int32 × ST} (hf : fX11_stop  x = some out) : zMi l yX11_stop wsX11_stop 1 21 D t [.ref (a 0)] (CW t a x) out.1 (CW t a out.2) := by
  refine z_entry_i (cc := cX11_stop) (nL := 2) (by decide) rfl (Nat.le_of_ble_eq_true rfl) (fun E _ _ C R => ?_)
  refine z_sub (lv' := [(0, .ref (a 0))]) [0] rfl ?_
  rw [fX11_stop] at hf
  refine z_aload_n C dX11_stop_0 rfl 0 rfl ?_
  refine cg_StillStars_keeper C uX11_stop_11 (by decide +kernel) dX11_stop_1 ?_
  obtain ⟨q1, h2, hf⟩ := z_bind hf
  refine z_callVi C (rest := []) (tX3_now (ze_l E) (ze_D E) t a h2) gX11_stop_X3_now rfl hdX3_now ⟨(Nat.le_of_ble_eq_true rfl), (Nat.le_of_ble_eq_true rfl)⟩ ⟨Nat.zero_le _, Nat.zero_le _⟩ 4 cw_at_4 rfl rfl rfl (Nat.le_of_ble_eq_true rfl) dX11_stop_4 ?_
  refine z_istore_n C [(1, .int q1.1), (0, .ref (a 0))] dX11_stop_7 rfl (by decide) rfl ?_
  refine z_aload_n C dX11_stop_8 rfl 1 rfl ?_
  refine cg_StillStars_keeper C uX11_stop_11 (by decide +kernel) dX11_stop_9 ?_
  refine z_iconst C dX11_stop_12 0 rfl ?_
  obtain ⟨q3, h4, hf⟩ := z_bind hf
  refine z_callVv C (rest := []) (tX3_enter (ze_l E) (ze_D E) t a h4) gX11_stop_X3_enter rfl hdX3_enter ⟨(Nat.le_of_ble_eq_true rfl), (Nat.le_of_ble_eq_true rfl)⟩ ⟨Nat.zero_le _, Nat.zero_le _⟩ 4 cw_at_4 rfl rfl rfl (Nat.le_of_ble_eq_true rfl) dX11_stop_13 ?_
  refine z_iload_n C dX11_stop_16 rfl 0 rfl ?_
  cases hf
  exact R _ _ dX11_stop_17
theorem uX11_moveUnits_11 : ∀ w ∈ wsX110, w ∈ wsX11_moveUnits := by decide +kernel
set_option maxHeartbeats 4000000 in
set_option maxRecDepth 100000 in
theorem kX11_moveUnits_122 (E : zE) (t : zTy) (a : Nat → Nat) (out : Int32 × ST) (C : zC E cX11_moveUnits 4 RX11 wsX11_moveUnits (zrm 5 111) t) (R : zRz E cX11_moveUnits 4 out.1 (CW t a out.2)) (kb87 : Int32 → Int32 → ST → Option (Int32 × ST)) (Kb87 : ∀ (v1 : Int32) (v2 : Int32) (x : ST), kb87 v1 v2 x = some out → zG E 4 0 0 (CW t a x) 87 [(0, .ref (a 0)), (1, .int v1), (2, .int v2)] []) : ∀ (v1 : Int32) (v2 : Int32) (x : ST), fX11_moveUnits_122 kb87 v1 v2 x = some out → zG E 4 0 0 (CW t a x) 122 [(0, .ref (a 0)), (1, .int v1), (2, .int v2)] [] := by
  intro v1 v2 x hf
  rw [fX11_moveUnits_122] at hf
  refine z_iinc C (v2 + 1) [(2, .int (v2 + 1)), (0, .ref (a 0)), (1, .int v1)] dX11_moveUnits_122 2 rfl rfl (by decide) rfl ?_
  refine z_goto C 87 dX11_moveUnits_125 (by decide) ?_
  exact z_sub [1, 2, 0] rfl (Kb87 _ _ _ hf)
set_option maxHeartbeats 4000000 in
set_option maxRecDepth 100000 in
theorem kX11_moveUnits_87 (E : zE) (t : zTy) (a : Nat → Nat) (out : Int32 × ST) (C : zC E cX11_moveUnits 4 RX11 wsX11_moveUnits (zrm 5 111) t) (R : zRz E cX11_moveUnits 4 out.1 (CW t a out.2)) : ∀ (n : Nat) (v1 : Int32) (v2 : Int32) (x : ST), fX11_moveUnits_87 n v1 v2 x = some out → zG E 4 0 0 (CW t a x) 87 [(0, .ref (a 0)), (1, .int v1), (2, .int v2)] [] := by
  intro n
  induction n with
  | zero =>
    intro v1 v2 x hf
    cases hf
  | succ n ih =>
    intro v1 v2 x hf
    rw [fX11_moveUnits_87] at hf
    refine z_iload_n C dX11_moveUnits_87 rfl 2 rfl ?_
    refine z_aload_n C dX11_moveUnits_88 rfl 0 rfl ?_
    refine cg_StillStars_parts C uX11_moveUnits_11 (by decide +kernel) dX11_moveUnits_89 ?_
    obtain ⟨q19, h20, hf⟩ := z_bind hf
    refine z_callVi C (rest := [.int v2]) (tX6_count (ze_l E) (ze_D E) t a h20) gX11_moveUnits_X6_count rfl hdX6_count ⟨(Nat.le_of_ble_eq_true rfl), (Nat.le_of_ble_eq_true rfl)⟩ ⟨Nat.zero_le _, Nat.zero_le _⟩ 7 cw_at_7 rfl rfl rfl (Nat.le_of_ble_eq_true rfl) dX11_moveUnits_92 ?_
    refine z_icmp_ge C 128 dX11_moveUnits_95 (by decide) (fun c21 => ?_) (fun c21 => ?_)
    · replace hf := z_ift c21 hf
      refine z_iload_n C dX11_moveUnits_128 rfl 1 rfl ?_
      obtain ⟨h22, hf⟩ := z_some hf
      cases hf
      exact R _ _ dX11_moveUnits_129 h22
    · replace hf := z_iff c21 hf
      refine z_aload_n C dX11_moveUnits_98 rfl 0 rfl ?_
      refine cg_StillStars_fit C uX11_moveUnits_11 (by decide +kernel) dX11_moveUnits_99 ?_
      refine z_iload_n C dX11_moveUnits_102 rfl 2 rfl ?_
      obtain ⟨q23, h24, hf⟩ := z_bind hf
      refine z_callVi C (rest := []) (tX2_unitsOf (ze_l E) (ze_D E) t a h24) gX11_moveUnits_X2_unitsOf rfl hdX2_unitsOf ⟨(Nat.le_of_ble_eq_true rfl), (Nat.le_of_ble_eq_true rfl)⟩ ⟨Nat.zero_le _, Nat.zero_le _⟩ 3 cw_at_3 rfl rfl rfl (Nat.le_of_ble_eq_true rfl) dX11_moveUnits_103 ?_
      refine z_istore_n C [(3, .int q23.1), (0, .ref (a 0)), (1, .int v1), (2, .int v2)] dX11_moveUnits_106 rfl (by decide) rfl ?_
      refine z_aload_n C dX11_moveUnits_107 rfl 1 rfl ?_
      refine cg_StillStars_parts C uX11_moveUnits_11 (by decide +kernel) dX11_moveUnits_108 ?_
      refine z_iload_n C dX11_moveUnits_111 rfl 3 rfl ?_
      refine z_iload_n C dX11_moveUnits_112 rfl 0 rfl ?_
      obtain ⟨q25, h26, hf⟩ := z_bind hf
      refine z_callVi C (rest := []) (tX6_swapUnits (ze_l E) (ze_D E) t a h26) gX11_moveUnits_X6_swapUnits rfl hdX6_swapUnits ⟨(Nat.le_of_ble_eq_true rfl), (Nat.le_of_ble_eq_true rfl)⟩ ⟨Nat.zero_le _, Nat.zero_le _⟩ 7 cw_at_7 rfl rfl rfl (Nat.le_of_ble_eq_true rfl) dX11_moveUnits_113 ?_
      refine z_iload_n C dX11_moveUnits_116 rfl 0 rfl ?_
      refine z_icmp_eq C 122 dX11_moveUnits_117 (by decide) (fun c27 => ?_) (fun c27 => ?_)
      · replace hf := z_ift c27 hf
        exact z_sub [1, 2, 3] rfl (kX11_moveUnits_122 E t a out C R (fX11_moveUnits_87 n) (ih) _ _ _ hf)
      · replace hf := z_iff c27 hf
        refine z_iconst C dX11_moveUnits_120 1 rfl ?_
        refine z_istore_n C [(1, .int 1), (3, .int q23.1), (0, .ref (a 0)), (2, .int v2)] dX11_moveUnits_121 rfl (by decide) rfl ?_
        exact z_sub [2, 0, 3] rfl (kX11_moveUnits_122 E t a out C R (fX11_moveUnits_87 n) (ih) _ _ _ hf)
set_option maxHeartbeats 4000000 in
set_option maxRecDepth 100000 in
theorem kX11_moveUnits_56 (E : zE) (t : zTy) (a : Nat → Nat) (out : Int32 × ST) (C : zC E cX11_moveUnits 4 RX11 wsX11_moveUnits (zrm 5 111) t) (R : zRz E cX11_moveUnits 4 out.1 (CW t a out.2)) : ∀ (x : ST), fX11_moveUnits_56 x = some out → zG E 4 0 0 (CW t a x) 56 [(0, .ref (a 0))] [] := by
  intro x hf
  rw [fX11_moveUnits_56] at hf
  refine z_aload_n C dX11_moveUnits_56 rfl 0 rfl ?_
  refine cg_StillStars_fit C uX11_moveUnits_11 (by decide +kernel) dX11_moveUnits_57 ?_
  refine z_aload_n C dX11_moveUnits_60 rfl 0 rfl ?_
  refine cg_StillStars_parts C uX11_moveUnits_11 (by decide +kernel) dX11_moveUnits_61 ?_
  refine z_aload_n C dX11_moveUnits_64 rfl 0 rfl ?_
  refine cg_StillStars_settings C uX11_moveUnits_11 (by decide +kernel) dX11_moveUnits_65 ?_
  refine z_iconst C dX11_moveUnits_68 4 rfl ?_
  obtain ⟨q13, h14, hf⟩ := z_bind hf
  refine z_callVi C (rest := [.ref (a 7), .ref (a 3)]) (tX7_get (ze_l E) (ze_D E) t a h14) gX11_moveUnits_X7_get rfl hdX7_get ⟨(Nat.le_of_ble_eq_true rfl), (Nat.le_of_ble_eq_true rfl)⟩ ⟨Nat.zero_le _, Nat.zero_le _⟩ 8 cw_at_8 rfl rfl rfl (Nat.le_of_ble_eq_true rfl) dX11_moveUnits_69 ?_
  refine z_aload_n C dX11_moveUnits_72 rfl 0 rfl ?_
  refine cg_StillStars_settings C uX11_moveUnits_11 (by decide +kernel) dX11_moveUnits_73 ?_
  refine z_iconst C dX11_moveUnits_76 5 rfl ?_
  obtain ⟨q15, h16, hf⟩ := z_bind hf
  refine z_callVi C (rest := [.int q13.1, .ref (a 7), .ref (a 3)]) (tX7_get (ze_l E) (ze_D E) t a h16) gX11_moveUnits_X7_get rfl hdX7_get ⟨(Nat.le_of_ble_eq_true rfl), (Nat.le_of_ble_eq_true rfl)⟩ ⟨Nat.zero_le _, Nat.zero_le _⟩ 8 cw_at_8 rfl rfl rfl (Nat.le_of_ble_eq_true rfl) dX11_moveUnits_77 ?_
  obtain ⟨q17, h18, hf⟩ := z_bind hf
  refine z_callVv C (rest := []) (tX2_find (ze_l E) (ze_D E) t a h18) gX11_moveUnits_X2_find rfl hdX2_find ⟨(Nat.le_of_ble_eq_true rfl), (Nat.le_of_ble_eq_true rfl)⟩ ⟨Nat.zero_le _, Nat.zero_le _⟩ 3 cw_at_3 rfl rfl rfl (Nat.le_of_ble_eq_true rfl) dX11_moveUnits_80 ?_
  refine z_iconst C dX11_moveUnits_83 0 rfl ?_
  refine z_istore_n C [(1, .int 0), (0, .ref (a 0))] dX11_moveUnits_84 rfl (by decide) rfl ?_
  refine z_iconst C dX11_moveUnits_85 0 rfl ?_
  refine z_istore_n C [(2, .int 0), (1, .int 0), (0, .ref (a 0))] dX11_moveUnits_86 rfl (by decide) rfl ?_
  exact z_sub [2, 1, 0] rfl (kX11_moveUnits_87 E t a out C R 200 _ _ _ hf)
set_option maxHeartbeats 4000000 in
set_option maxRecDepth 100000 in
theorem kX11_moveUnits_2 (E : zE) (t : zTy) (a : Nat → Nat) (out : Int32 × ST) (C : zC E cX11_moveUnits 4 RX11 wsX11_moveUnits (zrm 5 111) t) (R : zRz E cX11_moveUnits 4 out.1 (CW t a out.2)) : ∀ (n : Nat) (v1 : Int32) (x : ST), fX11_moveUnits_2 n v1 x = some out → zG E 4 0 0 (CW t a x) 2 [(0, .ref (a 0)), (1, .int v1)] [] := by
  intro n
  induction n with
  | zero =>
    intro v1 x hf
    cases hf
  | succ n ih =>
    intro v1 x hf
    rw [fX11_moveUnits_2] at hf
    refine z_iload_n C dX11_moveUnits_2 rfl 1 rfl ?_
    refine z_aload_n C dX11_moveUnits_3 rfl 0 rfl ?_
    refine cg_StillStars_parts C uX11_moveUnits_11 (by decide +kernel) dX11_moveUnits_4 ?_
    obtain ⟨q1, h2, hf⟩ := z_bind hf
    refine z_callVi C (rest := [.int v1]) (tX6_count (ze_l E) (ze_D E) t a h2) gX11_moveUnits_X6_count rfl hdX6_count ⟨(Nat.le_of_ble_eq_true rfl), (Nat.le_of_ble_eq_true rfl)⟩ ⟨Nat.zero_le _, Nat.zero_le _⟩ 7 cw_at_7 rfl rfl rfl (Nat.le_of_ble_eq_true rfl) dX11_moveUnits_7 ?_
    refine z_icmp_ge C 56 dX11_moveUnits_10 (by decide) (fun c3 => ?_) (fun c3 => ?_)
    · replace hf := z_ift c3 hf
      exact z_sub [0] rfl (kX11_moveUnits_56 E t a out C R _ hf)
    · replace hf := z_iff c3 hf
      refine z_aload_n C dX11_moveUnits_13 rfl 0 rfl ?_
      refine cg_StillStars_fit C uX11_moveUnits_11 (by decide +kernel) dX11_moveUnits_14 ?_
      refine z_iload_n C dX11_moveUnits_17 rfl 1 rfl ?_
      refine z_aload_n C dX11_moveUnits_18 rfl 0 rfl ?_
      refine cg_StillStars_parts C uX11_moveUnits_11 (by decide +kernel) dX11_moveUnits_19 ?_
      refine z_iload_n C dX11_moveUnits_22 rfl 1 rfl ?_
      obtain ⟨q4, h5, hf⟩ := z_bind hf
      refine z_callVi C (rest := [.int v1, .ref (a 3)]) (tX6_unitsOf (ze_l E) (ze_D E) t a h5) gX11_moveUnits_X6_unitsOf rfl hdX6_unitsOf ⟨(Nat.le_of_ble_eq_true rfl), (Nat.le_of_ble_eq_true rfl)⟩ ⟨Nat.zero_le _, Nat.zero_le _⟩ 7 cw_at_7 rfl rfl rfl (Nat.le_of_ble_eq_true rfl) dX11_moveUnits_23 ?_
      refine z_aload_n C dX11_moveUnits_26 rfl 0 rfl ?_
      refine cg_StillStars_settings C uX11_moveUnits_11 (by decide +kernel) dX11_moveUnits_27 ?_
      refine z_iconst C dX11_moveUnits_30 3 rfl ?_
      obtain ⟨q6, h7, hf⟩ := z_bind hf
      refine z_callVi C (rest := [.int q4.1, .int v1, .ref (a 3)]) (tX7_get (ze_l E) (ze_D E) t a h7) gX11_moveUnits_X7_get rfl hdX7_get ⟨(Nat.le_of_ble_eq_true rfl), (Nat.le_of_ble_eq_true rfl)⟩ ⟨Nat.zero_le _, Nat.zero_le _⟩ 8 cw_at_8 rfl rfl rfl (Nat.le_of_ble_eq_true rfl) dX11_moveUnits_31 ?_
      refine z_aload_n C dX11_moveUnits_34 rfl 0 rfl ?_
      refine cg_StillStars_bends C uX11_moveUnits_11 (by decide +kernel) dX11_moveUnits_35 ?_
      refine z_iload_n C dX11_moveUnits_38 rfl 1 rfl ?_
      obtain ⟨q8, h9, hf⟩ := z_bind hf
      refine z_callVi C (rest := [.int q6.1, .int q4.1, .int v1, .ref (a 3)]) (tX0_rounded (ze_l E) (ze_D E) t a h9) gX11_moveUnits_X0_rounded rfl hdX0_rounded ⟨(Nat.le_of_ble_eq_true rfl), (Nat.le_of_ble_eq_true rfl)⟩ ⟨Nat.zero_le _, Nat.zero_le _⟩ 1 cw_at_1 rfl rfl rfl (Nat.le_of_ble_eq_true rfl) dX11_moveUnits_39 ?_
      refine z_imul C dX11_moveUnits_42 ?_
      refine z_bipush C dX11_moveUnits_43 100 rfl ?_
      obtain ⟨h10, hf⟩ := z_div hf
      refine z_idiv C h10 dX11_moveUnits_45 ?_
      refine z_isub C dX11_moveUnits_46 ?_
      obtain ⟨q11, h12, hf⟩ := z_bind hf
      refine z_callVv C (rest := []) (tX2_wish (ze_l E) (ze_D E) t a h12) gX11_moveUnits_X2_wish rfl hdX2_wish ⟨(Nat.le_of_ble_eq_true rfl), (Nat.le_of_ble_eq_true rfl)⟩ ⟨Nat.zero_le _, Nat.zero_le _⟩ 3 cw_at_3 rfl rfl rfl (Nat.le_of_ble_eq_true rfl) dX11_moveUnits_47 ?_
      refine z_iinc C (v1 + 1) [(1, .int (v1 + 1)), (0, .ref (a 0))] dX11_moveUnits_50 1 rfl rfl (by decide) rfl ?_
      refine z_goto C 2 dX11_moveUnits_53 (by decide) ?_
      exact z_sub [1, 0] rfl (ih _ _ hf)
theorem hdX11_moveUnits : yX11_moveUnits.cls = RX11 ∧ yX11_moveUnits.cls ≠ "java/lang/invoke/MethodHandle" ∧ yX11_moveUnits.cls ≠ "java/lang/invoke/VarHandle" ∧ (parseMethodDescriptor yX11_moveUnits.desc).map (fun d => d.parameters.length) = some 0 := by decide +kernel
set_option maxHeartbeats 4000000 in
set_option maxRecDepth 100000 in
theorem tX11_moveUnits (l : Launch) (D : va_G) (t : zTy) (a : Nat → Nat)  {x : ST} {out : Int32 × ST} (hf : fX11_moveUnits  x = some out) : zMi l yX11_moveUnits wsX11_moveUnits 5 111 D t [.ref (a 0)] (CW t a x) out.1 (CW t a out.2) := by
  refine z_entry_z (cc := cX11_moveUnits) (nL := 4) (by decide) rfl (Nat.le_of_ble_eq_true rfl) (fun E _ _ C R => ?_)
  refine z_sub (lv' := [(0, .ref (a 0))]) [0] rfl ?_
  rw [fX11_moveUnits] at hf
  refine z_iconst C dX11_moveUnits_0 0 rfl ?_
  refine z_istore_n C [(1, .int 0), (0, .ref (a 0))] dX11_moveUnits_1 rfl (by decide) rfl ?_
  exact z_sub [1, 0] rfl (kX11_moveUnits_2 E t a out C R 200 _ _ hf)
theorem uX11_frames_11 : ∀ w ∈ wsX110, w ∈ wsX11_frames := by decide +kernel
set_option maxHeartbeats 4000000 in
set_option maxRecDepth 100000 in
theorem kX11_frames_97 (E : zE) (t : zTy) (a : Nat → Nat) (out : Int32 × ST) (C : zC E cX11_frames 6 RX11 wsX11_frames (zrm 6 142) t) (R : zRi E cX11_frames 6 out.1 (CW t a out.2)) (kb45 : Int32 → Int32 → Int32 → Int32 → ST → Option (Int32 × ST)) (Kb45 : ∀ (v1 : Int32) (v2 : Int32) (v3 : Int32) (v4 : Int32) (x : ST), kb45 v1 v2 v3 v4 x = some out → zG E 6 0 0 (CW t a x) 45 [(0, .ref (a 0)), (1, .int v1), (2, .int v2), (3, .int v3), (4, .int v4)] []) : ∀ (v1 : Int32) (v2 : Int32) (v3 : Int32) (v4 : Int32) (x : ST), fX11_frames_97 kb45 v1 v2 v3 v4 x = some out → zG E 6 0 0 (CW t a x) 97 [(0, .ref (a 0)), (1, .int v1), (2, .int v2), (3, .int v3), (4, .int v4)] [] := by
  intro v1 v2 v3 v4 x hf
  rw [fX11_frames_97] at hf
  refine z_aload_n C dX11_frames_97 rfl 0 rfl ?_
  refine cg_StillStars_book C uX11_frames_11 (by decide +kernel) dX11_frames_98 ?_
  refine z_aload_n C dX11_frames_101 rfl 0 rfl ?_
  refine cg_StillStars_keeper C uX11_frames_11 (by decide +kernel) dX11_frames_102 ?_
  obtain ⟨q26, h27, hf⟩ := z_bind hf
  refine z_callVi C (rest := [.ref (a 2)]) (tX3_now (ze_l E) (ze_D E) t a h27) gX11_frames_X3_now rfl hdX3_now ⟨(Nat.le_of_ble_eq_true rfl), (Nat.le_of_ble_eq_true rfl)⟩ ⟨Nat.zero_le _, Nat.zero_le _⟩ 4 cw_at_4 rfl rfl rfl (Nat.le_of_ble_eq_true rfl) dX11_frames_105 ?_
  refine z_aload_n C dX11_frames_108 rfl 0 rfl ?_
  refine cg_StillStars_spots C uX11_frames_11 (by decide +kernel) dX11_frames_109 ?_
  obtain ⟨q28, h29, hf⟩ := z_bind hf
  refine z_callVi C (rest := [.int q26.1, .ref (a 2)]) (tX9_lostOnes (ze_l E) (ze_D E) t a h29) gX11_frames_X9_lostOnes rfl hdX9_lostOnes ⟨(Nat.le_of_ble_eq_true rfl), (Nat.le_of_ble_eq_true rfl)⟩ ⟨Nat.zero_le _, Nat.zero_le _⟩ 10 cw_at_10 rfl rfl rfl (Nat.le_of_ble_eq_true rfl) dX11_frames_112 ?_
  refine z_aload_n C dX11_frames_115 rfl 0 rfl ?_
  refine cg_StillStars_parts C uX11_frames_11 (by decide +kernel) dX11_frames_116 ?_
  obtain ⟨q30, h31, hf⟩ := z_bind hf
  refine z_callVi C (rest := [.int q28.1, .int q26.1, .ref (a 2)]) (tX6_sum (ze_l E) (ze_D E) t a h31) gX11_frames_X6_sum rfl hdX6_sum ⟨(Nat.le_of_ble_eq_true rfl), (Nat.le_of_ble_eq_true rfl)⟩ ⟨Nat.zero_le _, Nat.zero_le _⟩ 7 cw_at_7 rfl rfl rfl (Nat.le_of_ble_eq_true rfl) dX11_frames_119 ?_
  obtain ⟨q32, h33, hf⟩ := z_bind hf
  refine z_callVv C (rest := []) (tX1_note (ze_l E) (ze_D E) t a h33) gX11_frames_X1_note rfl hdX1_note ⟨(Nat.le_of_ble_eq_true rfl), (Nat.le_of_ble_eq_true rfl)⟩ ⟨Nat.zero_le _, Nat.zero_le _⟩ 2 cw_at_2 rfl rfl rfl (Nat.le_of_ble_eq_true rfl) dX11_frames_122 ?_
  refine z_iinc C (v4 + 1) [(4, .int (v4 + 1)), (0, .ref (a 0)), (1, .int v1), (2, .int v2), (3, .int v3)] dX11_frames_125 4 rfl rfl (by decide) rfl ?_
  refine z_goto C 45 dX11_frames_128 (by decide) ?_
  exact z_sub [1, 2, 3, 4, 0] rfl (Kb45 _ _ _ _ _ hf)
set_option maxHeartbeats 4000000 in
set_option maxRecDepth 100000 in
theorem kX11_frames_78 (E : zE) (t : zTy) (a : Nat → Nat) (out : Int32 × ST) (C : zC E cX11_frames 6 RX11 wsX11_frames (zrm 6 142) t) (R : zRi E cX11_frames 6 out.1 (CW t a out.2)) (kb45 : Int32 → Int32 → Int32 → Int32 → ST → Option (Int32 × ST)) (Kb45 : ∀ (v1 : Int32) (v2 : Int32) (v3 : Int32) (v4 : Int32) (x : ST), kb45 v1 v2 v3 v4 x = some out → zG E 6 0 0 (CW t a x) 45 [(0, .ref (a 0)), (1, .int v1), (2, .int v2), (3, .int v3), (4, .int v4)] []) : ∀ (v1 : Int32) (v2 : Int32) (v3 : Int32) (v4 : Int32) (v5 : Int32) (x : ST), fX11_frames_78 kb45 v1 v2 v3 v4 v5 x = some out → zG E 6 0 0 (CW t a x) 78 [(0, .ref (a 0)), (1, .int v1), (2, .int v2), (3, .int v3), (4, .int v4), (5, .int v5)] [] := by
  intro v1 v2 v3 v4 v5 x hf
  rw [fX11_frames_78] at hf
  refine z_iload C dX11_frames_78 5 rfl ?_
  refine z_iconst C dX11_frames_80 2 rfl ?_
  refine z_icmp_ne C 97 dX11_frames_81 (by decide) (fun c21 => ?_) (fun c21 => ?_)
  · replace hf := z_iff c21 hf
    exact z_sub [0, 1, 2, 3, 4] rfl (kX11_frames_97 E t a out C R (kb45) (Kb45) _ _ _ _ _ hf)
  · replace hf := z_ift c21 hf
    refine z_iload_n C dX11_frames_84 rfl 2 rfl ?_
    refine z_if_eq C 97 dX11_frames_85 (by decide) (fun c22 => ?_) (fun c22 => ?_)
    · replace hf := z_ift c22 hf
      exact z_sub [0, 1, 2, 3, 4] rfl (kX11_frames_97 E t a out C R (kb45) (Kb45) _ _ _ _ _ hf)
    · replace hf := z_iff c22 hf
      refine z_iload_n C dX11_frames_88 rfl 3 rfl ?_
      refine z_if_eq C 97 dX11_frames_89 (by decide) (fun c23 => ?_) (fun c23 => ?_)
      · replace hf := z_ift c23 hf
        exact z_sub [0, 1, 2, 3, 4] rfl (kX11_frames_97 E t a out C R (kb45) (Kb45) _ _ _ _ _ hf)
      · replace hf := z_iff c23 hf
        refine z_aload_n C dX11_frames_92 rfl 0 rfl ?_
        obtain ⟨q24, h25, hf⟩ := z_bind hf
        refine z_callVi C (rest := []) (tX11_moveUnits (ze_l E) (ze_D E) t a h25) gX11_frames_X11_moveUnits rfl hdX11_moveUnits ⟨(Nat.le_of_ble_eq_true rfl), (Nat.le_of_ble_eq_true rfl)⟩ ⟨Nat.zero_le _, Nat.zero_le _⟩ 0 cw_at_0 rfl rfl rfl (Nat.le_of_ble_eq_true rfl) dX11_frames_93 ?_
        refine z_istore_n C [(3, .int q24.1), (0, .ref (a 0)), (1, .int v1), (2, .int v2), (4, .int v4), (5, .int v5)] dX11_frames_96 rfl (by decide) rfl ?_
        exact z_sub [1, 2, 3, 0, 4] rfl (kX11_frames_97 E t a out C R (kb45) (Kb45) _ _ _ _ _ hf)
set_option maxHeartbeats 4000000 in
set_option maxRecDepth 100000 in
theorem kX11_frames_131 (E : zE) (t : zTy) (a : Nat → Nat) (out : Int32 × ST) (C : zC E cX11_frames 6 RX11 wsX11_frames (zrm 6 142) t) (R : zRi E cX11_frames 6 out.1 (CW t a out.2)) : ∀ (x : ST), fX11_frames_131 x = some out → zG E 6 0 0 (CW t a x) 131 [(0, .ref (a 0))] [] := by
  intro x hf
  rw [fX11_frames_131] at hf
  refine z_aload_n C dX11_frames_131 rfl 0 rfl ?_
  refine cg_StillStars_keeper C uX11_frames_11 (by decide +kernel) dX11_frames_132 ?_
  obtain ⟨q19, h20, hf⟩ := z_bind hf
  refine z_callVi C (rest := []) (tX3_now (ze_l E) (ze_D E) t a h20) gX11_frames_X3_now rfl hdX3_now ⟨(Nat.le_of_ble_eq_true rfl), (Nat.le_of_ble_eq_true rfl)⟩ ⟨Nat.zero_le _, Nat.zero_le _⟩ 4 cw_at_4 rfl rfl rfl (Nat.le_of_ble_eq_true rfl) dX11_frames_135 ?_
  cases hf
  exact R _ _ dX11_frames_138
set_option maxHeartbeats 4000000 in
set_option maxRecDepth 100000 in
theorem kX11_frames_45 (E : zE) (t : zTy) (a : Nat → Nat) (out : Int32 × ST) (C : zC E cX11_frames 6 RX11 wsX11_frames (zrm 6 142) t) (R : zRi E cX11_frames 6 out.1 (CW t a out.2)) : ∀ (n : Nat) (v1 : Int32) (v2 : Int32) (v3 : Int32) (v4 : Int32) (x : ST), fX11_frames_45 n v1 v2 v3 v4 x = some out → zG E 6 0 0 (CW t a x) 45 [(0, .ref (a 0)), (1, .int v1), (2, .int v2), (3, .int v3), (4, .int v4)] [] := by
  intro n
  induction n with
  | zero =>
    intro v1 v2 v3 v4 x hf
    cases hf
  | succ n ih =>
    intro v1 v2 v3 v4 x hf
    rw [fX11_frames_45] at hf
    refine z_iload C dX11_frames_45 4 rfl ?_
    refine z_iload_n C dX11_frames_47 rfl 1 rfl ?_
    refine z_icmp_ge C 131 dX11_frames_48 (by decide) (fun c11 => ?_) (fun c11 => ?_)
    · replace hf := z_ift c11 hf
      exact z_sub [0] rfl (kX11_frames_131 E t a out C R _ hf)
    · replace hf := z_iff c11 hf
      refine z_aload_n C dX11_frames_51 rfl 0 rfl ?_
      refine cg_StillStars_keeper C uX11_frames_11 (by decide +kernel) dX11_frames_52 ?_
      obtain ⟨q12, h13, hf⟩ := z_bind hf
      refine z_callVi C (rest := []) (tX3_now (ze_l E) (ze_D E) t a h13) gX11_frames_X3_now rfl hdX3_now ⟨(Nat.le_of_ble_eq_true rfl), (Nat.le_of_ble_eq_true rfl)⟩ ⟨Nat.zero_le _, Nat.zero_le _⟩ 4 cw_at_4 rfl rfl rfl (Nat.le_of_ble_eq_true rfl) dX11_frames_55 ?_
      refine z_istore C [(5, .int q12.1), (0, .ref (a 0)), (1, .int v1), (2, .int v2), (3, .int v3), (4, .int v4)] dX11_frames_58 (by decide) rfl ?_
      refine z_aload_n C dX11_frames_60 rfl 1 rfl ?_
      refine cg_StillStars_keeper C uX11_frames_11 (by decide +kernel) dX11_frames_61 ?_
      refine z_iload_n C dX11_frames_64 rfl 3 rfl ?_
      obtain ⟨q14, h15, hf⟩ := z_bind hf
      refine z_callVi C (rest := []) (tX3_pass (ze_l E) (ze_D E) t a h15) gX11_frames_X3_pass rfl hdX3_pass ⟨(Nat.le_of_ble_eq_true rfl), (Nat.le_of_ble_eq_true rfl)⟩ ⟨Nat.zero_le _, Nat.zero_le _⟩ 4 cw_at_4 rfl rfl rfl (Nat.le_of_ble_eq_true rfl) dX11_frames_65 ?_
      refine z_if_eq C 78 dX11_frames_68 (by decide) (fun c16 => ?_) (fun c16 => ?_)
      · replace hf := z_ift c16 hf
        exact z_sub [1, 2, 3, 4, 5, 0] rfl (kX11_frames_78 E t a out C R (fX11_frames_45 n) (ih) _ _ _ _ _ _ hf)
      · replace hf := z_iff c16 hf
        refine z_aload_n C dX11_frames_71 rfl 1 rfl ?_
        refine cg_StillStars_parts C uX11_frames_11 (by decide +kernel) dX11_frames_72 ?_
        obtain ⟨q17, h18, hf⟩ := z_bind hf
        refine z_callVv C (rest := []) (tX6_level (ze_l E) (ze_D E) t a h18) gX11_frames_X6_level rfl hdX6_level ⟨(Nat.le_of_ble_eq_true rfl), (Nat.le_of_ble_eq_true rfl)⟩ ⟨Nat.zero_le _, Nat.zero_le _⟩ 7 cw_at_7 rfl rfl rfl (Nat.le_of_ble_eq_true rfl) dX11_frames_75 ?_
        exact z_sub [1, 2, 3, 4, 5, 0] rfl (kX11_frames_78 E t a out C R (fX11_frames_45 n) (ih) _ _ _ _ _ _ hf)
set_option maxHeartbeats 4000000 in
set_option maxRecDepth 100000 in
theorem kX11_frames_39 (E : zE) (t : zTy) (a : Nat → Nat) (out : Int32 × ST) (C : zC E cX11_frames 6 RX11 wsX11_frames (zrm 6 142) t) (R : zRi E cX11_frames 6 out.1 (CW t a out.2)) : ∀ (v1 : Int32) (s0 : Int32) (x : ST), fX11_frames_39 v1 s0 x = some out → zG E 6 0 0 (CW t a x) 39 [(0, .ref (a 0)), (1, .int v1)] [.int s0] := by
  intro v1 s0 x hf
  rw [fX11_frames_39] at hf
  refine z_istore_n C [(2, .int s0), (0, .ref (a 0)), (1, .int v1)] dX11_frames_39 rfl (by decide) rfl ?_
  refine z_iconst C dX11_frames_40 1 rfl ?_
  refine z_istore_n C [(3, .int 1), (2, .int s0), (0, .ref (a 0)), (1, .int v1)] dX11_frames_41 rfl (by decide) rfl ?_
  refine z_iconst C dX11_frames_42 0 rfl ?_
  refine z_istore C [(4, .int 0), (3, .int 1), (2, .int s0), (0, .ref (a 0)), (1, .int v1)] dX11_frames_43 (by decide) rfl ?_
  exact z_sub [3, 4, 2, 1, 0] rfl (kX11_frames_45 E t a out C R 200 _ _ _ _ _ hf)
theorem hdX11_frames : yX11_frames.cls = RX11 ∧ yX11_frames.cls ≠ "java/lang/invoke/MethodHandle" ∧ yX11_frames.cls ≠ "java/lang/invoke/VarHandle" ∧ (parseMethodDescriptor yX11_frames.desc).map (fun d => d.parameters.length) = some 1 := by decide +kernel
set_option maxHeartbeats 4000000 in
set_option maxRecDepth 100000 in
theorem tX11_frames (l : Launch) (D : va_G) (t : zTy) (a : Nat → Nat) {v1 : Int32} {x : ST} {out : Int32 × ST} (hf : fX11_frames v1 x = some out) : zMi l yX11_frames wsX11_frames 6 142 D t [.ref (a 0), .int v1] (CW t a x) out.1 (CW t a out.2) := by
  refine z_entry_i (cc := cX11_frames) (nL := 6) (by decide) rfl (Nat.le_of_ble_eq_true rfl) (fun E _ _ C R => ?_)
  refine z_sub (lv' := [(0, .ref (a 0)), (1, .int v1)]) [0, 1] rfl ?_
  rw [fX11_frames] at hf
  refine z_iload_n C dX11_frames_0 rfl 1 rfl ?_
  refine z_iconst C dX11_frames_1 1 rfl ?_
  refine z_bipush C dX11_frames_2 100 rfl ?_
  obtain ⟨q1, h2, hf⟩ := z_bind hf
  refine z_callSi C (rest := []) (tX11_within (ze_l E) (ze_D E) t _ h2) gX11_frames_X11_within rfl hdX11_within ⟨(Nat.le_of_ble_eq_true rfl), (Nat.le_of_ble_eq_true rfl)⟩ ⟨Nat.zero_le _, Nat.zero_le _⟩ rfl rfl (Nat.le_of_ble_eq_true rfl) dX11_frames_4 ?_
  refine z_if_ne C 12 dX11_frames_7 (by decide) (fun c3 => ?_) (fun c3 => ?_)
  · replace hf := z_iff c3 hf
    refine z_aload_n C dX11_frames_12 rfl 0 rfl ?_
    obtain ⟨q4, h5, hf⟩ := z_bind hf
    refine z_callVv C (rest := []) (tX11_findBends (ze_l E) (ze_D E) t a h5) gX11_frames_X11_findBends rfl hdX11_findBends ⟨(Nat.le_of_ble_eq_true rfl), (Nat.le_of_ble_eq_true rfl)⟩ ⟨Nat.zero_le _, Nat.zero_le _⟩ 0 cw_at_0 rfl rfl rfl (Nat.le_of_ble_eq_true rfl) dX11_frames_13 ?_
    refine z_aload_n C dX11_frames_16 rfl 0 rfl ?_
    refine cg_StillStars_spots C uX11_frames_11 (by decide +kernel) dX11_frames_17 ?_
    obtain ⟨q6, h7, hf⟩ := z_bind hf
    refine z_callVi C (rest := []) (tX9_lostOnes (ze_l E) (ze_D E) t a h7) gX11_frames_X9_lostOnes rfl hdX9_lostOnes ⟨(Nat.le_of_ble_eq_true rfl), (Nat.le_of_ble_eq_true rfl)⟩ ⟨Nat.zero_le _, Nat.zero_le _⟩ 10 cw_at_10 rfl rfl rfl (Nat.le_of_ble_eq_true rfl) dX11_frames_20 ?_
    refine z_aload_n C dX11_frames_23 rfl 0 rfl ?_
    refine cg_StillStars_settings C uX11_frames_11 (by decide +kernel) dX11_frames_24 ?_
    refine z_iconst C dX11_frames_27 2 rfl ?_
    obtain ⟨q8, h9, hf⟩ := z_bind hf
    refine z_callVi C (rest := [.int q6.1]) (tX7_get (ze_l E) (ze_D E) t a h9) gX11_frames_X7_get rfl hdX7_get ⟨(Nat.le_of_ble_eq_true rfl), (Nat.le_of_ble_eq_true rfl)⟩ ⟨Nat.zero_le _, Nat.zero_le _⟩ 8 cw_at_8 rfl rfl rfl (Nat.le_of_ble_eq_true rfl) dX11_frames_28 ?_
    refine z_icmp_gt C 38 dX11_frames_31 (by decide) (fun c10 => ?_) (fun c10 => ?_)
    · replace hf := z_ift c10 hf
      refine z_iconst C dX11_frames_38 0 rfl ?_
      exact z_sub [0, 1] rfl (kX11_frames_39 E t a out C R _ _ _ hf)
    · replace hf := z_iff c10 hf
      refine z_iconst C dX11_frames_34 1 rfl ?_
      refine z_goto C 39 dX11_frames_35 (by decide) ?_
      exact z_sub [0, 1] rfl (kX11_frames_39 E t a out C R _ _ _ hf)
  · replace hf := z_ift c3 hf
    refine z_iconst C dX11_frames_10 (-1) rfl ?_
    cases hf
    exact R _ _ dX11_frames_11
theorem uX11_state_11 : ∀ w ∈ wsX110, w ∈ wsX11_state := by decide +kernel
theorem hdX11_state : yX11_state.cls = RX11 ∧ yX11_state.cls ≠ "java/lang/invoke/MethodHandle" ∧ yX11_state.cls ≠ "java/lang/invoke/VarHandle" ∧ (parseMethodDescriptor yX11_state.desc).map (fun d => d.parameters.length) = some 1 := by decide +kernel
set_option maxHeartbeats 4000000 in
set_option maxRecDepth 100000 in
theorem tX11_state (l : Launch) (D : va_G) (t : zTy) (a : Nat → Nat) {v1 : Int32} {x : ST} {out : Int32 × ST} (hf : fX11_state v1 x = some out) : zMi l yX11_state wsX11_state 1 22 D t [.ref (a 0), .int v1] (CW t a x) out.1 (CW t a out.2) := by
  refine z_entry_i (cc := cX11_state) (nL := 3) (by decide) rfl (Nat.le_of_ble_eq_true rfl) (fun E _ _ C R => ?_)
  refine z_sub (lv' := [(0, .ref (a 0)), (1, .int v1)]) [0, 1] rfl ?_
  rw [fX11_state] at hf
  refine z_aload_n C dX11_state_0 rfl 0 rfl ?_
  refine cg_StillStars_parts C uX11_state_11 (by decide +kernel) dX11_state_1 ?_
  obtain ⟨q1, h2, hf⟩ := z_bind hf
  refine z_callVi C (rest := []) (tX6_count (ze_l E) (ze_D E) t a h2) gX11_state_X6_count rfl hdX6_count ⟨(Nat.le_of_ble_eq_true rfl), (Nat.le_of_ble_eq_true rfl)⟩ ⟨Nat.zero_le _, Nat.zero_le _⟩ 7 cw_at_7 rfl rfl rfl (Nat.le_of_ble_eq_true rfl) dX11_state_4 ?_
  refine z_istore_n C [(2, .int q1.1), (0, .ref (a 0)), (1, .int v1)] dX11_state_7 rfl (by decide) rfl ?_
  refine z_iload_n C dX11_state_8 rfl 2 rfl ?_
  refine z_iconst C dX11_state_9 0 rfl ?_
  refine z_iload_n C dX11_state_10 rfl 0 rfl ?_
  refine z_iconst C dX11_state_11 2 rfl ?_
  refine z_iadd C dX11_state_12 ?_
  obtain ⟨q3, h4, hf⟩ := z_bind hf
  refine z_callSi C (rest := []) (tX11_within (ze_l E) (ze_D E) t _ h4) gX11_state_X11_within rfl hdX11_within ⟨(Nat.le_of_ble_eq_true rfl), (Nat.le_of_ble_eq_true rfl)⟩ ⟨Nat.zero_le _, Nat.zero_le _⟩ rfl rfl (Nat.le_of_ble_eq_true rfl) dX11_state_13 ?_
  refine z_if_ne C 23 dX11_state_16 (by decide) (fun c5 => ?_) (fun c5 => ?_)
  · replace hf := z_iff c5 hf
    refine z_iload_n C dX11_state_23 rfl 2 rfl ?_
    refine z_iload_n C dX11_state_24 rfl 0 rfl ?_
    refine z_icmp_ge C 37 dX11_state_25 (by decide) (fun c6 => ?_) (fun c6 => ?_)
    · replace hf := z_ift c6 hf
      refine z_iload_n C dX11_state_37 rfl 2 rfl ?_
      refine z_iload_n C dX11_state_38 rfl 0 rfl ?_
      refine z_icmp_ne C 50 dX11_state_39 (by decide) (fun c7 => ?_) (fun c7 => ?_)
      · replace hf := z_iff c7 hf
        refine z_iload_n C dX11_state_50 rfl 2 rfl ?_
        refine z_iload_n C dX11_state_51 rfl 0 rfl ?_
        refine z_iconst C dX11_state_52 1 rfl ?_
        refine z_iadd C dX11_state_53 ?_
        refine z_icmp_ne C 67 dX11_state_54 (by decide) (fun c8 => ?_) (fun c8 => ?_)
        · replace hf := z_iff c8 hf
          refine z_aload_n C dX11_state_67 rfl 1 rfl ?_
          refine cg_StillStars_keeper C uX11_state_11 (by decide +kernel) dX11_state_68 ?_
          obtain ⟨q9, h10, hf⟩ := z_bind hf
          refine z_callVi C (rest := []) (tX3_done (ze_l E) (ze_D E) t a h10) gX11_state_X3_done rfl hdX3_done ⟨(Nat.le_of_ble_eq_true rfl), (Nat.le_of_ble_eq_true rfl)⟩ ⟨Nat.zero_le _, Nat.zero_le _⟩ 4 cw_at_4 rfl rfl rfl (Nat.le_of_ble_eq_true rfl) dX11_state_71 ?_
          cases hf
          exact R _ _ dX11_state_74
        · replace hf := z_ift c8 hf
          refine z_aload_n C dX11_state_57 rfl 1 rfl ?_
          refine cg_StillStars_keeper C uX11_state_11 (by decide +kernel) dX11_state_58 ?_
          obtain ⟨q11, h12, hf⟩ := z_bind hf
          refine z_callVi C (rest := []) (tX3_now (ze_l E) (ze_D E) t a h12) gX11_state_X3_now rfl hdX3_now ⟨(Nat.le_of_ble_eq_true rfl), (Nat.le_of_ble_eq_true rfl)⟩ ⟨Nat.zero_le _, Nat.zero_le _⟩ 4 cw_at_4 rfl rfl rfl (Nat.le_of_ble_eq_true rfl) dX11_state_61 ?_
          refine z_goto C 74 dX11_state_64 (by decide) ?_
          cases hf
          exact R _ _ dX11_state_74
      · replace hf := z_ift c7 hf
        refine z_aload_n C dX11_state_42 rfl 1 rfl ?_
        refine cg_StillStars_parts C uX11_state_11 (by decide +kernel) dX11_state_43 ?_
        obtain ⟨q13, h14, hf⟩ := z_bind hf
        refine z_callVi C (rest := []) (tX6_tip (ze_l E) (ze_D E) t a h14) gX11_state_X6_tip rfl hdX6_tip ⟨(Nat.le_of_ble_eq_true rfl), (Nat.le_of_ble_eq_true rfl)⟩ ⟨Nat.zero_le _, Nat.zero_le _⟩ 7 cw_at_7 rfl rfl rfl (Nat.le_of_ble_eq_true rfl) dX11_state_46 ?_
        cases hf
        exact R _ _ dX11_state_49
    · replace hf := z_iff c6 hf
      refine z_aload_n C dX11_state_28 rfl 1 rfl ?_
      refine cg_StillStars_parts C uX11_state_11 (by decide +kernel) dX11_state_29 ?_
      refine z_iload_n C dX11_state_32 rfl 2 rfl ?_
      obtain ⟨q15, h16, hf⟩ := z_bind hf
      refine z_callVi C (rest := []) (tX6_unitsOf (ze_l E) (ze_D E) t a h16) gX11_state_X6_unitsOf rfl hdX6_unitsOf ⟨(Nat.le_of_ble_eq_true rfl), (Nat.le_of_ble_eq_true rfl)⟩ ⟨Nat.zero_le _, Nat.zero_le _⟩ 7 cw_at_7 rfl rfl rfl (Nat.le_of_ble_eq_true rfl) dX11_state_33 ?_
      cases hf
      exact R _ _ dX11_state_36
  · replace hf := z_ift c5 hf
    refine z_sipush C dX11_state_19 (-10001) rfl ?_
    cases hf
    exact R _ _ dX11_state_22

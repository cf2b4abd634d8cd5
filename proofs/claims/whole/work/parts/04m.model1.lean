theorem uX12_begin_12 : ∀ w ∈ wsX120, w ∈ wsX12_begin := by decide +kernel
set_option maxHeartbeats 4000000 in
set_option maxRecDepth 100000 in
theorem kX12_begin_110 (E : zE) (t : zTy) (a : Nat → Nat) (out : ST) (C : zC E cX12_begin 4 RX12 wsX12_begin (zrm 0 0) t) (R : zRv E cX12_begin 4 (MW t a out)) : ∀ (x : ST), fX12_begin_110 x = some out → zG E 4 0 0 (MW t a x) 110 [(0, .ref (a 0))] [] := by
  intro x hf
  rw [fX12_begin_110] at hf
  refine z_aload_n C dX12_begin_110 rfl 0 rfl ?_
  refine z_iconst C dX12_begin_111 0 rfl ?_
  refine mp_StillStarsModel_tip C uX12_begin_12 (by decide +kernel) dX12_begin_112 ?_
  refine z_aload_n C dX12_begin_115 rfl 0 rfl ?_
  refine z_iconst C dX12_begin_116 0 rfl ?_
  refine mp_StillStarsModel_state C uX12_begin_12 (by decide +kernel) dX12_begin_117 ?_
  refine z_aload_n C dX12_begin_120 rfl 0 rfl ?_
  refine z_iconst C dX12_begin_121 0 rfl ?_
  refine mp_StillStarsModel_good C uX12_begin_12 (by decide +kernel) dX12_begin_122 ?_
  refine z_aload_n C dX12_begin_125 rfl 0 rfl ?_
  refine z_iconst C dX12_begin_126 0 rfl ?_
  refine mp_StillStarsModel_found C uX12_begin_12 (by decide +kernel) dX12_begin_127 ?_
  refine z_aload_n C dX12_begin_130 rfl 0 rfl ?_
  refine z_iconst C dX12_begin_131 0 rfl ?_
  refine mp_StillStarsModel_framesDone C uX12_begin_12 (by decide +kernel) dX12_begin_132 ?_
  cases hf
  exact R _ _ dX12_begin_135
set_option maxHeartbeats 4000000 in
set_option maxRecDepth 100000 in
theorem kX12_begin_78 (E : zE) (t : zTy) (a : Nat → Nat) (out : ST) (C : zC E cX12_begin 4 RX12 wsX12_begin (zrm 0 0) t) (R : zRv E cX12_begin 4 (MW t a out)) : ∀ (n : Nat) (v3 : Int32) (x : ST), fX12_begin_78 n v3 x = some out → zG E 4 0 0 (MW t a x) 78 [(0, .ref (a 0)), (3, .int v3)] [] := by
  intro n
  induction n with
  | zero =>
    intro v3 x hf
    cases hf
  | succ n ih =>
    intro v3 x hf
    rw [fX12_begin_78] at hf
    refine z_iload_n C dX12_begin_78 rfl 1 rfl ?_
    refine z_iconst C dX12_begin_79 5 rfl ?_
    refine z_icmp_ge C 110 dX12_begin_80 (by decide) (fun c7 => ?_) (fun c7 => ?_)
    · replace hf := z_ift c7 hf
      exact z_sub [0] rfl (kX12_begin_110 E t a out C R _ hf)
    · replace hf := z_iff c7 hf
      refine z_aload_n C dX12_begin_83 rfl 0 rfl ?_
      refine mg_StillStarsModel_pokeMany C uX12_begin_12 (by decide +kernel) dX12_begin_84 ?_
      refine z_iload_n C dX12_begin_87 rfl 1 rfl ?_
      refine z_iconst C dX12_begin_88 0 rfl ?_
      obtain ⟨h8, hf⟩ := z_some hf
      refine z_iast C 7 mw_at_7 h8 (w' := MW t a (sA x 7 v3 0)) mw_up_7 dX12_begin_89 ?_
      refine z_aload_n C dX12_begin_90 rfl 0 rfl ?_
      refine mg_StillStarsModel_isDead C uX12_begin_12 (by decide +kernel) dX12_begin_91 ?_
      refine z_iload_n C dX12_begin_94 rfl 1 rfl ?_
      refine z_iconst C dX12_begin_95 0 rfl ?_
      obtain ⟨h9, hf⟩ := z_some hf
      refine z_zast C 10 mw_at_10 h9 (w' := MW t a (sA (sA x 7 v3 0) 10 v3 (vp_nar .boolean 0))) mw_up_10 dX12_begin_96 ?_
      refine z_aload_n C dX12_begin_97 rfl 0 rfl ?_
      refine mg_StillStarsModel_units C uX12_begin_12 (by decide +kernel) dX12_begin_98 ?_
      refine z_iload_n C dX12_begin_101 rfl 1 rfl ?_
      refine z_iconst C dX12_begin_102 0 rfl ?_
      obtain ⟨h10, hf⟩ := z_some hf
      refine z_iast C 19 mw_at_19 h10 (w' := MW t a (sA (sA (sA x 7 v3 0) 10 v3 (vp_nar .boolean 0)) 19 v3 0)) mw_up_19 dX12_begin_103 ?_
      refine z_iinc C (v3 + 1) [(3, .int (v3 + 1)), (0, .ref (a 0))] dX12_begin_104 1 rfl rfl (by decide) rfl ?_
      refine z_goto C 78 dX12_begin_107 (by decide) ?_
      exact z_sub [1, 0] rfl (ih _ _ hf)
set_option maxHeartbeats 4000000 in
set_option maxRecDepth 100000 in
theorem kX12_begin_76 (E : zE) (t : zTy) (a : Nat → Nat) (out : ST) (C : zC E cX12_begin 4 RX12 wsX12_begin (zrm 0 0) t) (R : zRv E cX12_begin 4 (MW t a out)) : ∀ (x : ST), fX12_begin_76 x = some out → zG E 4 0 0 (MW t a x) 76 [(0, .ref (a 0))] [] := by
  intro x hf
  rw [fX12_begin_76] at hf
  refine z_iconst C dX12_begin_76 0 rfl ?_
  refine z_istore_n C [(3, .int 0), (0, .ref (a 0))] dX12_begin_77 rfl (by decide) rfl ?_
  exact z_sub [1, 0] rfl (kX12_begin_78 E t a out C R 200 _ _ hf)
set_option maxHeartbeats 4000000 in
set_option maxRecDepth 100000 in
theorem kX12_begin_57 (E : zE) (t : zTy) (a : Nat → Nat) (out : ST) (C : zC E cX12_begin 4 RX12 wsX12_begin (zrm 0 0) t) (R : zRv E cX12_begin 4 (MW t a out)) : ∀ (n : Nat) (v3 : Int32) (x : ST), fX12_begin_57 n v3 x = some out → zG E 4 0 0 (MW t a x) 57 [(0, .ref (a 0)), (3, .int v3)] [] := by
  intro n
  induction n with
  | zero =>
    intro v3 x hf
    cases hf
  | succ n ih =>
    intro v3 x hf
    rw [fX12_begin_57] at hf
    refine z_iload_n C dX12_begin_57 rfl 1 rfl ?_
    refine z_bipush C dX12_begin_58 40 rfl ?_
    refine z_icmp_ge C 76 dX12_begin_60 (by decide) (fun c5 => ?_) (fun c5 => ?_)
    · replace hf := z_ift c5 hf
      exact z_sub [0] rfl (kX12_begin_76 E t a out C R _ hf)
    · replace hf := z_iff c5 hf
      refine z_aload_n C dX12_begin_63 rfl 0 rfl ?_
      refine mg_StillStarsModel_table C uX12_begin_12 (by decide +kernel) dX12_begin_64 ?_
      refine z_iload_n C dX12_begin_67 rfl 1 rfl ?_
      refine z_iconst C dX12_begin_68 0 rfl ?_
      obtain ⟨h6, hf⟩ := z_some hf
      refine z_iast C 3 mw_at_3 h6 (w' := MW t a (sA x 3 v3 0)) mw_up_3 dX12_begin_69 ?_
      refine z_iinc C (v3 + 1) [(3, .int (v3 + 1)), (0, .ref (a 0))] dX12_begin_70 1 rfl rfl (by decide) rfl ?_
      refine z_goto C 57 dX12_begin_73 (by decide) ?_
      exact z_sub [1, 0] rfl (ih _ _ hf)
set_option maxHeartbeats 4000000 in
set_option maxRecDepth 100000 in
theorem kX12_begin_55 (E : zE) (t : zTy) (a : Nat → Nat) (out : ST) (C : zC E cX12_begin 4 RX12 wsX12_begin (zrm 0 0) t) (R : zRv E cX12_begin 4 (MW t a out)) : ∀ (x : ST), fX12_begin_55 x = some out → zG E 4 0 0 (MW t a x) 55 [(0, .ref (a 0))] [] := by
  intro x hf
  rw [fX12_begin_55] at hf
  refine z_iconst C dX12_begin_55 0 rfl ?_
  refine z_istore_n C [(3, .int 0), (0, .ref (a 0))] dX12_begin_56 rfl (by decide) rfl ?_
  exact z_sub [1, 0] rfl (kX12_begin_57 E t a out C R 200 _ _ hf)
set_option maxHeartbeats 4000000 in
set_option maxRecDepth 100000 in
theorem kX12_begin_34 (E : zE) (t : zTy) (a : Nat → Nat) (out : ST) (C : zC E cX12_begin 4 RX12 wsX12_begin (zrm 0 0) t) (R : zRv E cX12_begin 4 (MW t a out)) : ∀ (n : Nat) (v3 : Int32) (x : ST), fX12_begin_34 n v3 x = some out → zG E 4 0 0 (MW t a x) 34 [(0, .ref (a 0)), (3, .int v3)] [] := by
  intro n
  induction n with
  | zero =>
    intro v3 x hf
    cases hf
  | succ n ih =>
    intro v3 x hf
    rw [fX12_begin_34] at hf
    refine z_iload_n C dX12_begin_34 rfl 1 rfl ?_
    refine z_bipush C dX12_begin_35 8 rfl ?_
    refine z_icmp_ge C 55 dX12_begin_37 (by decide) (fun c3 => ?_) (fun c3 => ?_)
    · replace hf := z_ift c3 hf
      exact z_sub [0] rfl (kX12_begin_55 E t a out C R _ hf)
    · replace hf := z_iff c3 hf
      refine z_aload_n C dX12_begin_40 rfl 0 rfl ?_
      refine mg_StillStarsModel_rests C uX12_begin_12 (by decide +kernel) dX12_begin_41 ?_
      refine z_iload_n C dX12_begin_44 rfl 1 rfl ?_
      refine z_sipush C dX12_begin_45 1500 rfl ?_
      obtain ⟨h4, hf⟩ := z_some hf
      refine z_iast C 2 mw_at_2 h4 (w' := MW t a (sA x 2 v3 1500)) mw_up_2 dX12_begin_48 ?_
      refine z_iinc C (v3 + 1) [(3, .int (v3 + 1)), (0, .ref (a 0))] dX12_begin_49 1 rfl rfl (by decide) rfl ?_
      refine z_goto C 34 dX12_begin_52 (by decide) ?_
      exact z_sub [1, 0] rfl (ih _ _ hf)
set_option maxHeartbeats 4000000 in
set_option maxRecDepth 100000 in
theorem kX12_begin_32 (E : zE) (t : zTy) (a : Nat → Nat) (out : ST) (C : zC E cX12_begin 4 RX12 wsX12_begin (zrm 0 0) t) (R : zRv E cX12_begin 4 (MW t a out)) : ∀ (x : ST), fX12_begin_32 x = some out → zG E 4 0 0 (MW t a x) 32 [(0, .ref (a 0))] [] := by
  intro x hf
  rw [fX12_begin_32] at hf
  refine z_iconst C dX12_begin_32 0 rfl ?_
  refine z_istore_n C [(3, .int 0), (0, .ref (a 0))] dX12_begin_33 rfl (by decide) rfl ?_
  exact z_sub [1, 0] rfl (kX12_begin_34 E t a out C R 200 _ _ hf)
set_option maxHeartbeats 4000000 in
set_option maxRecDepth 100000 in
theorem kX12_begin_12 (E : zE) (t : zTy) (a : Nat → Nat) (out : ST) (C : zC E cX12_begin 4 RX12 wsX12_begin (zrm 0 0) t) (R : zRv E cX12_begin 4 (MW t a out)) : ∀ (n : Nat) (v3 : Int32) (x : ST), fX12_begin_12 n v3 x = some out → zG E 4 0 0 (MW t a x) 12 [(0, .ref (a 0)), (3, .int v3)] [] := by
  intro n
  induction n with
  | zero =>
    intro v3 x hf
    cases hf
  | succ n ih =>
    intro v3 x hf
    rw [fX12_begin_12] at hf
    refine z_iload_n C dX12_begin_12 rfl 1 rfl ?_
    refine z_sipush C dX12_begin_13 128 rfl ?_
    refine z_icmp_ge C 32 dX12_begin_16 (by decide) (fun c1 => ?_) (fun c1 => ?_)
    · replace hf := z_ift c1 hf
      exact z_sub [0] rfl (kX12_begin_32 E t a out C R _ hf)
    · replace hf := z_iff c1 hf
      refine z_aload_n C dX12_begin_19 rfl 0 rfl ?_
      refine mg_StillStarsModel_lights C uX12_begin_12 (by decide +kernel) dX12_begin_20 ?_
      refine z_iload_n C dX12_begin_23 rfl 1 rfl ?_
      refine z_iconst C dX12_begin_24 0 rfl ?_
      obtain ⟨h2, hf⟩ := z_some hf
      refine z_iast C 1 mw_at_1 h2 (w' := MW t a (sA x 1 v3 0)) mw_up_1 dX12_begin_25 ?_
      refine z_iinc C (v3 + 1) [(3, .int (v3 + 1)), (0, .ref (a 0))] dX12_begin_26 1 rfl rfl (by decide) rfl ?_
      refine z_goto C 12 dX12_begin_29 (by decide) ?_
      exact z_sub [1, 0] rfl (ih _ _ hf)
theorem hdX12_begin : yX12_begin.cls = RX12 ∧ yX12_begin.cls ≠ "java/lang/invoke/MethodHandle" ∧ yX12_begin.cls ≠ "java/lang/invoke/VarHandle" ∧ (parseMethodDescriptor yX12_begin.desc).map (fun d => d.parameters.length) = some 2 := by decide +kernel
set_option maxHeartbeats 4000000 in
set_option maxRecDepth 100000 in
theorem tX12_begin (l : Launch) (D : va_G) (t : zTy) (a : Nat → Nat) {v1 : Int32} {v2 : Int32} {x : ST} {out : ST} (hf : fX12_begin v1 v2 x = some out) : zMv l yX12_begin wsX12_begin 0 0 D t [.ref (a 0), .int v1, .int v2] (MW t a x) (MW t a out) := by
  refine z_entry_v (cc := cX12_begin) (nL := 4) (by decide) rfl (Nat.le_of_ble_eq_true rfl) (fun E _ _ C R => ?_)
  refine z_sub (lv' := [(0, .ref (a 0)), (1, .int v1), (2, .int v2)]) [0, 1, 2] rfl ?_
  rw [fX12_begin] at hf
  refine z_aload_n C dX12_begin_0 rfl 0 rfl ?_
  refine z_iload_n C dX12_begin_1 rfl 1 rfl ?_
  refine mp_StillStarsModel_spots C uX12_begin_12 (by decide +kernel) dX12_begin_2 ?_
  refine z_aload_n C dX12_begin_5 rfl 0 rfl ?_
  refine z_iload_n C dX12_begin_6 rfl 2 rfl ?_
  refine mp_StillStarsModel_parts C uX12_begin_12 (by decide +kernel) dX12_begin_7 ?_
  refine z_iconst C dX12_begin_10 0 rfl ?_
  refine z_istore_n C [(3, .int 0), (0, .ref (a 0)), (1, .int v1), (2, .int v2)] dX12_begin_11 rfl (by decide) rfl ?_
  exact z_sub [1, 0] rfl (kX12_begin_12 E t a out C R 200 _ _ hf)
theorem hdX12_mirror : yX12_mirror.cls = RX12 ∧ yX12_mirror.cls ≠ "java/lang/invoke/MethodHandle" ∧ yX12_mirror.cls ≠ "java/lang/invoke/VarHandle" ∧ (parseMethodDescriptor yX12_mirror.desc).map (fun d => d.parameters.length) = some 2 := by decide +kernel
set_option maxHeartbeats 4000000 in
set_option maxRecDepth 100000 in
theorem tX12_mirror (l : Launch) (D : va_G) (t : zTy) (a : Nat → Nat) {v1 : Int32} {v2 : Int32} {x : ST} {out : Int32 × ST} (hf : fX12_mirror v1 v2 x = some out) : zMi l yX12_mirror wsX12_mirror 1 25 D t [.ref (a 0), .int v1, .int v2] (MW t a x) out.1 (MW t a out.2) := by
  refine z_entry_i (cc := cX12_mirror) (nL := 3) (by decide) rfl (Nat.le_of_ble_eq_true rfl) (fun E _ _ C R => ?_)
  refine z_sub (lv' := [(0, .ref (a 0)), (1, .int v1), (2, .int v2)]) [0, 1, 2] rfl ?_
  rw [fX12_mirror] at hf
  refine z_iload_n C dX12_mirror_0 rfl 1 rfl ?_
  refine z_i2l C dX12_mirror_1 ?_
  refine z_lconst C dX12_mirror_2 1 rfl ?_
  refine z_ldc2 C 8 (by decide +kernel) dX12_mirror_3 ?_
  obtain ⟨q1, h2, hf⟩ := z_bind hf
  refine z_callSi C (rest := []) (tX12_in (ze_l E) (ze_D E) t _ h2) gX12_mirror_X12_in rfl hdX12_in ⟨(Nat.le_of_ble_eq_true rfl), (Nat.le_of_ble_eq_true rfl)⟩ ⟨Nat.zero_le _, Nat.zero_le _⟩ rfl rfl (Nat.le_of_ble_eq_true rfl) dX12_mirror_6 ?_
  refine z_if_eq C 24 dX12_mirror_9 (by decide) (fun c3 => ?_) (fun c3 => ?_)
  · replace hf := z_ift c3 hf
    refine z_iconst C dX12_mirror_24 (-1) rfl ?_
    cases hf
    exact R _ _ dX12_mirror_25
  · replace hf := z_iff c3 hf
    refine z_iload_n C dX12_mirror_12 rfl 2 rfl ?_
    refine z_i2l C dX12_mirror_13 ?_
    refine z_lconst C dX12_mirror_14 1 rfl ?_
    refine z_ldc2 C 5 (by decide +kernel) dX12_mirror_15 ?_
    obtain ⟨q4, h5, hf⟩ := z_bind hf
    refine z_callSi C (rest := []) (tX12_in (ze_l E) (ze_D E) t _ h5) gX12_mirror_X12_in rfl hdX12_in ⟨(Nat.le_of_ble_eq_true rfl), (Nat.le_of_ble_eq_true rfl)⟩ ⟨Nat.zero_le _, Nat.zero_le _⟩ rfl rfl (Nat.le_of_ble_eq_true rfl) dX12_mirror_18 ?_
    refine z_if_ne C 26 dX12_mirror_21 (by decide) (fun c6 => ?_) (fun c6 => ?_)
    · replace hf := z_iff c6 hf
      refine z_aload_n C dX12_mirror_26 rfl 0 rfl ?_
      refine z_iload_n C dX12_mirror_27 rfl 1 rfl ?_
      refine z_iload_n C dX12_mirror_28 rfl 2 rfl ?_
      obtain ⟨q7, h8, hf⟩ := z_bind hf
      refine z_callVv C (rest := []) (tX12_begin (ze_l E) (ze_D E) t a h8) gX12_mirror_X12_begin rfl hdX12_begin ⟨(Nat.le_of_ble_eq_true rfl), (Nat.le_of_ble_eq_true rfl)⟩ ⟨Nat.zero_le _, Nat.zero_le _⟩ 0 mw_at_0 rfl rfl rfl (Nat.le_of_ble_eq_true rfl) dX12_mirror_29 ?_
      refine z_iconst C dX12_mirror_32 1 rfl ?_
      cases hf
      exact R _ _ dX12_mirror_33
    · replace hf := z_ift c6 hf
      refine z_iconst C dX12_mirror_24 (-1) rfl ?_
      cases hf
      exact R _ _ dX12_mirror_25
theorem uX12_isSpot_12 : ∀ w ∈ wsX120, w ∈ wsX12_isSpot := by decide +kernel
theorem hdX12_isSpot : yX12_isSpot.cls = RX12 ∧ yX12_isSpot.cls ≠ "java/lang/invoke/MethodHandle" ∧ yX12_isSpot.cls ≠ "java/lang/invoke/VarHandle" ∧ (parseMethodDescriptor yX12_isSpot.desc).map (fun d => d.parameters.length) = some 1 := by decide +kernel
set_option maxHeartbeats 4000000 in
set_option maxRecDepth 100000 in
theorem tX12_isSpot (l : Launch) (D : va_G) (t : zTy) (a : Nat → Nat) {v1 : Int32} {x : ST} {out : Int32 × ST} (hf : fX12_isSpot v1 x = some out) : zMi l yX12_isSpot wsX12_isSpot 1 25 D t [.ref (a 0), .int v1] (MW t a x) out.1 (MW t a out.2) := by
  refine z_entry_z (cc := cX12_isSpot) (nL := 2) (by decide) rfl (Nat.le_of_ble_eq_true rfl) (fun E _ _ C R => ?_)
  refine z_sub (lv' := [(0, .ref (a 0)), (1, .int v1)]) [0, 1] rfl ?_
  rw [fX12_isSpot] at hf
  refine z_iload_n C dX12_isSpot_0 rfl 1 rfl ?_
  refine z_i2l C dX12_isSpot_1 ?_
  refine z_lconst C dX12_isSpot_2 0 rfl ?_
  refine z_aload_n C dX12_isSpot_3 rfl 0 rfl ?_
  refine mg_StillStarsModel_spots C uX12_isSpot_12 (by decide +kernel) dX12_isSpot_4 ?_
  refine z_iconst C dX12_isSpot_7 1 rfl ?_
  refine z_isub C dX12_isSpot_8 ?_
  refine z_i2l C dX12_isSpot_9 ?_
  obtain ⟨q1, h2, hf⟩ := z_bind hf
  refine z_callSi C (rest := []) (tX12_in (ze_l E) (ze_D E) t _ h2) gX12_isSpot_X12_in rfl hdX12_in ⟨(Nat.le_of_ble_eq_true rfl), (Nat.le_of_ble_eq_true rfl)⟩ ⟨Nat.zero_le _, Nat.zero_le _⟩ rfl rfl (Nat.le_of_ble_eq_true rfl) dX12_isSpot_10 ?_
  obtain ⟨h3, hf⟩ := z_some hf
  cases hf
  exact R _ _ dX12_isSpot_13 h3
theorem uX12_isPart_12 : ∀ w ∈ wsX120, w ∈ wsX12_isPart := by decide +kernel
theorem hdX12_isPart : yX12_isPart.cls = RX12 ∧ yX12_isPart.cls ≠ "java/lang/invoke/MethodHandle" ∧ yX12_isPart.cls ≠ "java/lang/invoke/VarHandle" ∧ (parseMethodDescriptor yX12_isPart.desc).map (fun d => d.parameters.length) = some 1 := by decide +kernel
set_option maxHeartbeats 4000000 in
set_option maxRecDepth 100000 in
theorem tX12_isPart (l : Launch) (D : va_G) (t : zTy) (a : Nat → Nat) {v1 : Int32} {x : ST} {out : Int32 × ST} (hf : fX12_isPart v1 x = some out) : zMi l yX12_isPart wsX12_isPart 1 25 D t [.ref (a 0), .int v1] (MW t a x) out.1 (MW t a out.2) := by
  refine z_entry_z (cc := cX12_isPart) (nL := 2) (by decide) rfl (Nat.le_of_ble_eq_true rfl) (fun E _ _ C R => ?_)
  refine z_sub (lv' := [(0, .ref (a 0)), (1, .int v1)]) [0, 1] rfl ?_
  rw [fX12_isPart] at hf
  refine z_iload_n C dX12_isPart_0 rfl 1 rfl ?_
  refine z_i2l C dX12_isPart_1 ?_
  refine z_lconst C dX12_isPart_2 0 rfl ?_
  refine z_aload_n C dX12_isPart_3 rfl 0 rfl ?_
  refine mg_StillStarsModel_parts C uX12_isPart_12 (by decide +kernel) dX12_isPart_4 ?_
  refine z_iconst C dX12_isPart_7 1 rfl ?_
  refine z_isub C dX12_isPart_8 ?_
  refine z_i2l C dX12_isPart_9 ?_
  obtain ⟨q1, h2, hf⟩ := z_bind hf
  refine z_callSi C (rest := []) (tX12_in (ze_l E) (ze_D E) t _ h2) gX12_isPart_X12_in rfl hdX12_in ⟨(Nat.le_of_ble_eq_true rfl), (Nat.le_of_ble_eq_true rfl)⟩ ⟨Nat.zero_le _, Nat.zero_le _⟩ rfl rfl (Nat.le_of_ble_eq_true rfl) dX12_isPart_10 ?_
  obtain ⟨h3, hf⟩ := z_some hf
  cases hf
  exact R _ _ dX12_isPart_13 h3
theorem uX12_light_12 : ∀ w ∈ wsX120, w ∈ wsX12_light := by decide +kernel
theorem hdX12_light : yX12_light.cls = RX12 ∧ yX12_light.cls ≠ "java/lang/invoke/MethodHandle" ∧ yX12_light.cls ≠ "java/lang/invoke/VarHandle" ∧ (parseMethodDescriptor yX12_light.desc).map (fun d => d.parameters.length) = some 3 := by decide +kernel
set_option maxHeartbeats 4000000 in
set_option maxRecDepth 100000 in
theorem tX12_light (l : Launch) (D : va_G) (t : zTy) (a : Nat → Nat) {v1 : Int32} {v2 : Int32} {v3 : Int32} {x : ST} {out : Int32 × ST} (hf : fX12_light v1 v2 v3 x = some out) : zMi l yX12_light wsX12_light 2 46 D t [.ref (a 0), .int v1, .int v2, .int v3] (MW t a x) out.1 (MW t a out.2) := by
  refine z_entry_i (cc := cX12_light) (nL := 5) (by decide) rfl (Nat.le_of_ble_eq_true rfl) (fun E _ _ C R => ?_)
  refine z_sub (lv' := [(0, .ref (a 0)), (1, .int v1), (2, .int v2), (3, .int v3)]) [0, 1, 2, 3] rfl ?_
  rw [fX12_light] at hf
  refine z_aload_n C dX12_light_0 rfl 0 rfl ?_
  refine z_iload_n C dX12_light_1 rfl 1 rfl ?_
  obtain ⟨q1, h2, hf⟩ := z_bind hf
  refine z_callVi C (rest := []) (tX12_isSpot (ze_l E) (ze_D E) t a h2) gX12_light_X12_isSpot rfl hdX12_isSpot ⟨(Nat.le_of_ble_eq_true rfl), (Nat.le_of_ble_eq_true rfl)⟩ ⟨Nat.zero_le _, Nat.zero_le _⟩ 0 mw_at_0 rfl rfl rfl (Nat.le_of_ble_eq_true rfl) dX12_light_2 ?_
  refine z_if_eq C 32 dX12_light_5 (by decide) (fun c3 => ?_) (fun c3 => ?_)
  · replace hf := z_ift c3 hf
    refine z_iconst C dX12_light_32 (-1) rfl ?_
    cases hf
    exact R _ _ dX12_light_33
  · replace hf := z_iff c3 hf
    refine z_iload_n C dX12_light_8 rfl 2 rfl ?_
    refine z_i2l C dX12_light_9 ?_
    refine z_lconst C dX12_light_10 0 rfl ?_
    refine z_ldc2 C 15 (by decide +kernel) dX12_light_11 ?_
    obtain ⟨q4, h5, hf⟩ := z_bind hf
    refine z_callSi C (rest := []) (tX12_in (ze_l E) (ze_D E) t _ h5) gX12_light_X12_in rfl hdX12_in ⟨(Nat.le_of_ble_eq_true rfl), (Nat.le_of_ble_eq_true rfl)⟩ ⟨Nat.zero_le _, Nat.zero_le _⟩ rfl rfl (Nat.le_of_ble_eq_true rfl) dX12_light_14 ?_
    refine z_if_eq C 32 dX12_light_17 (by decide) (fun c6 => ?_) (fun c6 => ?_)
    · replace hf := z_ift c6 hf
      refine z_iconst C dX12_light_32 (-1) rfl ?_
      cases hf
      exact R _ _ dX12_light_33
    · replace hf := z_iff c6 hf
      refine z_iload_n C dX12_light_20 rfl 3 rfl ?_
      refine z_i2l C dX12_light_21 ?_
      refine z_lconst C dX12_light_22 0 rfl ?_
      refine z_ldc2 C 255 (by decide +kernel) dX12_light_23 ?_
      obtain ⟨q7, h8, hf⟩ := z_bind hf
      refine z_callSi C (rest := []) (tX12_in (ze_l E) (ze_D E) t _ h8) gX12_light_X12_in rfl hdX12_in ⟨(Nat.le_of_ble_eq_true rfl), (Nat.le_of_ble_eq_true rfl)⟩ ⟨Nat.zero_le _, Nat.zero_le _⟩ rfl rfl (Nat.le_of_ble_eq_true rfl) dX12_light_26 ?_
      refine z_if_ne C 34 dX12_light_29 (by decide) (fun c9 => ?_) (fun c9 => ?_)
      · replace hf := z_iff c9 hf
        refine z_aload_n C dX12_light_34 rfl 0 rfl ?_
        refine mg_StillStarsModel_lights C uX12_light_12 (by decide +kernel) dX12_light_35 ?_
        refine z_bipush C dX12_light_38 16 rfl ?_
        refine z_iload_n C dX12_light_40 rfl 1 rfl ?_
        refine z_imul C dX12_light_41 ?_
        refine z_iload_n C dX12_light_42 rfl 2 rfl ?_
        refine z_iadd C dX12_light_43 ?_
        obtain ⟨h10, hf⟩ := z_some hf
        refine z_iald C 1 mw_at_1 h10 dX12_light_44 ?_
        refine z_istore C [(4, .int (gA q1.2 1 ((16 * v1) + v2).toNatClampNeg)), (0, .ref (a 0)), (1, .int v1), (2, .int v2), (3, .int v3)] dX12_light_45 (by decide) rfl ?_
        refine z_aload_n C dX12_light_47 rfl 1 rfl ?_
        refine mg_StillStarsModel_lights C uX12_light_12 (by decide +kernel) dX12_light_48 ?_
        refine z_bipush C dX12_light_51 16 rfl ?_
        refine z_iload_n C dX12_light_53 rfl 2 rfl ?_
        refine z_imul C dX12_light_54 ?_
        refine z_iload_n C dX12_light_55 rfl 3 rfl ?_
        refine z_iadd C dX12_light_56 ?_
        refine z_iload_n C dX12_light_57 rfl 4 rfl ?_
        obtain ⟨h11, hf⟩ := z_some hf
        refine z_iast C 1 mw_at_1 h11 (w' := MW t a (sA q1.2 1 ((16 * v1) + v2) v3)) mw_up_1 dX12_light_58 ?_
        refine z_iload C dX12_light_59 0 rfl ?_
        cases hf
        exact R _ _ dX12_light_61
      · replace hf := z_ift c9 hf
        refine z_iconst C dX12_light_32 (-1) rfl ?_
        cases hf
        exact R _ _ dX12_light_33
theorem uX12_set_12 : ∀ w ∈ wsX120, w ∈ wsX12_set := by decide +kernel
theorem hdX12_set : yX12_set.cls = RX12 ∧ yX12_set.cls ≠ "java/lang/invoke/MethodHandle" ∧ yX12_set.cls ≠ "java/lang/invoke/VarHandle" ∧ (parseMethodDescriptor yX12_set.desc).map (fun d => d.parameters.length) = some 2 := by decide +kernel
set_option maxHeartbeats 4000000 in
set_option maxRecDepth 100000 in
theorem tX12_set (l : Launch) (D : va_G) (t : zTy) (a : Nat → Nat) {v1 : Int32} {v2 : Int32} {x : ST} {out : Int32 × ST} (hf : fX12_set v1 v2 x = some out) : zMi l yX12_set wsX12_set 1 25 D t [.ref (a 0), .int v1, .int v2] (MW t a x) out.1 (MW t a out.2) := by
  refine z_entry_i (cc := cX12_set) (nL := 4) (by decide) rfl (Nat.le_of_ble_eq_true rfl) (fun E _ _ C R => ?_)
  refine z_sub (lv' := [(0, .ref (a 0)), (1, .int v1), (2, .int v2)]) [0, 1, 2] rfl ?_
  rw [fX12_set] at hf
  refine z_iload_n C dX12_set_0 rfl 1 rfl ?_
  refine z_i2l C dX12_set_1 ?_
  refine z_lconst C dX12_set_2 0 rfl ?_
  refine z_ldc2 C 6 (by decide +kernel) dX12_set_3 ?_
  obtain ⟨q1, h2, hf⟩ := z_bind hf
  refine z_callSi C (rest := []) (tX12_in (ze_l E) (ze_D E) t _ h2) gX12_set_X12_in rfl hdX12_in ⟨(Nat.le_of_ble_eq_true rfl), (Nat.le_of_ble_eq_true rfl)⟩ ⟨Nat.zero_le _, Nat.zero_le _⟩ rfl rfl (Nat.le_of_ble_eq_true rfl) dX12_set_6 ?_
  refine z_if_eq C 34 dX12_set_9 (by decide) (fun c3 => ?_) (fun c3 => ?_)
  · replace hf := z_ift c3 hf
    refine z_sipush C dX12_set_34 (-10001) rfl ?_
    cases hf
    exact R _ _ dX12_set_37
  · replace hf := z_iff c3 hf
    refine z_iload_n C dX12_set_12 rfl 2 rfl ?_
    refine z_i2l C dX12_set_13 ?_
    refine z_aload_n C dX12_set_14 rfl 0 rfl ?_
    refine mg_StillStarsModel_setLows C uX12_set_12 (by decide +kernel) dX12_set_15 ?_
    refine z_iload_n C dX12_set_18 rfl 1 rfl ?_
    obtain ⟨h4, hf⟩ := z_some hf
    refine z_iald C 5 mw_at_5 h4 dX12_set_19 ?_
    refine z_i2l C dX12_set_20 ?_
    refine z_aload_n C dX12_set_21 rfl 0 rfl ?_
    refine mg_StillStarsModel_setHighs C uX12_set_12 (by decide +kernel) dX12_set_22 ?_
    refine z_iload_n C dX12_set_25 rfl 1 rfl ?_
    obtain ⟨h5, hf⟩ := z_some hf
    refine z_iald C 6 mw_at_6 h5 dX12_set_26 ?_
    refine z_i2l C dX12_set_27 ?_
    obtain ⟨q6, h7, hf⟩ := z_bind hf
    refine z_callSi C (rest := []) (tX12_in (ze_l E) (ze_D E) t _ h7) gX12_set_X12_in rfl hdX12_in ⟨(Nat.le_of_ble_eq_true rfl), (Nat.le_of_ble_eq_true rfl)⟩ ⟨Nat.zero_le _, Nat.zero_le _⟩ rfl rfl (Nat.le_of_ble_eq_true rfl) dX12_set_28 ?_
    refine z_if_ne C 38 dX12_set_31 (by decide) (fun c8 => ?_) (fun c8 => ?_)
    · replace hf := z_iff c8 hf
      refine z_aload_n C dX12_set_38 rfl 0 rfl ?_
      refine mg_StillStarsModel_sets C uX12_set_12 (by decide +kernel) dX12_set_39 ?_
      refine z_iload_n C dX12_set_42 rfl 1 rfl ?_
      obtain ⟨h9, hf⟩ := z_some hf
      refine z_iald C 4 mw_at_4 h9 dX12_set_43 ?_
      refine z_istore_n C [(3, .int (gA x 4 v1.toNatClampNeg)), (0, .ref (a 0)), (1, .int v1), (2, .int v2)] dX12_set_44 rfl (by decide) rfl ?_
      refine z_aload_n C dX12_set_45 rfl 1 rfl ?_
      refine mg_StillStarsModel_sets C uX12_set_12 (by decide +kernel) dX12_set_46 ?_
      refine z_iload_n C dX12_set_49 rfl 2 rfl ?_
      refine z_iload_n C dX12_set_50 rfl 3 rfl ?_
      obtain ⟨h10, hf⟩ := z_some hf
      refine z_iast C 4 mw_at_4 h10 (w' := MW t a (sA x 4 v1 v2)) mw_up_4 dX12_set_51 ?_
      refine z_iload_n C dX12_set_52 rfl 0 rfl ?_
      cases hf
      exact R _ _ dX12_set_53
    · replace hf := z_ift c8 hf
      refine z_sipush C dX12_set_34 (-10001) rfl ?_
      cases hf
      exact R _ _ dX12_set_37
theorem uX12_rest_12 : ∀ w ∈ wsX120, w ∈ wsX12_rest := by decide +kernel
theorem hdX12_rest : yX12_rest.cls = RX12 ∧ yX12_rest.cls ≠ "java/lang/invoke/MethodHandle" ∧ yX12_rest.cls ≠ "java/lang/invoke/VarHandle" ∧ (parseMethodDescriptor yX12_rest.desc).map (fun d => d.parameters.length) = some 2 := by decide +kernel
set_option maxHeartbeats 4000000 in
set_option maxRecDepth 100000 in
theorem tX12_rest (l : Launch) (D : va_G) (t : zTy) (a : Nat → Nat) {v1 : Int32} {v2 : Int32} {x : ST} {out : Int32 × ST} (hf : fX12_rest v1 v2 x = some out) : zMi l yX12_rest wsX12_rest 2 46 D t [.ref (a 0), .int v1, .int v2] (MW t a x) out.1 (MW t a out.2) := by
  refine z_entry_i (cc := cX12_rest) (nL := 4) (by decide) rfl (Nat.le_of_ble_eq_true rfl) (fun E _ _ C R => ?_)
  refine z_sub (lv' := [(0, .ref (a 0)), (1, .int v1), (2, .int v2)]) [0, 1, 2] rfl ?_
  rw [fX12_rest] at hf
  refine z_aload_n C dX12_rest_0 rfl 0 rfl ?_
  refine z_iload_n C dX12_rest_1 rfl 1 rfl ?_
  obtain ⟨q1, h2, hf⟩ := z_bind hf
  refine z_callVi C (rest := []) (tX12_isSpot (ze_l E) (ze_D E) t a h2) gX12_rest_X12_isSpot rfl hdX12_isSpot ⟨(Nat.le_of_ble_eq_true rfl), (Nat.le_of_ble_eq_true rfl)⟩ ⟨Nat.zero_le _, Nat.zero_le _⟩ 0 mw_at_0 rfl rfl rfl (Nat.le_of_ble_eq_true rfl) dX12_rest_2 ?_
  refine z_if_eq C 20 dX12_rest_5 (by decide) (fun c3 => ?_) (fun c3 => ?_)
  · replace hf := z_ift c3 hf
    refine z_iconst C dX12_rest_20 (-1) rfl ?_
    cases hf
    exact R _ _ dX12_rest_21
  · replace hf := z_iff c3 hf
    refine z_iload_n C dX12_rest_8 rfl 2 rfl ?_
    refine z_i2l C dX12_rest_9 ?_
    refine z_lconst C dX12_rest_10 0 rfl ?_
    refine z_ldc2 C 3000 (by decide +kernel) dX12_rest_11 ?_
    obtain ⟨q4, h5, hf⟩ := z_bind hf
    refine z_callSi C (rest := []) (tX12_in (ze_l E) (ze_D E) t _ h5) gX12_rest_X12_in rfl hdX12_in ⟨(Nat.le_of_ble_eq_true rfl), (Nat.le_of_ble_eq_true rfl)⟩ ⟨Nat.zero_le _, Nat.zero_le _⟩ rfl rfl (Nat.le_of_ble_eq_true rfl) dX12_rest_14 ?_
    refine z_if_ne C 22 dX12_rest_17 (by decide) (fun c6 => ?_) (fun c6 => ?_)
    · replace hf := z_iff c6 hf
      refine z_aload_n C dX12_rest_22 rfl 0 rfl ?_
      refine mg_StillStarsModel_rests C uX12_rest_12 (by decide +kernel) dX12_rest_23 ?_
      refine z_iload_n C dX12_rest_26 rfl 1 rfl ?_
      obtain ⟨h7, hf⟩ := z_some hf
      refine z_iald C 2 mw_at_2 h7 dX12_rest_27 ?_
      refine z_istore_n C [(3, .int (gA q1.2 2 v1.toNatClampNeg)), (0, .ref (a 0)), (1, .int v1), (2, .int v2)] dX12_rest_28 rfl (by decide) rfl ?_
      refine z_aload_n C dX12_rest_29 rfl 1 rfl ?_
      refine mg_StillStarsModel_rests C uX12_rest_12 (by decide +kernel) dX12_rest_30 ?_
      refine z_iload_n C dX12_rest_33 rfl 2 rfl ?_
      refine z_iload_n C dX12_rest_34 rfl 3 rfl ?_
      obtain ⟨h8, hf⟩ := z_some hf
      refine z_iast C 2 mw_at_2 h8 (w' := MW t a (sA q1.2 2 v1 v2)) mw_up_2 dX12_rest_35 ?_
      refine z_iload_n C dX12_rest_36 rfl 0 rfl ?_
      cases hf
      exact R _ _ dX12_rest_37
    · replace hf := z_ift c6 hf
      refine z_iconst C dX12_rest_20 (-1) rfl ?_
      cases hf
      exact R _ _ dX12_rest_21
theorem uX12_lightOf_12 : ∀ w ∈ wsX120, w ∈ wsX12_lightOf := by decide +kernel
theorem hdX12_lightOf : yX12_lightOf.cls = RX12 ∧ yX12_lightOf.cls ≠ "java/lang/invoke/MethodHandle" ∧ yX12_lightOf.cls ≠ "java/lang/invoke/VarHandle" ∧ (parseMethodDescriptor yX12_lightOf.desc).map (fun d => d.parameters.length) = some 2 := by decide +kernel
set_option maxHeartbeats 4000000 in
set_option maxRecDepth 100000 in
theorem tX12_lightOf (l : Launch) (D : va_G) (t : zTy) (a : Nat → Nat) {v1 : Int32} {v2 : Int32} {x : ST} {out : Int32 × ST} (hf : fX12_lightOf v1 v2 x = some out) : zMi l yX12_lightOf wsX12_lightOf 0 0 D t [.ref (a 0), .int v1, .int v2] (MW t a x) out.1 (MW t a out.2) := by
  refine z_entry_i (cc := cX12_lightOf) (nL := 4) (by decide) rfl (Nat.le_of_ble_eq_true rfl) (fun E _ _ C R => ?_)
  refine z_sub (lv' := [(0, .ref (a 0)), (1, .int v1), (2, .int v2)]) [0, 1, 2] rfl ?_
  rw [fX12_lightOf] at hf
  refine z_aload_n C dX12_lightOf_0 rfl 0 rfl ?_
  refine mg_StillStarsModel_lights C uX12_lightOf_12 (by decide +kernel) dX12_lightOf_1 ?_
  refine z_bipush C dX12_lightOf_4 16 rfl ?_
  refine z_iload_n C dX12_lightOf_6 rfl 1 rfl ?_
  refine z_imul C dX12_lightOf_7 ?_
  refine z_iload_n C dX12_lightOf_8 rfl 2 rfl ?_
  refine z_iadd C dX12_lightOf_9 ?_
  obtain ⟨h1, hf⟩ := z_some hf
  refine z_iald C 1 mw_at_1 h1 dX12_lightOf_10 ?_
  refine z_aload_n C dX12_lightOf_11 rfl 0 rfl ?_
  refine mg_StillStarsModel_sets C uX12_lightOf_12 (by decide +kernel) dX12_lightOf_12 ?_
  refine z_iconst C dX12_lightOf_15 0 rfl ?_
  obtain ⟨h2, hf⟩ := z_some hf
  refine z_iald C 4 mw_at_4 h2 dX12_lightOf_16 ?_
  refine z_isub C dX12_lightOf_17 ?_
  refine z_istore_n C [(3, .int ((gA x 1 ((16 * v1) + v2).toNatClampNeg) - (gA x 4 (0 : Int32).toNatClampNeg))), (0, .ref (a 0)), (1, .int v1), (2, .int v2)] dX12_lightOf_18 rfl (by decide) rfl ?_
  refine z_iload_n C dX12_lightOf_19 rfl 0 rfl ?_
  refine z_if_le C 27 dX12_lightOf_20 (by decide) (fun c3 => ?_) (fun c3 => ?_)
  · replace hf := z_ift c3 hf
    refine z_iconst C dX12_lightOf_27 0 rfl ?_
    cases hf
    exact R _ _ dX12_lightOf_28
  · replace hf := z_iff c3 hf
    refine z_iload_n C dX12_lightOf_23 rfl 0 rfl ?_
    refine z_goto C 28 dX12_lightOf_24 (by decide) ?_
    cases hf
    exact R _ _ dX12_lightOf_28
set_option maxHeartbeats 4000000 in
set_option maxRecDepth 100000 in
theorem kX12_allLight_4 (E : zE) (t : zTy) (a : Nat → Nat) (out : Int32 × ST) (C : zC E cX12_allLight 4 RX12 wsX12_allLight (zrm 1 23) t) (R : zRi E cX12_allLight 4 out.1 (MW t a out.2)) : ∀ (n : Nat) (v1 : Int32) (v2 : Int32) (v3 : Int32) (x : ST), fX12_allLight_4 n v1 v2 v3 x = some out → zG E 4 0 0 (MW t a x) 4 [(0, .ref (a 0)), (1, .int v1), (2, .int v2), (3, .int v3)] [] := by
  intro n
  induction n with
  | zero =>
    intro v1 v2 v3 x hf
    cases hf
  | succ n ih =>
    intro v1 v2 v3 x hf
    rw [fX12_allLight_4] at hf
    refine z_iload_n C dX12_allLight_4 rfl 3 rfl ?_
    refine z_bipush C dX12_allLight_5 16 rfl ?_
    refine z_icmp_ge C 25 dX12_allLight_7 (by decide) (fun c1 => ?_) (fun c1 => ?_)
    · replace hf := z_ift c1 hf
      refine z_iload_n C dX12_allLight_25 rfl 2 rfl ?_
      cases hf
      exact R _ _ dX12_allLight_26
    · replace hf := z_iff c1 hf
      refine z_iload_n C dX12_allLight_10 rfl 2 rfl ?_
      refine z_aload_n C dX12_allLight_11 rfl 0 rfl ?_
      refine z_iload_n C dX12_allLight_12 rfl 1 rfl ?_
      refine z_iload_n C dX12_allLight_13 rfl 3 rfl ?_
      obtain ⟨q2, h3, hf⟩ := z_bind hf
      refine z_callVi C (rest := [.int v2]) (tX12_lightOf (ze_l E) (ze_D E) t a h3) gX12_allLight_X12_lightOf rfl hdX12_lightOf ⟨(Nat.le_of_ble_eq_true rfl), (Nat.le_of_ble_eq_true rfl)⟩ ⟨Nat.zero_le _, Nat.zero_le _⟩ 0 mw_at_0 rfl rfl rfl (Nat.le_of_ble_eq_true rfl) dX12_allLight_14 ?_
      refine z_iadd C dX12_allLight_17 ?_
      refine z_istore_n C [(2, .int (v2 + q2.1)), (0, .ref (a 0)), (1, .int v1), (3, .int v3)] dX12_allLight_18 rfl (by decide) rfl ?_
      refine z_iinc C (v3 + 1) [(3, .int (v3 + 1)), (2, .int (v2 + q2.1)), (0, .ref (a 0)), (1, .int v1)] dX12_allLight_19 3 rfl rfl (by decide) rfl ?_
      refine z_goto C 4 dX12_allLight_22 (by decide) ?_
      exact z_sub [2, 3, 1, 0] rfl (ih _ _ _ _ hf)
theorem hdX12_allLight : yX12_allLight.cls = RX12 ∧ yX12_allLight.cls ≠ "java/lang/invoke/MethodHandle" ∧ yX12_allLight.cls ≠ "java/lang/invoke/VarHandle" ∧ (parseMethodDescriptor yX12_allLight.desc).map (fun d => d.parameters.length) = some 1 := by decide +kernel
set_option maxHeartbeats 4000000 in
set_option maxRecDepth 100000 in
theorem tX12_allLight (l : Launch) (D : va_G) (t : zTy) (a : Nat → Nat) {v1 : Int32} {x : ST} {out : Int32 × ST} (hf : fX12_allLight v1 x = some out) : zMi l yX12_allLight wsX12_allLight 1 23 D t [.ref (a 0), .int v1] (MW t a x) out.1 (MW t a out.2) := by
  refine z_entry_i (cc := cX12_allLight) (nL := 4) (by decide) rfl (Nat.le_of_ble_eq_true rfl) (fun E _ _ C R => ?_)
  refine z_sub (lv' := [(0, .ref (a 0)), (1, .int v1)]) [0, 1] rfl ?_
  rw [fX12_allLight] at hf
  refine z_iconst C dX12_allLight_0 0 rfl ?_
  refine z_istore_n C [(2, .int 0), (0, .ref (a 0)), (1, .int v1)] dX12_allLight_1 rfl (by decide) rfl ?_
  refine z_iconst C dX12_allLight_2 0 rfl ?_
  refine z_istore_n C [(3, .int 0), (2, .int 0), (0, .ref (a 0)), (1, .int v1)] dX12_allLight_3 rfl (by decide) rfl ?_
  exact z_sub [2, 3, 1, 0] rfl (kX12_allLight_4 E t a out C R 200 _ _ _ _ hf)
theorem uX12_isLost_12 : ∀ w ∈ wsX120, w ∈ wsX12_isLost := by decide +kernel
theorem hdX12_isLost : yX12_isLost.cls = RX12 ∧ yX12_isLost.cls ≠ "java/lang/invoke/MethodHandle" ∧ yX12_isLost.cls ≠ "java/lang/invoke/VarHandle" ∧ (parseMethodDescriptor yX12_isLost.desc).map (fun d => d.parameters.length) = some 1 := by decide +kernel
set_option maxHeartbeats 4000000 in
set_option maxRecDepth 100000 in
theorem tX12_isLost (l : Launch) (D : va_G) (t : zTy) (a : Nat → Nat) {v1 : Int32} {x : ST} {out : Int32 × ST} (hf : fX12_isLost v1 x = some out) : zMi l yX12_isLost wsX12_isLost 2 46 D t [.ref (a 0), .int v1] (MW t a x) out.1 (MW t a out.2) := by
  refine z_entry_z (cc := cX12_isLost) (nL := 2) (by decide) rfl (Nat.le_of_ble_eq_true rfl) (fun E _ _ C R => ?_)
  refine z_sub (lv' := [(0, .ref (a 0)), (1, .int v1)]) [0, 1] rfl ?_
  rw [fX12_isLost] at hf
  refine z_aload_n C dX12_isLost_0 rfl 0 rfl ?_
  refine z_iload_n C dX12_isLost_1 rfl 1 rfl ?_
  obtain ⟨q1, h2, hf⟩ := z_bind hf
  refine z_callVi C (rest := []) (tX12_allLight (ze_l E) (ze_D E) t a h2) gX12_isLost_X12_allLight rfl hdX12_allLight ⟨(Nat.le_of_ble_eq_true rfl), (Nat.le_of_ble_eq_true rfl)⟩ ⟨Nat.zero_le _, Nat.zero_le _⟩ 0 mw_at_0 rfl rfl rfl (Nat.le_of_ble_eq_true rfl) dX12_isLost_2 ?_
  refine z_aload_n C dX12_isLost_5 rfl 0 rfl ?_
  refine mg_StillStarsModel_sets C uX12_isLost_12 (by decide +kernel) dX12_isLost_6 ?_
  refine z_iconst C dX12_isLost_9 1 rfl ?_
  obtain ⟨h3, hf⟩ := z_some hf
  refine z_iald C 4 mw_at_4 h3 dX12_isLost_10 ?_
  refine z_icmp_ge C 18 dX12_isLost_11 (by decide) (fun c4 => ?_) (fun c4 => ?_)
  · replace hf := z_ift c4 hf
    refine z_iconst C dX12_isLost_18 0 rfl ?_
    obtain ⟨h5, hf⟩ := z_some hf
    cases hf
    exact R _ _ dX12_isLost_19 h5
  · replace hf := z_iff c4 hf
    refine z_iconst C dX12_isLost_14 1 rfl ?_
    refine z_goto C 19 dX12_isLost_15 (by decide) ?_
    obtain ⟨h6, hf⟩ := z_some hf
    cases hf
    exact R _ _ dX12_isLost_19 h6
set_option maxHeartbeats 4000000 in
set_option maxRecDepth 100000 in
theorem kX12_middleOf_26 (E : zE) (t : zTy) (a : Nat → Nat) (out : Int32 × ST) (C : zC E cX12_middleOf 4 RX12 wsX12_middleOf (zrm 2 46) t) (R : zRi E cX12_middleOf 4 out.1 (MW t a out.2)) (kb4 : Int32 → Int32 → Int32 → ST → Option (Int32 × ST)) (Kb4 : ∀ (v1 : Int32) (v2 : Int32) (v3 : Int32) (x : ST), kb4 v1 v2 v3 x = some out → zG E 4 0 0 (MW t a x) 4 [(0, .ref (a 0)), (1, .int v1), (2, .int v2), (3, .int v3)] []) : ∀ (v1 : Int32) (v3 : Int32) (s0 : Int32) (s1 : Int32) (x : ST), fX12_middleOf_26 kb4 v1 v3 s0 s1 x = some out → zG E 4 0 0 (MW t a x) 26 [(0, .ref (a 0)), (1, .int v1), (3, .int v3)] [.int s0, .int s1] := by
  intro v1 v3 s0 s1 x hf
  rw [fX12_middleOf_26] at hf
  refine z_aload_n C dX12_middleOf_26 rfl 0 rfl ?_
  refine z_iload_n C dX12_middleOf_27 rfl 1 rfl ?_
  refine z_iload_n C dX12_middleOf_28 rfl 2 rfl ?_
  obtain ⟨q9, h10, hf⟩ := z_bind hf
  refine z_callVi C (rest := [.int s0, .int s1]) (tX12_lightOf (ze_l E) (ze_D E) t a h10) gX12_middleOf_X12_lightOf rfl hdX12_lightOf ⟨(Nat.le_of_ble_eq_true rfl), (Nat.le_of_ble_eq_true rfl)⟩ ⟨Nat.zero_le _, Nat.zero_le _⟩ 0 mw_at_0 rfl rfl rfl (Nat.le_of_ble_eq_true rfl) dX12_middleOf_29 ?_
  refine z_imul C dX12_middleOf_32 ?_
  refine z_iadd C dX12_middleOf_33 ?_
  refine z_istore_n C [(2, .int (s1 + (s0 * q9.1))), (0, .ref (a 0)), (1, .int v1), (3, .int v3)] dX12_middleOf_34 rfl (by decide) rfl ?_
  refine z_iinc C (v3 + 1) [(3, .int (v3 + 1)), (2, .int (s1 + (s0 * q9.1))), (0, .ref (a 0)), (1, .int v1)] dX12_middleOf_35 3 rfl rfl (by decide) rfl ?_
  refine z_goto C 4 dX12_middleOf_38 (by decide) ?_
  exact z_sub [2, 3, 1, 0] rfl (Kb4 _ _ _ _ hf)
set_option maxHeartbeats 4000000 in
set_option maxRecDepth 100000 in
theorem kX12_middleOf_41 (E : zE) (t : zTy) (a : Nat → Nat) (out : Int32 × ST) (C : zC E cX12_middleOf 4 RX12 wsX12_middleOf (zrm 2 46) t) (R : zRi E cX12_middleOf 4 out.1 (MW t a out.2)) : ∀ (v1 : Int32) (v2 : Int32) (x : ST), fX12_middleOf_41 v1 v2 x = some out → zG E 4 0 0 (MW t a x) 41 [(0, .ref (a 0)), (1, .int v1), (2, .int v2)] [] := by
  intro v1 v2 x hf
  rw [fX12_middleOf_41] at hf
  refine z_sipush C dX12_middleOf_41 1000 rfl ?_
  refine z_iload_n C dX12_middleOf_44 rfl 2 rfl ?_
  refine z_imul C dX12_middleOf_45 ?_
  refine z_aload_n C dX12_middleOf_46 rfl 0 rfl ?_
  refine z_iload_n C dX12_middleOf_47 rfl 1 rfl ?_
  obtain ⟨q6, h7, hf⟩ := z_bind hf
  refine z_callVi C (rest := [.int (1000 * v2)]) (tX12_allLight (ze_l E) (ze_D E) t a h7) gX12_middleOf_X12_allLight rfl hdX12_allLight ⟨(Nat.le_of_ble_eq_true rfl), (Nat.le_of_ble_eq_true rfl)⟩ ⟨Nat.zero_le _, Nat.zero_le _⟩ 0 mw_at_0 rfl rfl rfl (Nat.le_of_ble_eq_true rfl) dX12_middleOf_48 ?_
  obtain ⟨h8, hf⟩ := z_div hf
  refine z_idiv C h8 dX12_middleOf_51 ?_
  cases hf
  exact R _ _ dX12_middleOf_52
set_option maxHeartbeats 4000000 in
set_option maxRecDepth 100000 in
theorem kX12_middleOf_4 (E : zE) (t : zTy) (a : Nat → Nat) (out : Int32 × ST) (C : zC E cX12_middleOf 4 RX12 wsX12_middleOf (zrm 2 46) t) (R : zRi E cX12_middleOf 4 out.1 (MW t a out.2)) : ∀ (n : Nat) (v1 : Int32) (v2 : Int32) (v3 : Int32) (x : ST), fX12_middleOf_4 n v1 v2 v3 x = some out → zG E 4 0 0 (MW t a x) 4 [(0, .ref (a 0)), (1, .int v1), (2, .int v2), (3, .int v3)] [] := by
  intro n
  induction n with
  | zero =>
    intro v1 v2 v3 x hf
    cases hf
  | succ n ih =>
    intro v1 v2 v3 x hf
    rw [fX12_middleOf_4] at hf
    refine z_iload_n C dX12_middleOf_4 rfl 3 rfl ?_
    refine z_bipush C dX12_middleOf_5 16 rfl ?_
    refine z_icmp_ge C 41 dX12_middleOf_7 (by decide) (fun c1 => ?_) (fun c1 => ?_)
    · replace hf := z_ift c1 hf
      exact z_sub [0, 1, 2] rfl (kX12_middleOf_41 E t a out C R _ _ _ hf)
    · replace hf := z_iff c1 hf
      refine z_iload_n C dX12_middleOf_10 rfl 2 rfl ?_
      refine z_iload_n C dX12_middleOf_11 rfl 1 rfl ?_
      refine z_iconst C dX12_middleOf_12 2 rfl ?_
      obtain ⟨h2, hf⟩ := z_div hf
      refine z_irem C h2 dX12_middleOf_13 ?_
      refine z_if_ne C 23 dX12_middleOf_14 (by decide) (fun c3 => ?_) (fun c3 => ?_)
      · replace hf := z_iff c3 hf
        refine z_iload_n C dX12_middleOf_23 rfl 3 rfl ?_
        refine z_iconst C dX12_middleOf_24 4 rfl ?_
        obtain ⟨h4, hf⟩ := z_div hf
        refine z_idiv C h4 dX12_middleOf_25 ?_
        exact z_sub [0, 1, 3] rfl (kX12_middleOf_26 E t a out C R (fX12_middleOf_4 n) (ih) _ _ _ _ _ hf)
      · replace hf := z_ift c3 hf
        refine z_iload_n C dX12_middleOf_17 rfl 3 rfl ?_
        refine z_iconst C dX12_middleOf_18 4 rfl ?_
        obtain ⟨h5, hf⟩ := z_div hf
        refine z_irem C h5 dX12_middleOf_19 ?_
        refine z_goto C 26 dX12_middleOf_20 (by decide) ?_
        exact z_sub [0, 1, 3] rfl (kX12_middleOf_26 E t a out C R (fX12_middleOf_4 n) (ih) _ _ _ _ _ hf)
theorem hdX12_middleOf : yX12_middleOf.cls = RX12 ∧ yX12_middleOf.cls ≠ "java/lang/invoke/MethodHandle" ∧ yX12_middleOf.cls ≠ "java/lang/invoke/VarHandle" ∧ (parseMethodDescriptor yX12_middleOf.desc).map (fun d => d.parameters.length) = some 1 := by decide +kernel
set_option maxHeartbeats 4000000 in
set_option maxRecDepth 100000 in
theorem tX12_middleOf (l : Launch) (D : va_G) (t : zTy) (a : Nat → Nat) {v1 : Int32} {x : ST} {out : Int32 × ST} (hf : fX12_middleOf v1 x = some out) : zMi l yX12_middleOf wsX12_middleOf 2 46 D t [.ref (a 0), .int v1] (MW t a x) out.1 (MW t a out.2) := by
  refine z_entry_i (cc := cX12_middleOf) (nL := 4) (by decide) rfl (Nat.le_of_ble_eq_true rfl) (fun E _ _ C R => ?_)
  refine z_sub (lv' := [(0, .ref (a 0)), (1, .int v1)]) [0, 1] rfl ?_
  rw [fX12_middleOf] at hf
  refine z_iconst C dX12_middleOf_0 0 rfl ?_
  refine z_istore_n C [(2, .int 0), (0, .ref (a 0)), (1, .int v1)] dX12_middleOf_1 rfl (by decide) rfl ?_
  refine z_iconst C dX12_middleOf_2 0 rfl ?_
  refine z_istore_n C [(3, .int 0), (2, .int 0), (0, .ref (a 0)), (1, .int v1)] dX12_middleOf_3 rfl (by decide) rfl ?_
  exact z_sub [2, 3, 1, 0] rfl (kX12_middleOf_4 E t a out C R 200 _ _ _ _ hf)
theorem uX12_slopeOf_12 : ∀ w ∈ wsX120, w ∈ wsX12_slopeOf := by decide +kernel
theorem hdX12_slopeOf : yX12_slopeOf.cls = RX12 ∧ yX12_slopeOf.cls ≠ "java/lang/invoke/MethodHandle" ∧ yX12_slopeOf.cls ≠ "java/lang/invoke/VarHandle" ∧ (parseMethodDescriptor yX12_slopeOf.desc).map (fun d => d.parameters.length) = some 1 := by decide +kernel
set_option maxHeartbeats 4000000 in
set_option maxRecDepth 100000 in
theorem tX12_slopeOf (l : Launch) (D : va_G) (t : zTy) (a : Nat → Nat) {v1 : Int32} {x : ST} {out : Int32 × ST} (hf : fX12_slopeOf v1 x = some out) : zMi l yX12_slopeOf wsX12_slopeOf 3 69 D t [.ref (a 0), .int v1] (MW t a x) out.1 (MW t a out.2) := by
  refine z_entry_i (cc := cX12_slopeOf) (nL := 2) (by decide) rfl (Nat.le_of_ble_eq_true rfl) (fun E _ _ C R => ?_)
  refine z_sub (lv' := [(0, .ref (a 0)), (1, .int v1)]) [0, 1] rfl ?_
  rw [fX12_slopeOf] at hf
  refine z_aload_n C dX12_slopeOf_0 rfl 0 rfl ?_
  refine z_iload_n C dX12_slopeOf_1 rfl 1 rfl ?_
  obtain ⟨q1, h2, hf⟩ := z_bind hf
  refine z_callVi C (rest := []) (tX12_middleOf (ze_l E) (ze_D E) t a h2) gX12_slopeOf_X12_middleOf rfl hdX12_middleOf ⟨(Nat.le_of_ble_eq_true rfl), (Nat.le_of_ble_eq_true rfl)⟩ ⟨Nat.zero_le _, Nat.zero_le _⟩ 0 mw_at_0 rfl rfl rfl (Nat.le_of_ble_eq_true rfl) dX12_slopeOf_2 ?_
  refine z_aload_n C dX12_slopeOf_5 rfl 0 rfl ?_
  refine mg_StillStarsModel_rests C uX12_slopeOf_12 (by decide +kernel) dX12_slopeOf_6 ?_
  refine z_iload_n C dX12_slopeOf_9 rfl 1 rfl ?_
  obtain ⟨h3, hf⟩ := z_some hf
  refine z_iald C 2 mw_at_2 h3 dX12_slopeOf_10 ?_
  refine z_isub C dX12_slopeOf_11 ?_
  cases hf
  exact R _ _ dX12_slopeOf_12
theorem hdX12_spot : yX12_spot.cls = RX12 ∧ yX12_spot.cls ≠ "java/lang/invoke/MethodHandle" ∧ yX12_spot.cls ≠ "java/lang/invoke/VarHandle" ∧ (parseMethodDescriptor yX12_spot.desc).map (fun d => d.parameters.length) = some 2 := by decide +kernel
set_option maxHeartbeats 4000000 in
set_option maxRecDepth 100000 in
theorem tX12_spot (l : Launch) (D : va_G) (t : zTy) (a : Nat → Nat) {v1 : Int32} {v2 : Int32} {x : ST} {out : Int32 × ST} (hf : fX12_spot v1 v2 x = some out) : zMi l yX12_spot wsX12_spot 4 90 D t [.ref (a 0), .int v1, .int v2] (MW t a x) out.1 (MW t a out.2) := by
  refine z_entry_i (cc := cX12_spot) (nL := 3) (by decide) rfl (Nat.le_of_ble_eq_true rfl) (fun E _ _ C R => ?_)
  refine z_sub (lv' := [(0, .ref (a 0)), (1, .int v1), (2, .int v2)]) [0, 1, 2] rfl ?_
  rw [fX12_spot] at hf
  refine z_aload_n C dX12_spot_0 rfl 0 rfl ?_
  refine z_iload_n C dX12_spot_1 rfl 1 rfl ?_
  obtain ⟨q1, h2, hf⟩ := z_bind hf
  refine z_callVi C (rest := []) (tX12_isSpot (ze_l E) (ze_D E) t a h2) gX12_spot_X12_isSpot rfl hdX12_isSpot ⟨(Nat.le_of_ble_eq_true rfl), (Nat.le_of_ble_eq_true rfl)⟩ ⟨Nat.zero_le _, Nat.zero_le _⟩ 0 mw_at_0 rfl rfl rfl (Nat.le_of_ble_eq_true rfl) dX12_spot_2 ?_
  refine z_if_eq C 20 dX12_spot_5 (by decide) (fun c3 => ?_) (fun c3 => ?_)
  · replace hf := z_ift c3 hf
    refine z_sipush C dX12_spot_20 (-10001) rfl ?_
    cases hf
    exact R _ _ dX12_spot_23
  · replace hf := z_iff c3 hf
    refine z_iload_n C dX12_spot_8 rfl 2 rfl ?_
    refine z_i2l C dX12_spot_9 ?_
    refine z_lconst C dX12_spot_10 0 rfl ?_
    refine z_ldc2 C 3 (by decide +kernel) dX12_spot_11 ?_
    obtain ⟨q4, h5, hf⟩ := z_bind hf
    refine z_callSi C (rest := []) (tX12_in (ze_l E) (ze_D E) t _ h5) gX12_spot_X12_in rfl hdX12_in ⟨(Nat.le_of_ble_eq_true rfl), (Nat.le_of_ble_eq_true rfl)⟩ ⟨Nat.zero_le _, Nat.zero_le _⟩ rfl rfl (Nat.le_of_ble_eq_true rfl) dX12_spot_14 ?_
    refine z_if_ne C 24 dX12_spot_17 (by decide) (fun c6 => ?_) (fun c6 => ?_)
    · replace hf := z_iff c6 hf
      refine z_iload_n C dX12_spot_24 rfl 2 rfl ?_
      refine z_iconst C dX12_spot_25 2 rfl ?_
      refine z_icmp_ge C 55 dX12_spot_26 (by decide) (fun c7 => ?_) (fun c7 => ?_)
      · replace hf := z_ift c7 hf
        refine z_iload_n C dX12_spot_55 rfl 2 rfl ?_
        refine z_iconst C dX12_spot_56 2 rfl ?_
        refine z_icmp_ne C 81 dX12_spot_57 (by decide) (fun c8 => ?_) (fun c8 => ?_)
        · replace hf := z_iff c8 hf
          refine z_aload_n C dX12_spot_81 rfl 0 rfl ?_
          refine z_iload_n C dX12_spot_82 rfl 1 rfl ?_
          obtain ⟨q9, h10, hf⟩ := z_bind hf
          refine z_callVi C (rest := []) (tX12_isLost (ze_l E) (ze_D E) t a h10) gX12_spot_X12_isLost rfl hdX12_isLost ⟨(Nat.le_of_ble_eq_true rfl), (Nat.le_of_ble_eq_true rfl)⟩ ⟨Nat.zero_le _, Nat.zero_le _⟩ 0 mw_at_0 rfl rfl rfl (Nat.le_of_ble_eq_true rfl) dX12_spot_83 ?_
          refine z_if_eq C 95 dX12_spot_86 (by decide) (fun c11 => ?_) (fun c11 => ?_)
          · replace hf := z_ift c11 hf
            refine z_aload_n C dX12_spot_95 rfl 0 rfl ?_
            refine z_iload_n C dX12_spot_96 rfl 1 rfl ?_
            obtain ⟨q12, h13, hf⟩ := z_bind hf
            refine z_callVi C (rest := []) (tX12_slopeOf (ze_l E) (ze_D E) t a h13) gX12_spot_X12_slopeOf rfl hdX12_slopeOf ⟨(Nat.le_of_ble_eq_true rfl), (Nat.le_of_ble_eq_true rfl)⟩ ⟨Nat.zero_le _, Nat.zero_le _⟩ 0 mw_at_0 rfl rfl rfl (Nat.le_of_ble_eq_true rfl) dX12_spot_97 ?_
            cases hf
            exact R _ _ dX12_spot_100
          · replace hf := z_iff c11 hf
            refine z_sipush C dX12_spot_89 (-10002) rfl ?_
            refine z_goto C 100 dX12_spot_92 (by decide) ?_
            cases hf
            exact R _ _ dX12_spot_100
        · replace hf := z_ift c8 hf
          refine z_aload_n C dX12_spot_60 rfl 0 rfl ?_
          refine z_iload_n C dX12_spot_61 rfl 1 rfl ?_
          obtain ⟨q14, h15, hf⟩ := z_bind hf
          refine z_callVi C (rest := []) (tX12_isLost (ze_l E) (ze_D E) t a h15) gX12_spot_X12_isLost rfl hdX12_isLost ⟨(Nat.le_of_ble_eq_true rfl), (Nat.le_of_ble_eq_true rfl)⟩ ⟨Nat.zero_le _, Nat.zero_le _⟩ 0 mw_at_0 rfl rfl rfl (Nat.le_of_ble_eq_true rfl) dX12_spot_62 ?_
          refine z_if_eq C 73 dX12_spot_65 (by decide) (fun c16 => ?_) (fun c16 => ?_)
          · replace hf := z_ift c16 hf
            refine z_aload_n C dX12_spot_73 rfl 0 rfl ?_
            refine z_iload_n C dX12_spot_74 rfl 1 rfl ?_
            obtain ⟨q17, h18, hf⟩ := z_bind hf
            refine z_callVi C (rest := []) (tX12_middleOf (ze_l E) (ze_D E) t a h18) gX12_spot_X12_middleOf rfl hdX12_middleOf ⟨(Nat.le_of_ble_eq_true rfl), (Nat.le_of_ble_eq_true rfl)⟩ ⟨Nat.zero_le _, Nat.zero_le _⟩ 0 mw_at_0 rfl rfl rfl (Nat.le_of_ble_eq_true rfl) dX12_spot_75 ?_
            refine z_goto C 100 dX12_spot_78 (by decide) ?_
            cases hf
            exact R _ _ dX12_spot_100
          · replace hf := z_iff c16 hf
            refine z_bipush C dX12_spot_68 (-4) rfl ?_
            refine z_goto C 100 dX12_spot_70 (by decide) ?_
            cases hf
            exact R _ _ dX12_spot_100
      · replace hf := z_iff c7 hf
        refine z_iload_n C dX12_spot_29 rfl 2 rfl ?_
        refine z_if_ne C 41 dX12_spot_30 (by decide) (fun c19 => ?_) (fun c19 => ?_)
        · replace hf := z_iff c19 hf
          refine z_aload_n C dX12_spot_41 rfl 0 rfl ?_
          refine z_iload_n C dX12_spot_42 rfl 1 rfl ?_
          obtain ⟨q20, h21, hf⟩ := z_bind hf
          refine z_callVi C (rest := []) (tX12_isLost (ze_l E) (ze_D E) t a h21) gX12_spot_X12_isLost rfl hdX12_isLost ⟨(Nat.le_of_ble_eq_true rfl), (Nat.le_of_ble_eq_true rfl)⟩ ⟨Nat.zero_le _, Nat.zero_le _⟩ 0 mw_at_0 rfl rfl rfl (Nat.le_of_ble_eq_true rfl) dX12_spot_43 ?_
          refine z_if_eq C 53 dX12_spot_46 (by decide) (fun c22 => ?_) (fun c22 => ?_)
          · replace hf := z_ift c22 hf
            refine z_iconst C dX12_spot_53 0 rfl ?_
            cases hf
            exact R _ _ dX12_spot_54
          · replace hf := z_iff c22 hf
            refine z_iconst C dX12_spot_49 1 rfl ?_
            refine z_goto C 54 dX12_spot_50 (by decide) ?_
            cases hf
            exact R _ _ dX12_spot_54
        · replace hf := z_ift c19 hf
          refine z_aload_n C dX12_spot_33 rfl 0 rfl ?_
          refine z_iload_n C dX12_spot_34 rfl 1 rfl ?_
          obtain ⟨q23, h24, hf⟩ := z_bind hf
          refine z_callVi C (rest := []) (tX12_allLight (ze_l E) (ze_D E) t a h24) gX12_spot_X12_allLight rfl hdX12_allLight ⟨(Nat.le_of_ble_eq_true rfl), (Nat.le_of_ble_eq_true rfl)⟩ ⟨Nat.zero_le _, Nat.zero_le _⟩ 0 mw_at_0 rfl rfl rfl (Nat.le_of_ble_eq_true rfl) dX12_spot_35 ?_
          refine z_goto C 54 dX12_spot_38 (by decide) ?_
          cases hf
          exact R _ _ dX12_spot_54
    · replace hf := z_ift c6 hf
      refine z_sipush C dX12_spot_20 (-10001) rfl ?_
      cases hf
      exact R _ _ dX12_spot_23
theorem uX12_table_12 : ∀ w ∈ wsX120, w ∈ wsX12_table := by decide +kernel
theorem hdX12_table : yX12_table.cls = RX12 ∧ yX12_table.cls ≠ "java/lang/invoke/MethodHandle" ∧ yX12_table.cls ≠ "java/lang/invoke/VarHandle" ∧ (parseMethodDescriptor yX12_table.desc).map (fun d => d.parameters.length) = some 3 := by decide +kernel
set_option maxHeartbeats 4000000 in
set_option maxRecDepth 100000 in
theorem tX12_table (l : Launch) (D : va_G) (t : zTy) (a : Nat → Nat) {v1 : Int32} {v2 : Int32} {v3 : Int32} {x : ST} {out : Int32 × ST} (hf : fX12_table v1 v2 v3 x = some out) : zMi l yX12_table wsX12_table 2 46 D t [.ref (a 0), .int v1, .int v2, .int v3] (MW t a x) out.1 (MW t a out.2) := by
  refine z_entry_i (cc := cX12_table) (nL := 5) (by decide) rfl (Nat.le_of_ble_eq_true rfl) (fun E _ _ C R => ?_)
  refine z_sub (lv' := [(0, .ref (a 0)), (1, .int v1), (2, .int v2), (3, .int v3)]) [0, 1, 2, 3] rfl ?_
  rw [fX12_table] at hf
  refine z_aload_n C dX12_table_0 rfl 0 rfl ?_
  refine z_iload_n C dX12_table_1 rfl 1 rfl ?_
  obtain ⟨q1, h2, hf⟩ := z_bind hf
  refine z_callVi C (rest := []) (tX12_isSpot (ze_l E) (ze_D E) t a h2) gX12_table_X12_isSpot rfl hdX12_isSpot ⟨(Nat.le_of_ble_eq_true rfl), (Nat.le_of_ble_eq_true rfl)⟩ ⟨Nat.zero_le _, Nat.zero_le _⟩ 0 mw_at_0 rfl rfl rfl (Nat.le_of_ble_eq_true rfl) dX12_table_2 ?_
  refine z_if_eq C 30 dX12_table_5 (by decide) (fun c3 => ?_) (fun c3 => ?_)
  · replace hf := z_ift c3 hf
    refine z_sipush C dX12_table_30 (-10001) rfl ?_
    cases hf
    exact R _ _ dX12_table_33
  · replace hf := z_iff c3 hf
    refine z_aload_n C dX12_table_8 rfl 0 rfl ?_
    refine z_iload_n C dX12_table_9 rfl 2 rfl ?_
    obtain ⟨q4, h5, hf⟩ := z_bind hf
    refine z_callVi C (rest := []) (tX12_isPart (ze_l E) (ze_D E) t a h5) gX12_table_X12_isPart rfl hdX12_isPart ⟨(Nat.le_of_ble_eq_true rfl), (Nat.le_of_ble_eq_true rfl)⟩ ⟨Nat.zero_le _, Nat.zero_le _⟩ 0 mw_at_0 rfl rfl rfl (Nat.le_of_ble_eq_true rfl) dX12_table_10 ?_
    refine z_if_eq C 30 dX12_table_13 (by decide) (fun c6 => ?_) (fun c6 => ?_)
    · replace hf := z_ift c6 hf
      refine z_sipush C dX12_table_30 (-10001) rfl ?_
      cases hf
      exact R _ _ dX12_table_33
    · replace hf := z_iff c6 hf
      refine z_iload_n C dX12_table_16 rfl 3 rfl ?_
      refine z_i2l C dX12_table_17 ?_
      refine z_ldc2 C (-9) (by decide +kernel) dX12_table_18 ?_
      refine z_ldc2 C 9 (by decide +kernel) dX12_table_21 ?_
      obtain ⟨q7, h8, hf⟩ := z_bind hf
      refine z_callSi C (rest := []) (tX12_in (ze_l E) (ze_D E) t _ h8) gX12_table_X12_in rfl hdX12_in ⟨(Nat.le_of_ble_eq_true rfl), (Nat.le_of_ble_eq_true rfl)⟩ ⟨Nat.zero_le _, Nat.zero_le _⟩ rfl rfl (Nat.le_of_ble_eq_true rfl) dX12_table_24 ?_
      refine z_if_ne C 34 dX12_table_27 (by decide) (fun c9 => ?_) (fun c9 => ?_)
      · replace hf := z_iff c9 hf
        refine z_aload_n C dX12_table_34 rfl 0 rfl ?_
        refine mg_StillStarsModel_table C uX12_table_12 (by decide +kernel) dX12_table_35 ?_
        refine z_iconst C dX12_table_38 5 rfl ?_
        refine z_iload_n C dX12_table_39 rfl 1 rfl ?_
        refine z_imul C dX12_table_40 ?_
        refine z_iload_n C dX12_table_41 rfl 2 rfl ?_
        refine z_iadd C dX12_table_42 ?_
        obtain ⟨h10, hf⟩ := z_some hf
        refine z_iald C 3 mw_at_3 h10 dX12_table_43 ?_
        refine z_istore C [(4, .int (gA q4.2 3 ((5 * v1) + v2).toNatClampNeg)), (0, .ref (a 0)), (1, .int v1), (2, .int v2), (3, .int v3)] dX12_table_44 (by decide) rfl ?_
        refine z_aload_n C dX12_table_46 rfl 1 rfl ?_
        refine mg_StillStarsModel_table C uX12_table_12 (by decide +kernel) dX12_table_47 ?_
        refine z_iconst C dX12_table_50 5 rfl ?_
        refine z_iload_n C dX12_table_51 rfl 2 rfl ?_
        refine z_imul C dX12_table_52 ?_
        refine z_iload_n C dX12_table_53 rfl 3 rfl ?_
        refine z_iadd C dX12_table_54 ?_
        refine z_iload_n C dX12_table_55 rfl 4 rfl ?_
        obtain ⟨h11, hf⟩ := z_some hf
        refine z_iast C 3 mw_at_3 h11 (w' := MW t a (sA q4.2 3 ((5 * v1) + v2) v3)) mw_up_3 dX12_table_56 ?_
        refine z_aload_n C dX12_table_57 rfl 1 rfl ?_
        refine mg_StillStarsModel_pokeMany C uX12_table_12 (by decide +kernel) dX12_table_58 ?_
        refine z_iload_n C dX12_table_61 rfl 3 rfl ?_
        refine z_iconst C dX12_table_62 0 rfl ?_
        obtain ⟨h12, hf⟩ := z_some hf
        refine z_iast C 7 mw_at_7 h12 (w' := MW t a (sA (sA q4.2 3 ((5 * v1) + v2) v3) 7 v2 0)) mw_up_7 dX12_table_63 ?_
        refine z_iload C dX12_table_64 0 rfl ?_
        cases hf
        exact R _ _ dX12_table_66
      · replace hf := z_ift c9 hf
        refine z_sipush C dX12_table_30 (-10001) rfl ?_
        cases hf
        exact R _ _ dX12_table_33
theorem uX12_changeOf_12 : ∀ w ∈ wsX120, w ∈ wsX12_changeOf := by decide +kernel
theorem hdX12_changeOf : yX12_changeOf.cls = RX12 ∧ yX12_changeOf.cls ≠ "java/lang/invoke/MethodHandle" ∧ yX12_changeOf.cls ≠ "java/lang/invoke/VarHandle" ∧ (parseMethodDescriptor yX12_changeOf.desc).map (fun d => d.parameters.length) = some 3 := by decide +kernel
set_option maxHeartbeats 4000000 in
set_option maxRecDepth 100000 in
theorem tX12_changeOf (l : Launch) (D : va_G) (t : zTy) (a : Nat → Nat) {v1 : Int32} {v2 : Int32} {v3 : Int32} {x : ST} {out : Int32 × ST} (hf : fX12_changeOf v1 v2 v3 x = some out) : zMi l yX12_changeOf wsX12_changeOf 0 0 D t [.ref (a 0), .int v1, .int v2, .int v3] (MW t a x) out.1 (MW t a out.2) := by
  refine z_entry_i (cc := cX12_changeOf) (nL := 4) (by decide) rfl (Nat.le_of_ble_eq_true rfl) (fun E _ _ C R => ?_)
  refine z_sub (lv' := [(0, .ref (a 0)), (1, .int v1), (2, .int v2), (3, .int v3)]) [0, 1, 2, 3] rfl ?_
  rw [fX12_changeOf] at hf
  refine z_aload_n C dX12_changeOf_0 rfl 0 rfl ?_
  refine mg_StillStarsModel_pokes C uX12_changeOf_12 (by decide +kernel) dX12_changeOf_1 ?_
  refine z_bipush C dX12_changeOf_4 8 rfl ?_
  refine z_bipush C dX12_changeOf_6 9 rfl ?_
  refine z_iload_n C dX12_changeOf_8 rfl 1 rfl ?_
  refine z_imul C dX12_changeOf_9 ?_
  refine z_iload_n C dX12_changeOf_10 rfl 2 rfl ?_
  refine z_iadd C dX12_changeOf_11 ?_
  refine z_imul C dX12_changeOf_12 ?_
  refine z_iload_n C dX12_changeOf_13 rfl 3 rfl ?_
  refine z_iadd C dX12_changeOf_14 ?_
  obtain ⟨h1, hf⟩ := z_some hf
  refine z_iald C 9 mw_at_9 h1 dX12_changeOf_15 ?_
  cases hf
  exact R _ _ dX12_changeOf_16
theorem uX12_tabulate_12 : ∀ w ∈ wsX120, w ∈ wsX12_tabulate := by decide +kernel
set_option maxHeartbeats 4000000 in
set_option maxRecDepth 100000 in
theorem kX12_tabulate_121 (E : zE) (t : zTy) (a : Nat → Nat) (out : ST) (C : zC E cX12_tabulate 6 RX12 wsX12_tabulate (zrm 1 23) t) (R : zRv E cX12_tabulate 6 (MW t a out)) (kb36 : Int32 → Int32 → Int32 → ST → Option (ST)) (Kb36 : ∀ (v1 : Int32) (v2 : Int32) (v3 : Int32) (x : ST), kb36 v1 v2 v3 x = some out → zG E 6 0 0 (MW t a x) 36 [(0, .ref (a 0)), (1, .int v1), (2, .int v2), (3, .int v3)] []) : ∀ (v1 : Int32) (v2 : Int32) (v3 : Int32) (s0 : Int32) (s1 : Int32) (x : ST), fX12_tabulate_121 kb36 v1 v2 v3 s0 s1 x = some out → zG E 6 0 0 (MW t a x) 121 [(0, .ref (a 0)), (1, .int v1), (2, .int v2), (3, .int v3)] [.int s0, .int s1, .ref (a 3)] := by
  intro v1 v2 v3 s0 s1 x hf
  rw [fX12_tabulate_121] at hf
  obtain ⟨h12, hf⟩ := z_some hf
  refine z_iast C 3 mw_at_3 h12 (w' := MW t a (sA x 3 s1 s0)) mw_up_3 dX12_tabulate_121 ?_
  refine z_iinc C (v3 + 1) [(3, .int (v3 + 1)), (0, .ref (a 0)), (1, .int v1), (2, .int v2)] dX12_tabulate_122 3 rfl rfl (by decide) rfl ?_
  refine z_goto C 36 dX12_tabulate_125 (by decide) ?_
  exact z_sub [1, 2, 3, 0] rfl (Kb36 _ _ _ _ hf)
set_option maxHeartbeats 4000000 in
set_option maxRecDepth 100000 in
theorem kX12_tabulate_80 (E : zE) (t : zTy) (a : Nat → Nat) (out : ST) (C : zC E cX12_tabulate 6 RX12 wsX12_tabulate (zrm 1 23) t) (R : zRv E cX12_tabulate 6 (MW t a out)) (kb36 : Int32 → Int32 → Int32 → ST → Option (ST)) (Kb36 : ∀ (v1 : Int32) (v2 : Int32) (v3 : Int32) (x : ST), kb36 v1 v2 v3 x = some out → zG E 6 0 0 (MW t a x) 36 [(0, .ref (a 0)), (1, .int v1), (2, .int v2), (3, .int v3)] []) : ∀ (v1 : Int32) (v2 : Int32) (v3 : Int32) (v4 : Int32) (x : ST), fX12_tabulate_80 kb36 v1 v2 v3 v4 x = some out → zG E 6 0 0 (MW t a x) 80 [(0, .ref (a 0)), (1, .int v1), (2, .int v2), (3, .int v3), (4, .int v4)] [] := by
  intro v1 v2 v3 v4 x hf
  rw [fX12_tabulate_80] at hf
  refine z_iload C dX12_tabulate_80 4 rfl ?_
  refine z_iload_n C dX12_tabulate_82 rfl 2 rfl ?_
  obtain ⟨h9, hf⟩ := z_div hf
  refine z_idiv C h9 dX12_tabulate_83 ?_
  refine z_istore C [(5, .int (v4 / v2)), (0, .ref (a 0)), (1, .int v1), (2, .int v2), (3, .int v3), (4, .int v4)] dX12_tabulate_84 (by decide) rfl ?_
  refine z_aload_n C dX12_tabulate_86 rfl 1 rfl ?_
  refine mg_StillStarsModel_table C uX12_tabulate_12 (by decide +kernel) dX12_tabulate_87 ?_
  refine z_iconst C dX12_tabulate_90 5 rfl ?_
  refine z_iload_n C dX12_tabulate_91 rfl 4 rfl ?_
  refine z_imul C dX12_tabulate_92 ?_
  refine z_iload_n C dX12_tabulate_93 rfl 2 rfl ?_
  refine z_iadd C dX12_tabulate_94 ?_
  refine z_iload C dX12_tabulate_95 0 rfl ?_
  refine z_bipush C dX12_tabulate_97 9 rfl ?_
  refine z_icmp_le C 107 dX12_tabulate_99 (by decide) (fun c10 => ?_) (fun c10 => ?_)
  · replace hf := z_ift c10 hf
    refine z_iload C dX12_tabulate_107 0 rfl ?_
    refine z_bipush C dX12_tabulate_109 (-9) rfl ?_
    refine z_icmp_ge C 119 dX12_tabulate_111 (by decide) (fun c11 => ?_) (fun c11 => ?_)
    · replace hf := z_ift c11 hf
      refine z_iload C dX12_tabulate_119 0 rfl ?_
      exact z_sub [1, 2, 3, 4] rfl (kX12_tabulate_121 E t a out C R (kb36) (Kb36) _ _ _ _ _ _ hf)
    · replace hf := z_iff c11 hf
      refine z_bipush C dX12_tabulate_114 (-9) rfl ?_
      refine z_goto C 121 dX12_tabulate_116 (by decide) ?_
      exact z_sub [1, 2, 3, 4] rfl (kX12_tabulate_121 E t a out C R (kb36) (Kb36) _ _ _ _ _ _ hf)
  · replace hf := z_iff c10 hf
    refine z_bipush C dX12_tabulate_102 9 rfl ?_
    refine z_goto C 121 dX12_tabulate_104 (by decide) ?_
    exact z_sub [1, 2, 3, 4] rfl (kX12_tabulate_121 E t a out C R (kb36) (Kb36) _ _ _ _ _ _ hf)
set_option maxHeartbeats 4000000 in
set_option maxRecDepth 100000 in
theorem kX12_tabulate_50 (E : zE) (t : zTy) (a : Nat → Nat) (out : ST) (C : zC E cX12_tabulate 6 RX12 wsX12_tabulate (zrm 1 23) t) (R : zRv E cX12_tabulate 6 (MW t a out)) (kb36 : Int32 → Int32 → Int32 → ST → Option (ST)) (Kb36 : ∀ (v1 : Int32) (v2 : Int32) (v3 : Int32) (x : ST), kb36 v1 v2 v3 x = some out → zG E 6 0 0 (MW t a x) 36 [(0, .ref (a 0)), (1, .int v1), (2, .int v2), (3, .int v3)] []) : ∀ (n : Nat) (v1 : Int32) (v2 : Int32) (v3 : Int32) (v4 : Int32) (v5 : Int32) (x : ST), fX12_tabulate_50 kb36 n v1 v2 v3 v4 v5 x = some out → zG E 6 0 0 (MW t a x) 50 [(0, .ref (a 0)), (1, .int v1), (2, .int v2), (3, .int v3), (4, .int v4), (5, .int v5)] [] := by
  intro n
  induction n with
  | zero =>
    intro v1 v2 v3 v4 v5 x hf
    cases hf
  | succ n ih =>
    intro v1 v2 v3 v4 v5 x hf
    rw [fX12_tabulate_50] at hf
    refine z_iload C dX12_tabulate_50 5 rfl ?_
    refine z_aload_n C dX12_tabulate_52 rfl 0 rfl ?_
    refine mg_StillStarsModel_pokeMany C uX12_tabulate_12 (by decide +kernel) dX12_tabulate_53 ?_
    refine z_iload_n C dX12_tabulate_56 rfl 1 rfl ?_
    obtain ⟨h5, hf⟩ := z_some hf
    refine z_iald C 7 mw_at_7 h5 dX12_tabulate_57 ?_
    refine z_icmp_ge C 80 dX12_tabulate_58 (by decide) (fun c6 => ?_) (fun c6 => ?_)
    · replace hf := z_ift c6 hf
      exact z_sub [0, 1, 2, 3, 4] rfl (kX12_tabulate_80 E t a out C R (kb36) (Kb36) _ _ _ _ _ hf)
    · replace hf := z_iff c6 hf
      refine z_iload C dX12_tabulate_61 4 rfl ?_
      refine z_aload_n C dX12_tabulate_63 rfl 0 rfl ?_
      refine z_iload_n C dX12_tabulate_64 rfl 1 rfl ?_
      refine z_iload C dX12_tabulate_65 5 rfl ?_
      refine z_iload_n C dX12_tabulate_67 rfl 3 rfl ?_
      obtain ⟨q7, h8, hf⟩ := z_bind hf
      refine z_callVi C (rest := [.int v4]) (tX12_changeOf (ze_l E) (ze_D E) t a h8) gX12_tabulate_X12_changeOf rfl hdX12_changeOf ⟨(Nat.le_of_ble_eq_true rfl), (Nat.le_of_ble_eq_true rfl)⟩ ⟨Nat.zero_le _, Nat.zero_le _⟩ 0 mw_at_0 rfl rfl rfl (Nat.le_of_ble_eq_true rfl) dX12_tabulate_68 ?_
      refine z_iadd C dX12_tabulate_71 ?_
      refine z_istore C [(4, .int (v4 + q7.1)), (0, .ref (a 0)), (1, .int v1), (2, .int v2), (3, .int v3), (5, .int v5)] dX12_tabulate_72 (by decide) rfl ?_
      refine z_iinc C (v5 + 1) [(5, .int (v5 + 1)), (4, .int (v4 + q7.1)), (0, .ref (a 0)), (1, .int v1), (2, .int v2), (3, .int v3)] dX12_tabulate_74 5 rfl rfl (by decide) rfl ?_
      refine z_goto C 50 dX12_tabulate_77 (by decide) ?_
      exact z_sub [2, 3, 4, 5, 1, 0] rfl (ih _ _ _ _ _ _ hf)
set_option maxHeartbeats 4000000 in
set_option maxRecDepth 100000 in
theorem kX12_tabulate_36 (E : zE) (t : zTy) (a : Nat → Nat) (out : ST) (C : zC E cX12_tabulate 6 RX12 wsX12_tabulate (zrm 1 23) t) (R : zRv E cX12_tabulate 6 (MW t a out)) : ∀ (n : Nat) (v1 : Int32) (v2 : Int32) (v3 : Int32) (x : ST), fX12_tabulate_36 n v1 v2 v3 x = some out → zG E 6 0 0 (MW t a x) 36 [(0, .ref (a 0)), (1, .int v1), (2, .int v2), (3, .int v3)] [] := by
  intro n
  induction n with
  | zero =>
    intro v1 v2 v3 x hf
    cases hf
  | succ n ih =>
    intro v1 v2 v3 x hf
    rw [fX12_tabulate_36] at hf
    refine z_iload_n C dX12_tabulate_36 rfl 3 rfl ?_
    refine z_aload_n C dX12_tabulate_37 rfl 0 rfl ?_
    refine mg_StillStarsModel_spots C uX12_tabulate_12 (by decide +kernel) dX12_tabulate_38 ?_
    refine z_icmp_ge C 128 dX12_tabulate_41 (by decide) (fun c4 => ?_) (fun c4 => ?_)
    · replace hf := z_ift c4 hf
      cases hf
      exact R _ _ dX12_tabulate_128
    · replace hf := z_iff c4 hf
      refine z_iconst C dX12_tabulate_44 0 rfl ?_
      refine z_istore C [(4, .int 0), (0, .ref (a 0)), (1, .int v1), (2, .int v2), (3, .int v3)] dX12_tabulate_45 (by decide) rfl ?_
      refine z_iconst C dX12_tabulate_47 0 rfl ?_
      refine z_istore C [(5, .int 0), (4, .int 0), (0, .ref (a 0)), (1, .int v1), (2, .int v2), (3, .int v3)] dX12_tabulate_48 (by decide) rfl ?_
      exact z_sub [2, 3, 4, 5, 1, 0] rfl (kX12_tabulate_50 E t a out C R (fX12_tabulate_36 n) (ih) 200 _ _ _ _ _ _ hf)
set_option maxHeartbeats 4000000 in
set_option maxRecDepth 100000 in
theorem kX12_tabulate_34 (E : zE) (t : zTy) (a : Nat → Nat) (out : ST) (C : zC E cX12_tabulate 6 RX12 wsX12_tabulate (zrm 1 23) t) (R : zRv E cX12_tabulate 6 (MW t a out)) : ∀ (v1 : Int32) (v2 : Int32) (x : ST), fX12_tabulate_34 v1 v2 x = some out → zG E 6 0 0 (MW t a x) 34 [(0, .ref (a 0)), (1, .int v1), (2, .int v2)] [] := by
  intro v1 v2 x hf
  rw [fX12_tabulate_34] at hf
  refine z_iconst C dX12_tabulate_34 0 rfl ?_
  refine z_istore_n C [(3, .int 0), (0, .ref (a 0)), (1, .int v1), (2, .int v2)] dX12_tabulate_35 rfl (by decide) rfl ?_
  exact z_sub [1, 2, 3, 0] rfl (kX12_tabulate_36 E t a out C R 200 _ _ _ _ hf)
set_option maxHeartbeats 4000000 in
set_option maxRecDepth 100000 in
theorem kX12_tabulate_4 (E : zE) (t : zTy) (a : Nat → Nat) (out : ST) (C : zC E cX12_tabulate 6 RX12 wsX12_tabulate (zrm 1 23) t) (R : zRv E cX12_tabulate 6 (MW t a out)) : ∀ (n : Nat) (v1 : Int32) (v2 : Int32) (v3 : Int32) (x : ST), fX12_tabulate_4 n v1 v2 v3 x = some out → zG E 6 0 0 (MW t a x) 4 [(0, .ref (a 0)), (1, .int v1), (2, .int v2), (3, .int v3)] [] := by
  intro n
  induction n with
  | zero =>
    intro v1 v2 v3 x hf
    cases hf
  | succ n ih =>
    intro v1 v2 v3 x hf
    rw [fX12_tabulate_4] at hf
    refine z_iload_n C dX12_tabulate_4 rfl 3 rfl ?_
    refine z_aload_n C dX12_tabulate_5 rfl 0 rfl ?_
    refine mg_StillStarsModel_pokeMany C uX12_tabulate_12 (by decide +kernel) dX12_tabulate_6 ?_
    refine z_iload_n C dX12_tabulate_9 rfl 1 rfl ?_
    obtain ⟨h1, hf⟩ := z_some hf
    refine z_iald C 7 mw_at_7 h1 dX12_tabulate_10 ?_
    refine z_icmp_ge C 34 dX12_tabulate_11 (by decide) (fun c2 => ?_) (fun c2 => ?_)
    · replace hf := z_ift c2 hf
      exact z_sub [0, 1, 2] rfl (kX12_tabulate_34 E t a out C R _ _ _ hf)
    · replace hf := z_iff c2 hf
      refine z_iload_n C dX12_tabulate_14 rfl 2 rfl ?_
      refine z_aload_n C dX12_tabulate_15 rfl 0 rfl ?_
      refine mg_StillStarsModel_pokeBy C uX12_tabulate_12 (by decide +kernel) dX12_tabulate_16 ?_
      refine z_bipush C dX12_tabulate_19 9 rfl ?_
      refine z_iload_n C dX12_tabulate_21 rfl 1 rfl ?_
      refine z_imul C dX12_tabulate_22 ?_
      refine z_iload_n C dX12_tabulate_23 rfl 3 rfl ?_
      refine z_iadd C dX12_tabulate_24 ?_
      obtain ⟨h3, hf⟩ := z_some hf
      refine z_iald C 8 mw_at_8 h3 dX12_tabulate_25 ?_
      refine z_iadd C dX12_tabulate_26 ?_
      refine z_istore_n C [(2, .int (v2 + (gA x 8 ((9 * v1) + v3).toNatClampNeg))), (0, .ref (a 0)), (1, .int v1), (3, .int v3)] dX12_tabulate_27 rfl (by decide) rfl ?_
      refine z_iinc C (v3 + 1) [(3, .int (v3 + 1)), (2, .int (v2 + (gA x 8 ((9 * v1) + v3).toNatClampNeg))), (0, .ref (a 0)), (1, .int v1)] dX12_tabulate_28 3 rfl rfl (by decide) rfl ?_
      refine z_goto C 4 dX12_tabulate_31 (by decide) ?_
      exact z_sub [2, 3, 1, 0] rfl (ih _ _ _ _ hf)
theorem hdX12_tabulate : yX12_tabulate.cls = RX12 ∧ yX12_tabulate.cls ≠ "java/lang/invoke/MethodHandle" ∧ yX12_tabulate.cls ≠ "java/lang/invoke/VarHandle" ∧ (parseMethodDescriptor yX12_tabulate.desc).map (fun d => d.parameters.length) = some 1 := by decide +kernel
set_option maxHeartbeats 4000000 in
set_option maxRecDepth 100000 in
theorem tX12_tabulate (l : Launch) (D : va_G) (t : zTy) (a : Nat → Nat) {v1 : Int32} {x : ST} {out : ST} (hf : fX12_tabulate v1 x = some out) : zMv l yX12_tabulate wsX12_tabulate 1 23 D t [.ref (a 0), .int v1] (MW t a x) (MW t a out) := by
  refine z_entry_v (cc := cX12_tabulate) (nL := 6) (by decide) rfl (Nat.le_of_ble_eq_true rfl) (fun E _ _ C R => ?_)
  refine z_sub (lv' := [(0, .ref (a 0)), (1, .int v1)]) [0, 1] rfl ?_
  rw [fX12_tabulate] at hf
  refine z_iconst C dX12_tabulate_0 0 rfl ?_
  refine z_istore_n C [(2, .int 0), (0, .ref (a 0)), (1, .int v1)] dX12_tabulate_1 rfl (by decide) rfl ?_
  refine z_iconst C dX12_tabulate_2 0 rfl ?_
  refine z_istore_n C [(3, .int 0), (2, .int 0), (0, .ref (a 0)), (1, .int v1)] dX12_tabulate_3 rfl (by decide) rfl ?_
  exact z_sub [2, 3, 1, 0] rfl (kX12_tabulate_4 E t a out C R 200 _ _ _ _ hf)
theorem uX12_against_12 : ∀ w ∈ wsX120, w ∈ wsX12_against := by decide +kernel
theorem hdX12_against : yX12_against.cls = RX12 ∧ yX12_against.cls ≠ "java/lang/invoke/MethodHandle" ∧ yX12_against.cls ≠ "java/lang/invoke/VarHandle" ∧ (parseMethodDescriptor yX12_against.desc).map (fun d => d.parameters.length) = some 4 := by decide +kernel
set_option maxHeartbeats 4000000 in
set_option maxRecDepth 100000 in
theorem tX12_against (l : Launch) (D : va_G) (t : zTy) (a : Nat → Nat) {v1 : Int32} {v2 : Int32} {v3 : Int32} {v4 : Int32} {x : ST} {out : Int32 × ST} (hf : fX12_against v1 v2 v3 v4 x = some out) : zMi l yX12_against wsX12_against 1 25 D t [.ref (a 0), .int v1, .int v2, .int v3, .int v4] (MW t a x) out.1 (MW t a out.2) := by
  refine z_entry_i (cc := cX12_against) (nL := 5) (by decide) rfl (Nat.le_of_ble_eq_true rfl) (fun E _ _ C R => ?_)
  refine z_sub (lv' := [(0, .ref (a 0)), (1, .int v1), (2, .int v2), (3, .int v3), (4, .int v4)]) [0, 1, 2, 3, 4] rfl ?_
  rw [fX12_against] at hf
  refine z_aload_n C dX12_against_0 rfl 0 rfl ?_
  refine mg_StillStarsModel_lanes C uX12_against_12 (by decide +kernel) dX12_against_1 ?_
  refine z_iload_n C dX12_against_4 rfl 1 rfl ?_
  obtain ⟨h1, hf⟩ := z_some hf
  refine z_iald C 28 mw_at_28 h1 dX12_against_5 ?_
  refine z_iload_n C dX12_against_6 rfl 2 rfl ?_
  refine z_icmp_eq C 27 dX12_against_7 (by decide) (fun c2 => ?_) (fun c2 => ?_)
  · replace hf := z_ift c2 hf
    refine z_iload_n C dX12_against_27 rfl 3 rfl ?_
    refine z_i2l C dX12_against_28 ?_
    refine z_lconst C dX12_against_29 0 rfl ?_
    refine z_aload_n C dX12_against_30 rfl 0 rfl ?_
    refine mg_StillStarsModel_sizes C uX12_against_12 (by decide +kernel) dX12_against_31 ?_
    refine z_iload_n C dX12_against_34 rfl 1 rfl ?_
    obtain ⟨h3, hf⟩ := z_some hf
    refine z_iald C 29 mw_at_29 h3 dX12_against_35 ?_
    refine z_iload C dX12_against_36 4 rfl ?_
    refine z_isub C dX12_against_38 ?_
    refine z_i2l C dX12_against_39 ?_
    obtain ⟨q4, h5, hf⟩ := z_bind hf
    refine z_callSi C (rest := []) (tX12_in (ze_l E) (ze_D E) t _ h5) gX12_against_X12_in rfl hdX12_in ⟨(Nat.le_of_ble_eq_true rfl), (Nat.le_of_ble_eq_true rfl)⟩ ⟨Nat.zero_le _, Nat.zero_le _⟩ rfl rfl (Nat.le_of_ble_eq_true rfl) dX12_against_40 ?_
    refine z_if_eq C 50 dX12_against_43 (by decide) (fun c6 => ?_) (fun c6 => ?_)
    · replace hf := z_ift c6 hf
      refine z_bipush C dX12_against_50 (-13) rfl ?_
      cases hf
      exact R _ _ dX12_against_52
    · replace hf := z_iff c6 hf
      refine z_iconst C dX12_against_46 0 rfl ?_
      refine z_goto C 52 dX12_against_47 (by decide) ?_
      cases hf
      exact R _ _ dX12_against_52
  · replace hf := z_iff c2 hf
    refine z_aload_n C dX12_against_10 rfl 0 rfl ?_
    refine mg_StillStarsModel_lanes C uX12_against_12 (by decide +kernel) dX12_against_11 ?_
    refine z_iload_n C dX12_against_14 rfl 1 rfl ?_
    obtain ⟨h7, hf⟩ := z_some hf
    refine z_iald C 28 mw_at_28 h7 dX12_against_15 ?_
    refine z_if_ge C 24 dX12_against_16 (by decide) (fun c8 => ?_) (fun c8 => ?_)
    · replace hf := z_ift c8 hf
      refine z_bipush C dX12_against_24 (-12) rfl ?_
      cases hf
      exact R _ _ dX12_against_26
    · replace hf := z_iff c8 hf
      refine z_bipush C dX12_against_19 (-11) rfl ?_
      refine z_goto C 26 dX12_against_21 (by decide) ?_
      cases hf
      exact R _ _ dX12_against_26
theorem uX12_poke_12 : ∀ w ∈ wsX120, w ∈ wsX12_poke := by decide +kernel
set_option maxHeartbeats 4000000 in
set_option maxRecDepth 100000 in
theorem kX12_poke_183 (E : zE) (t : zTy) (a : Nat → Nat) (out : Int32 × ST) (C : zC E cX12_poke 10 RX12 wsX12_poke (zrm 2 49) t) (R : zRi E cX12_poke 10 out.1 (MW t a out.2)) : ∀ (v1 : Int32) (x : ST), fX12_poke_183 v1 x = some out → zG E 10 0 0 (MW t a x) 183 [(0, .ref (a 0)), (1, .int v1)] [] := by
  intro v1 x hf
  rw [fX12_poke_183] at hf
  refine z_aload_n C dX12_poke_183 rfl 0 rfl ?_
  refine mg_StillStarsModel_pokeMany C uX12_poke_12 (by decide +kernel) dX12_poke_184 ?_
  refine z_iload_n C dX12_poke_187 rfl 1 rfl ?_
  refine z_dup2 C dX12_poke_188 rfl rfl ?_
  obtain ⟨h25, hf⟩ := z_some hf
  refine z_iald C 7 mw_at_7 h25 dX12_poke_189 ?_
  refine z_iconst C dX12_poke_190 1 rfl ?_
  refine z_iadd C dX12_poke_191 ?_
  obtain ⟨h26, hf⟩ := z_some hf
  refine z_iast C 7 mw_at_7 h26 (w' := MW t a (sA x 7 v1 ((gA x 7 v1.toNatClampNeg) + 1))) mw_up_7 dX12_poke_192 ?_
  refine z_aload_n C dX12_poke_193 rfl 0 rfl ?_
  refine z_iload_n C dX12_poke_194 rfl 1 rfl ?_
  obtain ⟨q27, h28, hf⟩ := z_bind hf
  refine z_callVv C (rest := []) (tX12_tabulate (ze_l E) (ze_D E) t a h28) gX12_poke_X12_tabulate rfl hdX12_tabulate ⟨(Nat.le_of_ble_eq_true rfl), (Nat.le_of_ble_eq_true rfl)⟩ ⟨Nat.zero_le _, Nat.zero_le _⟩ 0 mw_at_0 rfl rfl rfl (Nat.le_of_ble_eq_true rfl) dX12_poke_195 ?_
  refine z_aload_n C dX12_poke_198 rfl 0 rfl ?_
  refine mg_StillStarsModel_pokeMany C uX12_poke_12 (by decide +kernel) dX12_poke_199 ?_
  refine z_iload_n C dX12_poke_202 rfl 1 rfl ?_
  obtain ⟨h29, hf⟩ := z_some hf
  refine z_iald C 7 mw_at_7 h29 dX12_poke_203 ?_
  cases hf
  exact R _ _ dX12_poke_204
set_option maxHeartbeats 4000000 in
set_option maxRecDepth 100000 in
theorem kX12_poke_145 (E : zE) (t : zTy) (a : Nat → Nat) (out : Int32 × ST) (C : zC E cX12_poke 10 RX12 wsX12_poke (zrm 2 49) t) (R : zRi E cX12_poke 10 out.1 (MW t a out.2)) : ∀ (n : Nat) (v1 : Int32) (v7 : Int32) (v8 : Int32) (v9 : Int32) (x : ST), fX12_poke_145 n v1 v7 v8 v9 x = some out → zG E 10 0 0 (MW t a x) 145 [(0, .ref (a 0)), (1, .int v1), (7, .int v7), (8, .int v8), (9, .int v9)] [] := by
  intro n
  induction n with
  | zero =>
    intro v1 v7 v8 v9 x hf
    cases hf
  | succ n ih =>
    intro v1 v7 v8 v9 x hf
    rw [fX12_poke_145] at hf
    refine z_iload C dX12_poke_145 4 rfl ?_
    refine z_aload_n C dX12_poke_147 rfl 0 rfl ?_
    refine mg_StillStarsModel_spots C uX12_poke_12 (by decide +kernel) dX12_poke_148 ?_
    refine z_icmp_ge C 183 dX12_poke_151 (by decide) (fun c22 => ?_) (fun c22 => ?_)
    · replace hf := z_ift c22 hf
      exact z_sub [0, 1] rfl (kX12_poke_183 E t a out C R _ _ hf)
    · replace hf := z_iff c22 hf
      refine z_aload_n C dX12_poke_154 rfl 0 rfl ?_
      refine mg_StillStarsModel_pokes C uX12_poke_12 (by decide +kernel) dX12_poke_155 ?_
      refine z_bipush C dX12_poke_158 8 rfl ?_
      refine z_iload C dX12_poke_160 3 rfl ?_
      refine z_imul C dX12_poke_162 ?_
      refine z_iload C dX12_poke_163 4 rfl ?_
      refine z_iadd C dX12_poke_165 ?_
      refine z_aload_n C dX12_poke_166 rfl 0 rfl ?_
      refine mg_StillStarsModel_items C uX12_poke_12 (by decide +kernel) dX12_poke_167 ?_
      refine z_iload C dX12_poke_170 2 rfl ?_
      refine z_iload C dX12_poke_172 4 rfl ?_
      refine z_iadd C dX12_poke_174 ?_
      obtain ⟨h23, hf⟩ := z_some hf
      refine z_iald C 30 mw_at_30 h23 dX12_poke_175 ?_
      obtain ⟨h24, hf⟩ := z_some hf
      refine z_iast C 9 mw_at_9 h24 (w' := MW t a (sA x 9 ((8 * v8) + v9) (gA x 30 (v7 + v9).toNatClampNeg))) mw_up_9 dX12_poke_176 ?_
      refine z_iinc C (v9 + 1) [(9, .int (v9 + 1)), (0, .ref (a 0)), (1, .int v1), (7, .int v7), (8, .int v8)] dX12_poke_177 4 rfl rfl (by decide) rfl ?_
      refine z_goto C 145 dX12_poke_180 (by decide) ?_
      exact z_sub [1, 2, 3, 4, 0] rfl (ih _ _ _ _ _ hf)
set_option maxHeartbeats 4000000 in
set_option maxRecDepth 100000 in
theorem kX12_poke_107 (E : zE) (t : zTy) (a : Nat → Nat) (out : Int32 × ST) (C : zC E cX12_poke 10 RX12 wsX12_poke (zrm 2 49) t) (R : zRi E cX12_poke 10 out.1 (MW t a out.2)) : ∀ (v1 : Int32) (v2 : Int32) (v7 : Int32) (x : ST), fX12_poke_107 v1 v2 v7 x = some out → zG E 10 0 0 (MW t a x) 107 [(0, .ref (a 0)), (1, .int v1), (2, .int v2), (7, .int v7)] [] := by
  intro v1 v2 v7 x hf
  rw [fX12_poke_107] at hf
  refine z_aload_n C dX12_poke_107 rfl 0 rfl ?_
  refine mg_StillStarsModel_pokeMany C uX12_poke_12 (by decide +kernel) dX12_poke_108 ?_
  refine z_iload_n C dX12_poke_111 rfl 1 rfl ?_
  obtain ⟨h18, hf⟩ := z_some hf
  refine z_iald C 7 mw_at_7 h18 dX12_poke_112 ?_
  refine z_bipush C dX12_poke_113 9 rfl ?_
  refine z_icmp_ne C 121 dX12_poke_115 (by decide) (fun c19 => ?_) (fun c19 => ?_)
  · replace hf := z_iff c19 hf
    refine z_bipush C dX12_poke_121 9 rfl ?_
    refine z_iload_n C dX12_poke_123 rfl 1 rfl ?_
    refine z_imul C dX12_poke_124 ?_
    refine z_aload_n C dX12_poke_125 rfl 0 rfl ?_
    refine mg_StillStarsModel_pokeMany C uX12_poke_12 (by decide +kernel) dX12_poke_126 ?_
    refine z_iload_n C dX12_poke_129 rfl 1 rfl ?_
    obtain ⟨h20, hf⟩ := z_some hf
    refine z_iald C 7 mw_at_7 h20 dX12_poke_130 ?_
    refine z_iadd C dX12_poke_131 ?_
    refine z_istore C [(8, .int ((9 * v1) + (gA x 7 v1.toNatClampNeg))), (0, .ref (a 0)), (1, .int v1), (2, .int v2), (7, .int v7)] dX12_poke_132 (by decide) rfl ?_
    refine z_aload_n C dX12_poke_134 rfl 1 rfl ?_
    refine mg_StillStarsModel_pokeBy C uX12_poke_12 (by decide +kernel) dX12_poke_135 ?_
    refine z_iload C dX12_poke_138 0 rfl ?_
    refine z_iload_n C dX12_poke_140 rfl 3 rfl ?_
    obtain ⟨h21, hf⟩ := z_some hf
    refine z_iast C 8 mw_at_8 h21 (w' := MW t a (sA x 8 ((9 * v1) + (gA x 7 v1.toNatClampNeg)) v2)) mw_up_8 dX12_poke_141 ?_
    refine z_iconst C dX12_poke_142 0 rfl ?_
    refine z_istore C [(9, .int 0), (8, .int ((9 * v1) + (gA x 7 v1.toNatClampNeg))), (0, .ref (a 0)), (1, .int v1), (2, .int v2), (7, .int v7)] dX12_poke_143 (by decide) rfl ?_
    exact z_sub [2, 3, 5, 1, 0] rfl (kX12_poke_145 E t a out C R 200 _ _ _ _ _ hf)
  · replace hf := z_ift c19 hf
    refine z_bipush C dX12_poke_118 (-3) rfl ?_
    cases hf
    exact R _ _ dX12_poke_120
set_option maxHeartbeats 4000000 in
set_option maxRecDepth 100000 in
theorem kX12_poke_66 (E : zE) (t : zTy) (a : Nat → Nat) (out : Int32 × ST) (C : zC E cX12_poke 10 RX12 wsX12_poke (zrm 2 49) t) (R : zRi E cX12_poke 10 out.1 (MW t a out.2)) : ∀ (n : Nat) (v1 : Int32) (v2 : Int32) (v7 : Int32) (v8 : Int32) (x : ST), fX12_poke_66 n v1 v2 v7 v8 x = some out → zG E 10 0 0 (MW t a x) 66 [(0, .ref (a 0)), (1, .int v1), (2, .int v2), (7, .int v7), (8, .int v8)] [] := by
  intro n
  induction n with
  | zero =>
    intro v1 v2 v7 v8 x hf
    cases hf
  | succ n ih =>
    intro v1 v2 v7 v8 x hf
    rw [fX12_poke_66] at hf
    refine z_iload C dX12_poke_66 4 rfl ?_
    refine z_aload_n C dX12_poke_68 rfl 0 rfl ?_
    refine mg_StillStarsModel_spots C uX12_poke_12 (by decide +kernel) dX12_poke_69 ?_
    refine z_icmp_ge C 107 dX12_poke_72 (by decide) (fun c13 => ?_) (fun c13 => ?_)
    · replace hf := z_ift c13 hf
      exact z_sub [0, 1, 2, 3] rfl (kX12_poke_107 E t a out C R _ _ _ _ hf)
    · replace hf := z_iff c13 hf
      refine z_aload_n C dX12_poke_75 rfl 0 rfl ?_
      refine mg_StillStarsModel_items C uX12_poke_12 (by decide +kernel) dX12_poke_76 ?_
      refine z_iload C dX12_poke_79 3 rfl ?_
      refine z_iload C dX12_poke_81 4 rfl ?_
      refine z_iadd C dX12_poke_83 ?_
      obtain ⟨h14, hf⟩ := z_some hf
      refine z_iald C 30 mw_at_30 h14 dX12_poke_84 ?_
      refine z_i2l C dX12_poke_85 ?_
      refine z_ldc2 C (-999) (by decide +kernel) dX12_poke_86 ?_
      refine z_ldc2 C 999 (by decide +kernel) dX12_poke_89 ?_
      obtain ⟨q15, h16, hf⟩ := z_bind hf
      refine z_callSi C (rest := []) (tX12_in (ze_l E) (ze_D E) t _ h16) gX12_poke_X12_in rfl hdX12_in ⟨(Nat.le_of_ble_eq_true rfl), (Nat.le_of_ble_eq_true rfl)⟩ ⟨Nat.zero_le _, Nat.zero_le _⟩ rfl rfl (Nat.le_of_ble_eq_true rfl) dX12_poke_92 ?_
      refine z_if_ne C 101 dX12_poke_95 (by decide) (fun c17 => ?_) (fun c17 => ?_)
      · replace hf := z_iff c17 hf
        refine z_iinc C (v8 + 1) [(8, .int (v8 + 1)), (0, .ref (a 0)), (1, .int v1), (2, .int v2), (7, .int v7)] dX12_poke_101 4 rfl rfl (by decide) rfl ?_
        refine z_goto C 66 dX12_poke_104 (by decide) ?_
        exact z_sub [1, 2, 3, 4, 0] rfl (ih _ _ _ _ _ hf)
      · replace hf := z_ift c17 hf
        refine z_bipush C dX12_poke_98 (-2) rfl ?_
        cases hf
        exact R _ _ dX12_poke_100
theorem hdX12_poke : yX12_poke.cls = RX12 ∧ yX12_poke.cls ≠ "java/lang/invoke/MethodHandle" ∧ yX12_poke.cls ≠ "java/lang/invoke/VarHandle" ∧ (parseMethodDescriptor yX12_poke.desc).map (fun d => d.parameters.length) = some 5 := by decide +kernel
set_option maxHeartbeats 4000000 in
set_option maxRecDepth 100000 in
theorem tX12_poke (l : Launch) (D : va_G) (t : zTy) (a : Nat → Nat) {v1 : Int32} {v2 : Int32} {v3 : Int32} {v4 : Int32} {v5 : Int32} {x : ST} {out : Int32 × ST} (hf : fX12_poke v1 v2 v3 v4 v5 x = some out) : zMi l yX12_poke wsX12_poke 2 49 D t [.ref (a 0), .int v1, .int v2, .int v3, .int v4, .int v5] (MW t a x) out.1 (MW t a out.2) := by
  refine z_entry_i (cc := cX12_poke) (nL := 10) (by decide) rfl (Nat.le_of_ble_eq_true rfl) (fun E _ _ C R => ?_)
  refine z_sub (lv' := [(0, .ref (a 0)), (1, .int v1), (2, .int v2), (3, .int v3), (4, .int v4), (5, .int v5)]) [0, 1, 2, 3, 4, 5] rfl ?_
  rw [fX12_poke] at hf
  refine z_aload_n C dX12_poke_0 rfl 0 rfl ?_
  refine z_iload_n C dX12_poke_1 rfl 1 rfl ?_
  obtain ⟨q1, h2, hf⟩ := z_bind hf
  refine z_callVi C (rest := []) (tX12_isPart (ze_l E) (ze_D E) t a h2) gX12_poke_X12_isPart rfl hdX12_isPart ⟨(Nat.le_of_ble_eq_true rfl), (Nat.le_of_ble_eq_true rfl)⟩ ⟨Nat.zero_le _, Nat.zero_le _⟩ 0 mw_at_0 rfl rfl rfl (Nat.le_of_ble_eq_true rfl) dX12_poke_2 ?_
  refine z_if_eq C 29 dX12_poke_5 (by decide) (fun c3 => ?_) (fun c3 => ?_)
  · replace hf := z_ift c3 hf
    refine z_iconst C dX12_poke_29 (-1) rfl ?_
    cases hf
    exact R _ _ dX12_poke_30
  · replace hf := z_iff c3 hf
    refine z_iload_n C dX12_poke_8 rfl 2 rfl ?_
    refine z_i2l C dX12_poke_9 ?_
    refine z_lconst C dX12_poke_10 1 rfl ?_
    refine z_ldc2 C 99 (by decide +kernel) dX12_poke_11 ?_
    obtain ⟨q4, h5, hf⟩ := z_bind hf
    refine z_callSi C (rest := []) (tX12_in (ze_l E) (ze_D E) t _ h5) gX12_poke_X12_in rfl hdX12_in ⟨(Nat.le_of_ble_eq_true rfl), (Nat.le_of_ble_eq_true rfl)⟩ ⟨Nat.zero_le _, Nat.zero_le _⟩ rfl rfl (Nat.le_of_ble_eq_true rfl) dX12_poke_14 ?_
    refine z_if_eq C 29 dX12_poke_17 (by decide) (fun c6 => ?_) (fun c6 => ?_)
    · replace hf := z_ift c6 hf
      refine z_iconst C dX12_poke_29 (-1) rfl ?_
      cases hf
      exact R _ _ dX12_poke_30
    · replace hf := z_iff c6 hf
      refine z_iload_n C dX12_poke_20 rfl 3 rfl ?_
      refine z_iload C dX12_poke_21 4 rfl ?_
      obtain ⟨q7, h8, hf⟩ := z_bind hf
      refine z_callSi C (rest := []) (tX12_isSheet (ze_l E) (ze_D E) t _ h8) gX12_poke_X12_isSheet rfl hdX12_isSheet ⟨(Nat.le_of_ble_eq_true rfl), (Nat.le_of_ble_eq_true rfl)⟩ ⟨Nat.zero_le _, Nat.zero_le _⟩ rfl rfl (Nat.le_of_ble_eq_true rfl) dX12_poke_23 ?_
      refine z_if_ne C 31 dX12_poke_26 (by decide) (fun c9 => ?_) (fun c9 => ?_)
      · replace hf := z_iff c9 hf
        refine z_aload_n C dX12_poke_31 rfl 0 rfl ?_
        refine z_iload_n C dX12_poke_32 rfl 3 rfl ?_
        refine z_iload C dX12_poke_33 4 rfl ?_
        refine z_iload C dX12_poke_35 5 rfl ?_
        refine z_aload_n C dX12_poke_37 rfl 0 rfl ?_
        refine mg_StillStarsModel_spots C uX12_poke_12 (by decide +kernel) dX12_poke_38 ?_
        obtain ⟨q10, h11, hf⟩ := z_bind hf
        refine z_callVi C (rest := []) (tX12_against (ze_l E) (ze_D E) t a h11) gX12_poke_X12_against rfl hdX12_against ⟨(Nat.le_of_ble_eq_true rfl), (Nat.le_of_ble_eq_true rfl)⟩ ⟨Nat.zero_le _, Nat.zero_le _⟩ 0 mw_at_0 rfl rfl rfl (Nat.le_of_ble_eq_true rfl) dX12_poke_41 ?_
        refine z_istore C [(6, .int q10.1), (0, .ref (a 0)), (1, .int v1), (2, .int v2), (3, .int v3), (4, .int v4), (5, .int v5)] dX12_poke_44 (by decide) rfl ?_
        refine z_iload C dX12_poke_46 0 rfl ?_
        refine z_if_ge C 54 dX12_poke_48 (by decide) (fun c12 => ?_) (fun c12 => ?_)
        · replace hf := z_ift c12 hf
          refine z_bipush C dX12_poke_54 40 rfl ?_
          refine z_iload_n C dX12_poke_56 rfl 4 rfl ?_
          refine z_imul C dX12_poke_57 ?_
          refine z_iload C dX12_poke_58 6 rfl ?_
          refine z_iadd C dX12_poke_60 ?_
          refine z_istore C [(7, .int ((40 * v3) + v5)), (6, .int q10.1), (0, .ref (a 0)), (1, .int v1), (2, .int v2), (3, .int v3), (4, .int v4), (5, .int v5)] dX12_poke_61 (by decide) rfl ?_
          refine z_iconst C dX12_poke_63 0 rfl ?_
          refine z_istore C [(8, .int 0), (7, .int ((40 * v3) + v5)), (6, .int q10.1), (0, .ref (a 0)), (1, .int v1), (2, .int v2), (3, .int v3), (4, .int v4), (5, .int v5)] dX12_poke_64 (by decide) rfl ?_
          exact z_sub [3, 4, 5, 1, 0] rfl (kX12_poke_66 E t a out C R 200 _ _ _ _ _ hf)
        · replace hf := z_iff c12 hf
          refine z_iload C dX12_poke_51 0 rfl ?_
          cases hf
          exact R _ _ dX12_poke_53
      · replace hf := z_ift c9 hf
        refine z_iconst C dX12_poke_29 (-1) rfl ?_
        cases hf
        exact R _ _ dX12_poke_30
theorem uX12_told_12 : ∀ w ∈ wsX120, w ∈ wsX12_told := by decide +kernel
set_option maxHeartbeats 4000000 in
set_option maxRecDepth 100000 in
theorem kX12_told_135 (E : zE) (t : zTy) (a : Nat → Nat) (out : Int32 × ST) (C : zC E cX12_told 8 RX12 wsX12_told (zrm 2 46) t) (R : zRi E cX12_told 8 out.1 (MW t a out.2)) (kb71 : Int32 → Int32 → Int32 → Int32 → Int32 → ST → Option (Int32 × ST)) (Kb71 : ∀ (v1 : Int32) (v2 : Int32) (v4 : Int32) (v5 : Int32) (v6 : Int32) (x : ST), kb71 v1 v2 v4 v5 v6 x = some out → zG E 8 0 0 (MW t a x) 71 [(0, .ref (a 0)), (1, .int v1), (2, .int v2), (4, .int v4), (5, .int v5), (6, .int v6)] []) : ∀ (v1 : Int32) (v2 : Int32) (v4 : Int32) (v6 : Int32) (s0 : Int32) (x : ST), fX12_told_135 kb71 v1 v2 v4 v6 s0 x = some out → zG E 8 0 0 (MW t a x) 135 [(0, .ref (a 0)), (1, .int v1), (2, .int v2), (4, .int v4), (6, .int v6)] [.int s0] := by
  intro v1 v2 v4 v6 s0 x hf
  rw [fX12_told_135] at hf
  refine z_istore C [(5, .int s0), (0, .ref (a 0)), (1, .int v1), (2, .int v2), (4, .int v4), (6, .int v6)] dX12_told_135 (by decide) rfl ?_
  refine z_iinc C (v6 + 1) [(6, .int (v6 + 1)), (5, .int s0), (0, .ref (a 0)), (1, .int v1), (2, .int v2), (4, .int v4)] dX12_told_137 5 rfl rfl (by decide) rfl ?_
  refine z_goto C 71 dX12_told_140 (by decide) ?_
  exact z_sub [2, 3, 4, 5, 1, 0] rfl (Kb71 _ _ _ _ _ _ hf)
set_option maxHeartbeats 4000000 in
set_option maxRecDepth 100000 in
theorem kX12_told_119 (E : zE) (t : zTy) (a : Nat → Nat) (out : Int32 × ST) (C : zC E cX12_told 8 RX12 wsX12_told (zrm 2 46) t) (R : zRi E cX12_told 8 out.1 (MW t a out.2)) (kb71 : Int32 → Int32 → Int32 → Int32 → Int32 → ST → Option (Int32 × ST)) (Kb71 : ∀ (v1 : Int32) (v2 : Int32) (v4 : Int32) (v5 : Int32) (v6 : Int32) (x : ST), kb71 v1 v2 v4 v5 v6 x = some out → zG E 8 0 0 (MW t a x) 71 [(0, .ref (a 0)), (1, .int v1), (2, .int v2), (4, .int v4), (5, .int v5), (6, .int v6)] []) : ∀ (v1 : Int32) (v2 : Int32) (v5 : Int32) (v6 : Int32) (v7 : Int32) (s0 : Int32) (x : ST), fX12_told_119 kb71 v1 v2 v5 v6 v7 s0 x = some out → zG E 8 0 0 (MW t a x) 119 [(0, .ref (a 0)), (1, .int v1), (2, .int v2), (5, .int v5), (6, .int v6), (7, .int v7)] [.int s0] := by
  intro v1 v2 v5 v6 v7 s0 x hf
  rw [fX12_told_119] at hf
  refine z_istore C [(4, .int s0), (0, .ref (a 0)), (1, .int v1), (2, .int v2), (5, .int v5), (6, .int v6), (7, .int v7)] dX12_told_119 (by decide) rfl ?_
  refine z_iload C dX12_told_121 6 rfl ?_
  refine z_iload C dX12_told_123 4 rfl ?_
  refine z_icmp_le C 133 dX12_told_125 (by decide) (fun c21 => ?_) (fun c21 => ?_)
  · replace hf := z_ift c21 hf
    refine z_iload C dX12_told_133 4 rfl ?_
    exact z_sub [1, 2, 3, 0, 5] rfl (kX12_told_135 E t a out C R (kb71) (Kb71) _ _ _ _ _ _ hf)
  · replace hf := z_iff c21 hf
    refine z_iload C dX12_told_128 6 rfl ?_
    refine z_goto C 135 dX12_told_130 (by decide) ?_
    exact z_sub [1, 2, 3, 0, 5] rfl (kX12_told_135 E t a out C R (kb71) (Kb71) _ _ _ _ _ _ hf)
set_option maxHeartbeats 4000000 in
set_option maxRecDepth 100000 in
theorem kX12_told_71 (E : zE) (t : zTy) (a : Nat → Nat) (out : Int32 × ST) (C : zC E cX12_told 8 RX12 wsX12_told (zrm 2 46) t) (R : zRi E cX12_told 8 out.1 (MW t a out.2)) : ∀ (n : Nat) (v1 : Int32) (v2 : Int32) (v4 : Int32) (v5 : Int32) (v6 : Int32) (x : ST), fX12_told_71 n v1 v2 v4 v5 v6 x = some out → zG E 8 0 0 (MW t a x) 71 [(0, .ref (a 0)), (1, .int v1), (2, .int v2), (4, .int v4), (5, .int v5), (6, .int v6)] [] := by
  intro n
  induction n with
  | zero =>
    intro v1 v2 v4 v5 v6 x hf
    cases hf
  | succ n ih =>
    intro v1 v2 v4 v5 v6 x hf
    rw [fX12_told_71] at hf
    refine z_iload C dX12_told_71 5 rfl ?_
    refine z_aload_n C dX12_told_73 rfl 0 rfl ?_
    refine mg_StillStarsModel_pokeMany C uX12_told_12 (by decide +kernel) dX12_told_74 ?_
    refine z_iload_n C dX12_told_77 rfl 2 rfl ?_
    obtain ⟨h14, hf⟩ := z_some hf
    refine z_iald C 7 mw_at_7 h14 dX12_told_78 ?_
    refine z_icmp_ge C 143 dX12_told_79 (by decide) (fun c15 => ?_) (fun c15 => ?_)
    · replace hf := z_ift c15 hf
      refine z_iload C dX12_told_143 4 rfl ?_
      refine z_iload C dX12_told_145 3 rfl ?_
      refine z_isub C dX12_told_147 ?_
      cases hf
      exact R _ _ dX12_told_148
    · replace hf := z_iff c15 hf
      refine z_aload_n C dX12_told_82 rfl 0 rfl ?_
      refine z_iload_n C dX12_told_83 rfl 2 rfl ?_
      refine z_iload C dX12_told_84 5 rfl ?_
      refine z_iload_n C dX12_told_86 rfl 1 rfl ?_
      obtain ⟨q16, h17, hf⟩ := z_bind hf
      refine z_callVi C (rest := []) (tX12_changeOf (ze_l E) (ze_D E) t a h17) gX12_told_X12_changeOf rfl hdX12_changeOf ⟨(Nat.le_of_ble_eq_true rfl), (Nat.le_of_ble_eq_true rfl)⟩ ⟨Nat.zero_le _, Nat.zero_le _⟩ 0 mw_at_0 rfl rfl rfl (Nat.le_of_ble_eq_true rfl) dX12_told_87 ?_
      refine z_aload_n C dX12_told_90 rfl 0 rfl ?_
      refine mg_StillStarsModel_pokeBy C uX12_told_12 (by decide +kernel) dX12_told_91 ?_
      refine z_bipush C dX12_told_94 9 rfl ?_
      refine z_iload_n C dX12_told_96 rfl 2 rfl ?_
      refine z_imul C dX12_told_97 ?_
      refine z_iload C dX12_told_98 5 rfl ?_
      refine z_iadd C dX12_told_100 ?_
      obtain ⟨h18, hf⟩ := z_some hf
      refine z_iald C 8 mw_at_8 h18 dX12_told_101 ?_
      obtain ⟨h19, hf⟩ := z_div hf
      refine z_idiv C h19 dX12_told_102 ?_
      refine z_istore C [(7, .int (q16.1 / (gA q16.2 8 ((9 * v2) + v6).toNatClampNeg))), (0, .ref (a 0)), (1, .int v1), (2, .int v2), (4, .int v4), (5, .int v5), (6, .int v6)] dX12_told_103 (by decide) rfl ?_
      refine z_iload C dX12_told_105 0 rfl ?_
      refine z_iload C dX12_told_107 4 rfl ?_
      refine z_icmp_ge C 117 dX12_told_109 (by decide) (fun c20 => ?_) (fun c20 => ?_)
      · replace hf := z_ift c20 hf
        refine z_iload C dX12_told_117 4 rfl ?_
        exact z_sub [1, 2, 3, 5, 6, 0] rfl (kX12_told_119 E t a out C R (fX12_told_71 n) (ih) _ _ _ _ _ _ _ hf)
      · replace hf := z_iff c20 hf
        refine z_iload C dX12_told_112 0 rfl ?_
        refine z_goto C 119 dX12_told_114 (by decide) ?_
        exact z_sub [1, 2, 3, 5, 6, 0] rfl (kX12_told_119 E t a out C R (fX12_told_71 n) (ih) _ _ _ _ _ _ _ hf)
theorem hdX12_told : yX12_told.cls = RX12 ∧ yX12_told.cls ≠ "java/lang/invoke/MethodHandle" ∧ yX12_told.cls ≠ "java/lang/invoke/VarHandle" ∧ (parseMethodDescriptor yX12_told.desc).map (fun d => d.parameters.length) = some 3 := by decide +kernel
set_option maxHeartbeats 4000000 in
set_option maxRecDepth 100000 in
theorem tX12_told (l : Launch) (D : va_G) (t : zTy) (a : Nat → Nat) {v1 : Int32} {v2 : Int32} {v3 : Int32} {x : ST} {out : Int32 × ST} (hf : fX12_told v1 v2 v3 x = some out) : zMi l yX12_told wsX12_told 2 46 D t [.ref (a 0), .int v1, .int v2, .int v3] (MW t a x) out.1 (MW t a out.2) := by
  refine z_entry_i (cc := cX12_told) (nL := 8) (by decide) rfl (Nat.le_of_ble_eq_true rfl) (fun E _ _ C R => ?_)
  refine z_sub (lv' := [(0, .ref (a 0)), (1, .int v1), (2, .int v2), (3, .int v3)]) [0, 1, 2, 3] rfl ?_
  rw [fX12_told] at hf
  refine z_aload_n C dX12_told_0 rfl 0 rfl ?_
  refine z_iload_n C dX12_told_1 rfl 1 rfl ?_
  obtain ⟨q1, h2, hf⟩ := z_bind hf
  refine z_callVi C (rest := []) (tX12_isSpot (ze_l E) (ze_D E) t a h2) gX12_told_X12_isSpot rfl hdX12_isSpot ⟨(Nat.le_of_ble_eq_true rfl), (Nat.le_of_ble_eq_true rfl)⟩ ⟨Nat.zero_le _, Nat.zero_le _⟩ 0 mw_at_0 rfl rfl rfl (Nat.le_of_ble_eq_true rfl) dX12_told_2 ?_
  refine z_if_eq C 26 dX12_told_5 (by decide) (fun c3 => ?_) (fun c3 => ?_)
  · replace hf := z_ift c3 hf
    refine z_sipush C dX12_told_26 (-10001) rfl ?_
    cases hf
    exact R _ _ dX12_told_29
  · replace hf := z_iff c3 hf
    refine z_aload_n C dX12_told_8 rfl 0 rfl ?_
    refine z_iload_n C dX12_told_9 rfl 2 rfl ?_
    obtain ⟨q4, h5, hf⟩ := z_bind hf
    refine z_callVi C (rest := []) (tX12_isPart (ze_l E) (ze_D E) t a h5) gX12_told_X12_isPart rfl hdX12_isPart ⟨(Nat.le_of_ble_eq_true rfl), (Nat.le_of_ble_eq_true rfl)⟩ ⟨Nat.zero_le _, Nat.zero_le _⟩ 0 mw_at_0 rfl rfl rfl (Nat.le_of_ble_eq_true rfl) dX12_told_10 ?_
    refine z_if_eq C 26 dX12_told_13 (by decide) (fun c6 => ?_) (fun c6 => ?_)
    · replace hf := z_ift c6 hf
      refine z_sipush C dX12_told_26 (-10001) rfl ?_
      cases hf
      exact R _ _ dX12_told_29
    · replace hf := z_iff c6 hf
      refine z_iload_n C dX12_told_16 rfl 3 rfl ?_
      refine z_i2l C dX12_told_17 ?_
      refine z_lconst C dX12_told_18 0 rfl ?_
      refine z_lconst C dX12_told_19 1 rfl ?_
      obtain ⟨q7, h8, hf⟩ := z_bind hf
      refine z_callSi C (rest := []) (tX12_in (ze_l E) (ze_D E) t _ h8) gX12_told_X12_in rfl hdX12_in ⟨(Nat.le_of_ble_eq_true rfl), (Nat.le_of_ble_eq_true rfl)⟩ ⟨Nat.zero_le _, Nat.zero_le _⟩ rfl rfl (Nat.le_of_ble_eq_true rfl) dX12_told_20 ?_
      refine z_if_ne C 30 dX12_told_23 (by decide) (fun c9 => ?_) (fun c9 => ?_)
      · replace hf := z_iff c9 hf
        refine z_iload_n C dX12_told_30 rfl 3 rfl ?_
        refine z_if_ne C 45 dX12_told_31 (by decide) (fun c10 => ?_) (fun c10 => ?_)
        · replace hf := z_iff c10 hf
          refine z_aload_n C dX12_told_45 rfl 0 rfl ?_
          refine mg_StillStarsModel_pokeMany C uX12_told_12 (by decide +kernel) dX12_told_46 ?_
          refine z_iload_n C dX12_told_49 rfl 2 rfl ?_
          obtain ⟨h11, hf⟩ := z_some hf
          refine z_iald C 7 mw_at_7 h11 dX12_told_50 ?_
          refine z_if_ne C 58 dX12_told_51 (by decide) (fun c12 => ?_) (fun c12 => ?_)
          · replace hf := z_iff c12 hf
            refine z_sipush C dX12_told_58 1000 rfl ?_
            refine z_istore C [(4, .int 1000), (0, .ref (a 0)), (1, .int v1), (2, .int v2), (3, .int v3)] dX12_told_61 (by decide) rfl ?_
            refine z_sipush C dX12_told_63 (-1000) rfl ?_
            refine z_istore C [(5, .int (-1000)), (4, .int 1000), (0, .ref (a 0)), (1, .int v1), (2, .int v2), (3, .int v3)] dX12_told_66 (by decide) rfl ?_
            refine z_iconst C dX12_told_68 0 rfl ?_
            refine z_istore C [(6, .int 0), (5, .int (-1000)), (4, .int 1000), (0, .ref (a 0)), (1, .int v1), (2, .int v2), (3, .int v3)] dX12_told_69 (by decide) rfl ?_
            exact z_sub [3, 4, 5, 2, 1, 0] rfl (kX12_told_71 E t a out C R 200 _ _ _ _ _ _ hf)
          · replace hf := z_ift c12 hf
            refine z_sipush C dX12_told_54 (-10004) rfl ?_
            cases hf
            exact R _ _ dX12_told_57
        · replace hf := z_ift c10 hf
          refine z_aload_n C dX12_told_34 rfl 0 rfl ?_
          refine mg_StillStarsModel_table C uX12_told_12 (by decide +kernel) dX12_told_35 ?_
          refine z_iconst C dX12_told_38 5 rfl ?_
          refine z_iload_n C dX12_told_39 rfl 1 rfl ?_
          refine z_imul C dX12_told_40 ?_
          refine z_iload_n C dX12_told_41 rfl 2 rfl ?_
          refine z_iadd C dX12_told_42 ?_
          obtain ⟨h13, hf⟩ := z_some hf
          refine z_iald C 3 mw_at_3 h13 dX12_told_43 ?_
          cases hf
          exact R _ _ dX12_told_44
      · replace hf := z_ift c9 hf
        refine z_sipush C dX12_told_26 (-10001) rfl ?_
        cases hf
        exact R _ _ dX12_told_29

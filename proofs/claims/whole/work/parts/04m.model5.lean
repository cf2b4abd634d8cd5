theorem uX12_layer_12 : ∀ w ∈ wsX120, w ∈ wsX12_layer := by decide +kernel
set_option maxHeartbeats 4000000 in
set_option maxRecDepth 100000 in
theorem kX12_layer_91 (E : zE) (t : zTy) (a : Nat → Nat) (out : Int32 × ST) (C : zC E cX12_layer 8 RX12 wsX12_layer (zrm 2 49) t) (R : zRi E cX12_layer 8 out.1 (MW t a out.2)) : ∀ (n : Nat) (v1 : Int32) (v6 : Int32) (v7 : Int32) (x : ST), fX12_layer_91 n v1 v6 v7 x = some out → zG E 8 0 0 (MW t a x) 91 [(0, .ref (a 0)), (1, .int v1), (6, .int v6), (7, .int v7)] [] := by
  intro n
  induction n with
  | zero =>
    intro v1 v6 v7 x hf
    cases hf
  | succ n ih =>
    intro v1 v6 v7 x hf
    rw [fX12_layer_91] at hf
    refine z_iload C dX12_layer_91 3 rfl ?_
    refine z_bipush C dX12_layer_93 32 rfl ?_
    refine z_icmp_ge C 126 dX12_layer_95 (by decide) (fun c15 => ?_) (fun c15 => ?_)
    · replace hf := z_ift c15 hf
      refine z_bipush C dX12_layer_126 32 rfl ?_
      cases hf
      exact R _ _ dX12_layer_128
    · replace hf := z_iff c15 hf
      refine z_aload_n C dX12_layer_98 rfl 0 rfl ?_
      refine mg_StillStarsModel_air C uX12_layer_12 (by decide +kernel) dX12_layer_99 ?_
      refine z_bipush C dX12_layer_102 32 rfl ?_
      refine z_iload_n C dX12_layer_104 rfl 1 rfl ?_
      refine z_imul C dX12_layer_105 ?_
      refine z_iload C dX12_layer_106 3 rfl ?_
      refine z_iadd C dX12_layer_108 ?_
      refine z_aload_n C dX12_layer_109 rfl 0 rfl ?_
      refine mg_StillStarsModel_items C uX12_layer_12 (by decide +kernel) dX12_layer_110 ?_
      refine z_iload C dX12_layer_113 2 rfl ?_
      refine z_iload C dX12_layer_115 3 rfl ?_
      refine z_iadd C dX12_layer_117 ?_
      obtain ⟨h16, hf⟩ := z_some hf
      refine z_iald C 30 mw_at_30 h16 dX12_layer_118 ?_
      obtain ⟨h17, hf⟩ := z_some hf
      refine z_iast C 26 mw_at_26 h17 (w' := MW t a (sA x 26 ((32 * v1) + v7) (gA x 30 (v6 + v7).toNatClampNeg))) mw_up_26 dX12_layer_119 ?_
      refine z_iinc C (v7 + 1) [(7, .int (v7 + 1)), (0, .ref (a 0)), (1, .int v1), (6, .int v6)] dX12_layer_120 3 rfl rfl (by decide) rfl ?_
      refine z_goto C 91 dX12_layer_123 (by decide) ?_
      exact z_sub [1, 2, 3, 0] rfl (ih _ _ _ _ hf)
set_option maxHeartbeats 4000000 in
set_option maxRecDepth 100000 in
theorem kX12_layer_88 (E : zE) (t : zTy) (a : Nat → Nat) (out : Int32 × ST) (C : zC E cX12_layer 8 RX12 wsX12_layer (zrm 2 49) t) (R : zRi E cX12_layer 8 out.1 (MW t a out.2)) : ∀ (v1 : Int32) (v6 : Int32) (x : ST), fX12_layer_88 v1 v6 x = some out → zG E 8 0 0 (MW t a x) 88 [(0, .ref (a 0)), (1, .int v1), (6, .int v6)] [] := by
  intro v1 v6 x hf
  rw [fX12_layer_88] at hf
  refine z_iconst C dX12_layer_88 0 rfl ?_
  refine z_istore C [(7, .int 0), (0, .ref (a 0)), (1, .int v1), (6, .int v6)] dX12_layer_89 (by decide) rfl ?_
  exact z_sub [1, 2, 3, 0] rfl (kX12_layer_91 E t a out C R 200 _ _ _ _ hf)
set_option maxHeartbeats 4000000 in
set_option maxRecDepth 100000 in
theorem kX12_layer_49 (E : zE) (t : zTy) (a : Nat → Nat) (out : Int32 × ST) (C : zC E cX12_layer 8 RX12 wsX12_layer (zrm 2 49) t) (R : zRi E cX12_layer 8 out.1 (MW t a out.2)) : ∀ (n : Nat) (v1 : Int32) (v6 : Int32) (v7 : Int32) (x : ST), fX12_layer_49 n v1 v6 v7 x = some out → zG E 8 0 0 (MW t a x) 49 [(0, .ref (a 0)), (1, .int v1), (6, .int v6), (7, .int v7)] [] := by
  intro n
  induction n with
  | zero =>
    intro v1 v6 v7 x hf
    cases hf
  | succ n ih =>
    intro v1 v6 v7 x hf
    rw [fX12_layer_49] at hf
    refine z_iload C dX12_layer_49 3 rfl ?_
    refine z_bipush C dX12_layer_51 32 rfl ?_
    refine z_icmp_ge C 88 dX12_layer_53 (by decide) (fun c10 => ?_) (fun c10 => ?_)
    · replace hf := z_ift c10 hf
      exact z_sub [0, 1, 2] rfl (kX12_layer_88 E t a out C R _ _ _ hf)
    · replace hf := z_iff c10 hf
      refine z_aload_n C dX12_layer_56 rfl 0 rfl ?_
      refine mg_StillStarsModel_items C uX12_layer_12 (by decide +kernel) dX12_layer_57 ?_
      refine z_iload C dX12_layer_60 2 rfl ?_
      refine z_iload C dX12_layer_62 3 rfl ?_
      refine z_iadd C dX12_layer_64 ?_
      obtain ⟨h11, hf⟩ := z_some hf
      refine z_iald C 30 mw_at_30 h11 dX12_layer_65 ?_
      refine z_i2l C dX12_layer_66 ?_
      refine z_ldc2 C (-99) (by decide +kernel) dX12_layer_67 ?_
      refine z_ldc2 C 99 (by decide +kernel) dX12_layer_70 ?_
      obtain ⟨q12, h13, hf⟩ := z_bind hf
      refine z_callSi C (rest := []) (tX12_in (ze_l E) (ze_D E) t _ h13) gX12_layer_X12_in rfl hdX12_in ⟨(Nat.le_of_ble_eq_true rfl), (Nat.le_of_ble_eq_true rfl)⟩ ⟨Nat.zero_le _, Nat.zero_le _⟩ rfl rfl (Nat.le_of_ble_eq_true rfl) dX12_layer_73 ?_
      refine z_if_ne C 82 dX12_layer_76 (by decide) (fun c14 => ?_) (fun c14 => ?_)
      · replace hf := z_iff c14 hf
        refine z_iinc C (v7 + 1) [(7, .int (v7 + 1)), (0, .ref (a 0)), (1, .int v1), (6, .int v6)] dX12_layer_82 3 rfl rfl (by decide) rfl ?_
        refine z_goto C 49 dX12_layer_85 (by decide) ?_
        exact z_sub [1, 2, 3, 0] rfl (ih _ _ _ _ hf)
      · replace hf := z_ift c14 hf
        refine z_bipush C dX12_layer_79 (-2) rfl ?_
        cases hf
        exact R _ _ dX12_layer_81
theorem hdX12_layer : yX12_layer.cls = RX12 ∧ yX12_layer.cls ≠ "java/lang/invoke/MethodHandle" ∧ yX12_layer.cls ≠ "java/lang/invoke/VarHandle" ∧ (parseMethodDescriptor yX12_layer.desc).map (fun d => d.parameters.length) = some 4 := by decide +kernel
set_option maxHeartbeats 4000000 in
set_option maxRecDepth 100000 in
theorem tX12_layer (l : Launch) (D : va_G) (t : zTy) (a : Nat → Nat) {v1 : Int32} {v2 : Int32} {v3 : Int32} {v4 : Int32} {x : ST} {out : Int32 × ST} (hf : fX12_layer v1 v2 v3 v4 x = some out) : zMi l yX12_layer wsX12_layer 2 49 D t [.ref (a 0), .int v1, .int v2, .int v3, .int v4] (MW t a x) out.1 (MW t a out.2) := by
  refine z_entry_i (cc := cX12_layer) (nL := 8) (by decide) rfl (Nat.le_of_ble_eq_true rfl) (fun E _ _ C R => ?_)
  refine z_sub (lv' := [(0, .ref (a 0)), (1, .int v1), (2, .int v2), (3, .int v3), (4, .int v4)]) [0, 1, 2, 3, 4] rfl ?_
  rw [fX12_layer] at hf
  refine z_iload_n C dX12_layer_0 rfl 1 rfl ?_
  obtain ⟨q1, h2, hf⟩ := z_bind hf
  refine z_callSi C (rest := []) (tX12_isLayer (ze_l E) (ze_D E) t _ h2) gX12_layer_X12_isLayer rfl hdX12_isLayer ⟨(Nat.le_of_ble_eq_true rfl), (Nat.le_of_ble_eq_true rfl)⟩ ⟨Nat.zero_le _, Nat.zero_le _⟩ rfl rfl (Nat.le_of_ble_eq_true rfl) dX12_layer_1 ?_
  refine z_if_eq C 15 dX12_layer_4 (by decide) (fun c3 => ?_) (fun c3 => ?_)
  · replace hf := z_ift c3 hf
    refine z_iconst C dX12_layer_15 (-1) rfl ?_
    cases hf
    exact R _ _ dX12_layer_16
  · replace hf := z_iff c3 hf
    refine z_iload_n C dX12_layer_7 rfl 2 rfl ?_
    refine z_iload_n C dX12_layer_8 rfl 3 rfl ?_
    obtain ⟨q4, h5, hf⟩ := z_bind hf
    refine z_callSi C (rest := []) (tX12_isSheet (ze_l E) (ze_D E) t _ h5) gX12_layer_X12_isSheet rfl hdX12_isSheet ⟨(Nat.le_of_ble_eq_true rfl), (Nat.le_of_ble_eq_true rfl)⟩ ⟨Nat.zero_le _, Nat.zero_le _⟩ rfl rfl (Nat.le_of_ble_eq_true rfl) dX12_layer_9 ?_
    refine z_if_ne C 17 dX12_layer_12 (by decide) (fun c6 => ?_) (fun c6 => ?_)
    · replace hf := z_iff c6 hf
      refine z_aload_n C dX12_layer_17 rfl 0 rfl ?_
      refine z_iload_n C dX12_layer_18 rfl 2 rfl ?_
      refine z_iload_n C dX12_layer_19 rfl 3 rfl ?_
      refine z_iload C dX12_layer_20 4 rfl ?_
      refine z_bipush C dX12_layer_22 32 rfl ?_
      obtain ⟨q7, h8, hf⟩ := z_bind hf
      refine z_callVi C (rest := []) (tX12_against (ze_l E) (ze_D E) t a h8) gX12_layer_X12_against rfl hdX12_against ⟨(Nat.le_of_ble_eq_true rfl), (Nat.le_of_ble_eq_true rfl)⟩ ⟨Nat.zero_le _, Nat.zero_le _⟩ 0 mw_at_0 rfl rfl rfl (Nat.le_of_ble_eq_true rfl) dX12_layer_24 ?_
      refine z_istore C [(5, .int q7.1), (0, .ref (a 0)), (1, .int v1), (2, .int v2), (3, .int v3), (4, .int v4)] dX12_layer_27 (by decide) rfl ?_
      refine z_iload C dX12_layer_29 0 rfl ?_
      refine z_if_ge C 37 dX12_layer_31 (by decide) (fun c9 => ?_) (fun c9 => ?_)
      · replace hf := z_ift c9 hf
        refine z_bipush C dX12_layer_37 40 rfl ?_
        refine z_iload_n C dX12_layer_39 rfl 3 rfl ?_
        refine z_imul C dX12_layer_40 ?_
        refine z_iload C dX12_layer_41 5 rfl ?_
        refine z_iadd C dX12_layer_43 ?_
        refine z_istore C [(6, .int ((40 * v2) + v4)), (5, .int q7.1), (0, .ref (a 0)), (1, .int v1), (2, .int v2), (3, .int v3), (4, .int v4)] dX12_layer_44 (by decide) rfl ?_
        refine z_iconst C dX12_layer_46 0 rfl ?_
        refine z_istore C [(7, .int 0), (6, .int ((40 * v2) + v4)), (5, .int q7.1), (0, .ref (a 0)), (1, .int v1), (2, .int v2), (3, .int v3), (4, .int v4)] dX12_layer_47 (by decide) rfl ?_
        exact z_sub [3, 4, 1, 0] rfl (kX12_layer_49 E t a out C R 200 _ _ _ _ hf)
      · replace hf := z_iff c9 hf
        refine z_iload C dX12_layer_34 0 rfl ?_
        cases hf
        exact R _ _ dX12_layer_36
    · replace hf := z_ift c6 hf
      refine z_iconst C dX12_layer_15 (-1) rfl ?_
      cases hf
      exact R _ _ dX12_layer_16

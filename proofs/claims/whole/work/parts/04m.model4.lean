theorem uX12_loop_12 : ∀ w ∈ wsX120, w ∈ wsX12_loop := by decide +kernel
set_option maxHeartbeats 4000000 in
set_option maxRecDepth 100000 in
theorem kX12_loop_144 (E : zE) (t : zTy) (a : Nat → Nat) (out : Int32 × ST) (C : zC E cX12_loop 9 RX12 wsX12_loop (zrm 2 49) t) (R : zRi E cX12_loop 9 out.1 (MW t a out.2)) (kb107 : Int32 → Int32 → Int32 → Int32 → ST → Option (Int32 × ST)) (Kb107 : ∀ (v1 : Int32) (v5 : Int32) (v7 : Int32) (v8 : Int32) (x : ST), kb107 v1 v5 v7 v8 x = some out → zG E 9 0 0 (MW t a x) 107 [(0, .ref (a 0)), (1, .int v1), (5, .int v5), (7, .int v7), (8, .int v8)] []) : ∀ (v1 : Int32) (v5 : Int32) (v7 : Int32) (v8 : Int32) (s0 : Int32) (s1 : Int32) (x : ST), fX12_loop_144 kb107 v1 v5 v7 v8 s0 s1 x = some out → zG E 9 0 0 (MW t a x) 144 [(0, .ref (a 0)), (1, .int v1), (5, .int v5), (7, .int v7), (8, .int v8)] [.int s0, .int s1, .ref (a 23)] := by
  intro v1 v5 v7 v8 s0 s1 x hf
  rw [fX12_loop_144] at hf
  obtain ⟨h21, hf⟩ := z_some hf
  refine z_iast C 23 mw_at_23 h21 (w' := MW t a (sA x 23 s1 s0)) mw_up_23 dX12_loop_144 ?_
  refine z_iinc C (v8 + 1) [(8, .int (v8 + 1)), (0, .ref (a 0)), (1, .int v1), (5, .int v5), (7, .int v7)] dX12_loop_145 4 rfl rfl (by decide) rfl ?_
  refine z_goto C 107 dX12_loop_148 (by decide) ?_
  exact z_sub [1, 2, 3, 4, 0] rfl (Kb107 _ _ _ _ _ hf)
set_option maxHeartbeats 4000000 in
set_option maxRecDepth 100000 in
theorem kX12_loop_107 (E : zE) (t : zTy) (a : Nat → Nat) (out : Int32 × ST) (C : zC E cX12_loop 9 RX12 wsX12_loop (zrm 2 49) t) (R : zRi E cX12_loop 9 out.1 (MW t a out.2)) : ∀ (n : Nat) (v1 : Int32) (v5 : Int32) (v7 : Int32) (v8 : Int32) (x : ST), fX12_loop_107 n v1 v5 v7 v8 x = some out → zG E 9 0 0 (MW t a x) 107 [(0, .ref (a 0)), (1, .int v1), (5, .int v5), (7, .int v7), (8, .int v8)] [] := by
  intro n
  induction n with
  | zero =>
    intro v1 v5 v7 v8 x hf
    cases hf
  | succ n ih =>
    intro v1 v5 v7 v8 x hf
    rw [fX12_loop_107] at hf
    refine z_iload C dX12_loop_107 4 rfl ?_
    refine z_iconst C dX12_loop_109 5 rfl ?_
    refine z_icmp_ge C 151 dX12_loop_110 (by decide) (fun c18 => ?_) (fun c18 => ?_)
    · replace hf := z_ift c18 hf
      refine z_iload C dX12_loop_151 2 rfl ?_
      cases hf
      exact R _ _ dX12_loop_153
    · replace hf := z_iff c18 hf
      refine z_aload_n C dX12_loop_113 rfl 0 rfl ?_
      refine mg_StillStarsModel_loops C uX12_loop_12 (by decide +kernel) dX12_loop_114 ?_
      refine z_iconst C dX12_loop_117 5 rfl ?_
      refine z_iload_n C dX12_loop_118 rfl 1 rfl ?_
      refine z_imul C dX12_loop_119 ?_
      refine z_iload C dX12_loop_120 4 rfl ?_
      refine z_iadd C dX12_loop_122 ?_
      refine z_iload C dX12_loop_123 4 rfl ?_
      refine z_iload C dX12_loop_125 2 rfl ?_
      refine z_icmp_ge C 143 dX12_loop_127 (by decide) (fun c19 => ?_) (fun c19 => ?_)
      · replace hf := z_ift c19 hf
        refine z_iconst C dX12_loop_143 0 rfl ?_
        exact z_sub [0, 1, 2, 3, 4] rfl (kX12_loop_144 E t a out C R (fX12_loop_107 n) (ih) _ _ _ _ _ _ _ hf)
      · replace hf := z_iff c19 hf
        refine z_aload_n C dX12_loop_130 rfl 0 rfl ?_
        refine mg_StillStarsModel_items C uX12_loop_12 (by decide +kernel) dX12_loop_131 ?_
        refine z_iload C dX12_loop_134 3 rfl ?_
        refine z_iload C dX12_loop_136 4 rfl ?_
        refine z_iadd C dX12_loop_138 ?_
        obtain ⟨h20, hf⟩ := z_some hf
        refine z_iald C 30 mw_at_30 h20 dX12_loop_139 ?_
        refine z_goto C 144 dX12_loop_140 (by decide) ?_
        exact z_sub [0, 1, 2, 3, 4] rfl (kX12_loop_144 E t a out C R (fX12_loop_107 n) (ih) _ _ _ _ _ _ _ hf)
set_option maxHeartbeats 4000000 in
set_option maxRecDepth 100000 in
theorem kX12_loop_104 (E : zE) (t : zTy) (a : Nat → Nat) (out : Int32 × ST) (C : zC E cX12_loop 9 RX12 wsX12_loop (zrm 2 49) t) (R : zRi E cX12_loop 9 out.1 (MW t a out.2)) : ∀ (v1 : Int32) (v5 : Int32) (v7 : Int32) (x : ST), fX12_loop_104 v1 v5 v7 x = some out → zG E 9 0 0 (MW t a x) 104 [(0, .ref (a 0)), (1, .int v1), (5, .int v5), (7, .int v7)] [] := by
  intro v1 v5 v7 x hf
  rw [fX12_loop_104] at hf
  refine z_iconst C dX12_loop_104 0 rfl ?_
  refine z_istore C [(8, .int 0), (0, .ref (a 0)), (1, .int v1), (5, .int v5), (7, .int v7)] dX12_loop_105 (by decide) rfl ?_
  exact z_sub [1, 2, 3, 4, 0] rfl (kX12_loop_107 E t a out C R 200 _ _ _ _ _ hf)
set_option maxHeartbeats 4000000 in
set_option maxRecDepth 100000 in
theorem kX12_loop_65 (E : zE) (t : zTy) (a : Nat → Nat) (out : Int32 × ST) (C : zC E cX12_loop 9 RX12 wsX12_loop (zrm 2 49) t) (R : zRi E cX12_loop 9 out.1 (MW t a out.2)) : ∀ (n : Nat) (v1 : Int32) (v5 : Int32) (v7 : Int32) (v8 : Int32) (x : ST), fX12_loop_65 n v1 v5 v7 v8 x = some out → zG E 9 0 0 (MW t a x) 65 [(0, .ref (a 0)), (1, .int v1), (5, .int v5), (7, .int v7), (8, .int v8)] [] := by
  intro n
  induction n with
  | zero =>
    intro v1 v5 v7 v8 x hf
    cases hf
  | succ n ih =>
    intro v1 v5 v7 v8 x hf
    rw [fX12_loop_65] at hf
    refine z_iload C dX12_loop_65 4 rfl ?_
    refine z_iload C dX12_loop_67 2 rfl ?_
    refine z_icmp_ge C 104 dX12_loop_69 (by decide) (fun c13 => ?_) (fun c13 => ?_)
    · replace hf := z_ift c13 hf
      exact z_sub [0, 1, 2, 3] rfl (kX12_loop_104 E t a out C R _ _ _ _ hf)
    · replace hf := z_iff c13 hf
      refine z_aload_n C dX12_loop_72 rfl 0 rfl ?_
      refine mg_StillStarsModel_items C uX12_loop_12 (by decide +kernel) dX12_loop_73 ?_
      refine z_iload C dX12_loop_76 3 rfl ?_
      refine z_iload C dX12_loop_78 4 rfl ?_
      refine z_iadd C dX12_loop_80 ?_
      obtain ⟨h14, hf⟩ := z_some hf
      refine z_iald C 30 mw_at_30 h14 dX12_loop_81 ?_
      refine z_i2l C dX12_loop_82 ?_
      refine z_ldc2 C (-50) (by decide +kernel) dX12_loop_83 ?_
      refine z_ldc2 C 50 (by decide +kernel) dX12_loop_86 ?_
      obtain ⟨q15, h16, hf⟩ := z_bind hf
      refine z_callSi C (rest := []) (tX12_in (ze_l E) (ze_D E) t _ h16) gX12_loop_X12_in rfl hdX12_in ⟨(Nat.le_of_ble_eq_true rfl), (Nat.le_of_ble_eq_true rfl)⟩ ⟨Nat.zero_le _, Nat.zero_le _⟩ rfl rfl (Nat.le_of_ble_eq_true rfl) dX12_loop_89 ?_
      refine z_if_ne C 98 dX12_loop_92 (by decide) (fun c17 => ?_) (fun c17 => ?_)
      · replace hf := z_iff c17 hf
        refine z_iinc C (v8 + 1) [(8, .int (v8 + 1)), (0, .ref (a 0)), (1, .int v1), (5, .int v5), (7, .int v7)] dX12_loop_98 4 rfl rfl (by decide) rfl ?_
        refine z_goto C 65 dX12_loop_101 (by decide) ?_
        exact z_sub [1, 2, 3, 4, 0] rfl (ih _ _ _ _ _ hf)
      · replace hf := z_ift c17 hf
        refine z_bipush C dX12_loop_95 (-2) rfl ?_
        cases hf
        exact R _ _ dX12_loop_97
theorem hdX12_loop : yX12_loop.cls = RX12 ∧ yX12_loop.cls ≠ "java/lang/invoke/MethodHandle" ∧ yX12_loop.cls ≠ "java/lang/invoke/VarHandle" ∧ (parseMethodDescriptor yX12_loop.desc).map (fun d => d.parameters.length) = some 5 := by decide +kernel
set_option maxHeartbeats 4000000 in
set_option maxRecDepth 100000 in
theorem tX12_loop (l : Launch) (D : va_G) (t : zTy) (a : Nat → Nat) {v1 : Int32} {v2 : Int32} {v3 : Int32} {v4 : Int32} {v5 : Int32} {x : ST} {out : Int32 × ST} (hf : fX12_loop v1 v2 v3 v4 v5 x = some out) : zMi l yX12_loop wsX12_loop 2 49 D t [.ref (a 0), .int v1, .int v2, .int v3, .int v4, .int v5] (MW t a x) out.1 (MW t a out.2) := by
  refine z_entry_i (cc := cX12_loop) (nL := 9) (by decide) rfl (Nat.le_of_ble_eq_true rfl) (fun E _ _ C R => ?_)
  refine z_sub (lv' := [(0, .ref (a 0)), (1, .int v1), (2, .int v2), (3, .int v3), (4, .int v4), (5, .int v5)]) [0, 1, 2, 3, 4, 5] rfl ?_
  rw [fX12_loop] at hf
  refine z_iload_n C dX12_loop_0 rfl 1 rfl ?_
  refine z_i2l C dX12_loop_1 ?_
  refine z_lconst C dX12_loop_2 0 rfl ?_
  refine z_lconst C dX12_loop_3 1 rfl ?_
  obtain ⟨q1, h2, hf⟩ := z_bind hf
  refine z_callSi C (rest := []) (tX12_in (ze_l E) (ze_D E) t _ h2) gX12_loop_X12_in rfl hdX12_in ⟨(Nat.le_of_ble_eq_true rfl), (Nat.le_of_ble_eq_true rfl)⟩ ⟨Nat.zero_le _, Nat.zero_le _⟩ rfl rfl (Nat.le_of_ble_eq_true rfl) dX12_loop_4 ?_
  refine z_if_eq C 31 dX12_loop_7 (by decide) (fun c3 => ?_) (fun c3 => ?_)
  · replace hf := z_ift c3 hf
    refine z_iconst C dX12_loop_31 (-1) rfl ?_
    cases hf
    exact R _ _ dX12_loop_32
  · replace hf := z_iff c3 hf
    refine z_iload_n C dX12_loop_10 rfl 2 rfl ?_
    refine z_iload_n C dX12_loop_11 rfl 3 rfl ?_
    obtain ⟨q4, h5, hf⟩ := z_bind hf
    refine z_callSi C (rest := []) (tX12_isSheet (ze_l E) (ze_D E) t _ h5) gX12_loop_X12_isSheet rfl hdX12_isSheet ⟨(Nat.le_of_ble_eq_true rfl), (Nat.le_of_ble_eq_true rfl)⟩ ⟨Nat.zero_le _, Nat.zero_le _⟩ rfl rfl (Nat.le_of_ble_eq_true rfl) dX12_loop_12 ?_
    refine z_if_eq C 31 dX12_loop_15 (by decide) (fun c6 => ?_) (fun c6 => ?_)
    · replace hf := z_ift c6 hf
      refine z_iconst C dX12_loop_31 (-1) rfl ?_
      cases hf
      exact R _ _ dX12_loop_32
    · replace hf := z_iff c6 hf
      refine z_iload C dX12_loop_18 5 rfl ?_
      refine z_i2l C dX12_loop_20 ?_
      refine z_lconst C dX12_loop_21 1 rfl ?_
      refine z_ldc2 C 5 (by decide +kernel) dX12_loop_22 ?_
      obtain ⟨q7, h8, hf⟩ := z_bind hf
      refine z_callSi C (rest := []) (tX12_in (ze_l E) (ze_D E) t _ h8) gX12_loop_X12_in rfl hdX12_in ⟨(Nat.le_of_ble_eq_true rfl), (Nat.le_of_ble_eq_true rfl)⟩ ⟨Nat.zero_le _, Nat.zero_le _⟩ rfl rfl (Nat.le_of_ble_eq_true rfl) dX12_loop_25 ?_
      refine z_if_ne C 33 dX12_loop_28 (by decide) (fun c9 => ?_) (fun c9 => ?_)
      · replace hf := z_iff c9 hf
        refine z_aload_n C dX12_loop_33 rfl 0 rfl ?_
        refine z_iload_n C dX12_loop_34 rfl 2 rfl ?_
        refine z_iload_n C dX12_loop_35 rfl 3 rfl ?_
        refine z_iload C dX12_loop_36 4 rfl ?_
        refine z_iload C dX12_loop_38 5 rfl ?_
        obtain ⟨q10, h11, hf⟩ := z_bind hf
        refine z_callVi C (rest := []) (tX12_against (ze_l E) (ze_D E) t a h11) gX12_loop_X12_against rfl hdX12_against ⟨(Nat.le_of_ble_eq_true rfl), (Nat.le_of_ble_eq_true rfl)⟩ ⟨Nat.zero_le _, Nat.zero_le _⟩ 0 mw_at_0 rfl rfl rfl (Nat.le_of_ble_eq_true rfl) dX12_loop_40 ?_
        refine z_istore C [(6, .int q10.1), (0, .ref (a 0)), (1, .int v1), (2, .int v2), (3, .int v3), (4, .int v4), (5, .int v5)] dX12_loop_43 (by decide) rfl ?_
        refine z_iload C dX12_loop_45 0 rfl ?_
        refine z_if_ge C 53 dX12_loop_47 (by decide) (fun c12 => ?_) (fun c12 => ?_)
        · replace hf := z_ift c12 hf
          refine z_bipush C dX12_loop_53 40 rfl ?_
          refine z_iload_n C dX12_loop_55 rfl 3 rfl ?_
          refine z_imul C dX12_loop_56 ?_
          refine z_iload C dX12_loop_57 5 rfl ?_
          refine z_iadd C dX12_loop_59 ?_
          refine z_istore C [(7, .int ((40 * v2) + v4)), (6, .int q10.1), (0, .ref (a 0)), (1, .int v1), (2, .int v2), (3, .int v3), (4, .int v4), (5, .int v5)] dX12_loop_60 (by decide) rfl ?_
          refine z_iconst C dX12_loop_62 0 rfl ?_
          refine z_istore C [(8, .int 0), (7, .int ((40 * v2) + v4)), (6, .int q10.1), (0, .ref (a 0)), (1, .int v1), (2, .int v2), (3, .int v3), (4, .int v4), (5, .int v5)] dX12_loop_63 (by decide) rfl ?_
          exact z_sub [3, 4, 8, 1, 0] rfl (kX12_loop_65 E t a out C R 200 _ _ _ _ _ hf)
        · replace hf := z_iff c12 hf
          refine z_iload C dX12_loop_50 0 rfl ?_
          cases hf
          exact R _ _ dX12_loop_52
      · replace hf := z_ift c9 hf
        refine z_iconst C dX12_loop_31 (-1) rfl ?_
        cases hf
        exact R _ _ dX12_loop_32
theorem uX12_isSteady_12 : ∀ w ∈ wsX120, w ∈ wsX12_isSteady := by decide +kernel
set_option maxHeartbeats 4000000 in
set_option maxRecDepth 100000 in
theorem kX12_isSteady_55 (E : zE) (t : zTy) (a : Nat → Nat) (out : Int32 × ST) (C : zC E cX12_isSteady 4 RX12 wsX12_isSteady (zrm 1 21) t) (R : zRz E cX12_isSteady 4 out.1 (MW t a out.2)) (kb4 : Int32 → Int32 → Int32 → ST → Option (Int32 × ST)) (Kb4 : ∀ (v1 : Int32) (v2 : Int32) (v3 : Int32) (x : ST), kb4 v1 v2 v3 x = some out → zG E 4 0 0 (MW t a x) 4 [(0, .ref (a 0)), (1, .int v1), (2, .int v2), (3, .int v3)] []) : ∀ (v1 : Int32) (v3 : Int32) (s0 : Int32) (x : ST), fX12_isSteady_55 kb4 v1 v3 s0 x = some out → zG E 4 0 0 (MW t a x) 55 [(0, .ref (a 0)), (1, .int v1), (3, .int v3)] [.int s0] := by
  intro v1 v3 s0 x hf
  rw [fX12_isSteady_55] at hf
  refine z_istore_n C [(2, .int s0), (0, .ref (a 0)), (1, .int v1), (3, .int v3)] dX12_isSteady_55 rfl (by decide) rfl ?_
  refine z_iinc C (v3 + 1) [(3, .int (v3 + 1)), (2, .int s0), (0, .ref (a 0)), (1, .int v1)] dX12_isSteady_56 3 rfl rfl (by decide) rfl ?_
  refine z_goto C 4 dX12_isSteady_59 (by decide) ?_
  exact z_sub [2, 3, 1, 0] rfl (Kb4 _ _ _ _ hf)
set_option maxHeartbeats 4000000 in
set_option maxRecDepth 100000 in
theorem kX12_isSteady_154 (E : zE) (t : zTy) (a : Nat → Nat) (out : Int32 × ST) (C : zC E cX12_isSteady 4 RX12 wsX12_isSteady (zrm 1 21) t) (R : zRz E cX12_isSteady 4 out.1 (MW t a out.2)) (kb68 : Int32 → ST → Option (Int32 × ST)) (Kb68 : ∀ (v2 : Int32) (x : ST), kb68 v2 x = some out → zG E 4 0 0 (MW t a x) 68 [(0, .ref (a 0)), (2, .int v2)] []) : ∀ (n : Nat) (v2 : Int32) (v3 : Int32) (x : ST), fX12_isSteady_154 kb68 n v2 v3 x = some out → zG E 4 0 0 (MW t a x) 154 [(0, .ref (a 0)), (2, .int v2), (3, .int v3)] [] := by
  intro n
  induction n with
  | zero =>
    intro v2 v3 x hf
    cases hf
  | succ n ih =>
    intro v2 v3 x hf
    rw [fX12_isSteady_154] at hf
    refine z_iload_n C dX12_isSteady_154 rfl 2 rfl ?_
    refine z_iload_n C dX12_isSteady_155 rfl 1 rfl ?_
    refine z_icmp_gt C 177 dX12_isSteady_156 (by decide) (fun c44 => ?_) (fun c44 => ?_)
    · replace hf := z_ift c44 hf
      refine z_goto C 68 dX12_isSteady_177 (by decide) ?_
      exact z_sub [0, 1] rfl (Kb68 _ _ hf)
    · replace hf := z_iff c44 hf
      refine z_aload_n C dX12_isSteady_159 rfl 0 rfl ?_
      refine mg_StillStarsModel_poly C uX12_isSteady_12 (by decide +kernel) dX12_isSteady_160 ?_
      refine z_iload_n C dX12_isSteady_163 rfl 2 rfl ?_
      refine z_aload_n C dX12_isSteady_164 rfl 0 rfl ?_
      refine mg_StillStarsModel_lower C uX12_isSteady_12 (by decide +kernel) dX12_isSteady_165 ?_
      refine z_iload_n C dX12_isSteady_168 rfl 2 rfl ?_
      obtain ⟨h45, hf⟩ := z_some hf
      refine z_lald C 25 mw_at_25 h45 dX12_isSteady_169 ?_
      obtain ⟨h46, hf⟩ := z_some hf
      refine z_last C 24 mw_at_24 h46 (w' := MW t a (sB x 24 v3 (gB x 25 v3.toNatClampNeg))) mw_up_24 dX12_isSteady_170 ?_
      refine z_iinc C (v3 + 1) [(3, .int (v3 + 1)), (0, .ref (a 0)), (2, .int v2)] dX12_isSteady_171 2 rfl rfl (by decide) rfl ?_
      refine z_goto C 154 dX12_isSteady_174 (by decide) ?_
      exact z_sub [1, 2, 0] rfl (ih _ _ _ hf)
set_option maxHeartbeats 4000000 in
set_option maxRecDepth 100000 in
theorem kX12_isSteady_149 (E : zE) (t : zTy) (a : Nat → Nat) (out : Int32 × ST) (C : zC E cX12_isSteady 4 RX12 wsX12_isSteady (zrm 1 21) t) (R : zRz E cX12_isSteady 4 out.1 (MW t a out.2)) (kb68 : Int32 → ST → Option (Int32 × ST)) (Kb68 : ∀ (v2 : Int32) (x : ST), kb68 v2 x = some out → zG E 4 0 0 (MW t a x) 68 [(0, .ref (a 0)), (2, .int v2)] []) : ∀ (v2 : Int32) (x : ST), fX12_isSteady_149 kb68 v2 x = some out → zG E 4 0 0 (MW t a x) 149 [(0, .ref (a 0)), (2, .int v2)] [] := by
  intro v2 x hf
  rw [fX12_isSteady_149] at hf
  refine z_iinc C (v2 + (-1)) [(2, .int (v2 + (-1))), (0, .ref (a 0))] dX12_isSteady_149 1 rfl rfl (by decide) rfl ?_
  refine z_iconst C dX12_isSteady_152 0 rfl ?_
  refine z_istore_n C [(3, .int 0), (2, .int (v2 + (-1))), (0, .ref (a 0))] dX12_isSteady_153 rfl (by decide) rfl ?_
  exact z_sub [2, 1, 0] rfl (kX12_isSteady_154 E t a out C R (kb68) (Kb68) 200 _ _ _ hf)
set_option maxHeartbeats 4000000 in
set_option maxRecDepth 100000 in
theorem kX12_isSteady_99 (E : zE) (t : zTy) (a : Nat → Nat) (out : Int32 × ST) (C : zC E cX12_isSteady 4 RX12 wsX12_isSteady (zrm 1 21) t) (R : zRz E cX12_isSteady 4 out.1 (MW t a out.2)) (kb68 : Int32 → ST → Option (Int32 × ST)) (Kb68 : ∀ (v2 : Int32) (x : ST), kb68 v2 x = some out → zG E 4 0 0 (MW t a x) 68 [(0, .ref (a 0)), (2, .int v2)] []) : ∀ (n : Nat) (v2 : Int32) (v3 : Int32) (x : ST), fX12_isSteady_99 kb68 n v2 v3 x = some out → zG E 4 0 0 (MW t a x) 99 [(0, .ref (a 0)), (2, .int v2), (3, .int v3)] [] := by
  intro n
  induction n with
  | zero =>
    intro v2 v3 x hf
    cases hf
  | succ n ih =>
    intro v2 v3 x hf
    rw [fX12_isSteady_99] at hf
    refine z_iload_n C dX12_isSteady_99 rfl 2 rfl ?_
    refine z_iload_n C dX12_isSteady_100 rfl 1 rfl ?_
    refine z_icmp_ge C 149 dX12_isSteady_101 (by decide) (fun c27 => ?_) (fun c27 => ?_)
    · replace hf := z_ift c27 hf
      exact z_sub [0, 1] rfl (kX12_isSteady_149 E t a out C R (kb68) (Kb68) _ _ hf)
    · replace hf := z_iff c27 hf
      refine z_aload_n C dX12_isSteady_104 rfl 0 rfl ?_
      refine mg_StillStarsModel_lower C uX12_isSteady_12 (by decide +kernel) dX12_isSteady_105 ?_
      refine z_iload_n C dX12_isSteady_108 rfl 2 rfl ?_
      refine z_aload_n C dX12_isSteady_109 rfl 0 rfl ?_
      refine mg_StillStarsModel_poly C uX12_isSteady_12 (by decide +kernel) dX12_isSteady_110 ?_
      refine z_iload_n C dX12_isSteady_113 rfl 1 rfl ?_
      obtain ⟨h28, hf⟩ := z_some hf
      refine z_lald C 24 mw_at_24 h28 dX12_isSteady_114 ?_
      refine z_aload_n C dX12_isSteady_115 rfl 0 rfl ?_
      refine mg_StillStarsModel_poly C uX12_isSteady_12 (by decide +kernel) dX12_isSteady_116 ?_
      refine z_iload_n C dX12_isSteady_119 rfl 2 rfl ?_
      refine z_iconst C dX12_isSteady_120 1 rfl ?_
      refine z_iadd C dX12_isSteady_121 ?_
      obtain ⟨h29, hf⟩ := z_some hf
      refine z_lald C 24 mw_at_24 h29 dX12_isSteady_122 ?_
      refine z_lmul C dX12_isSteady_123 ?_
      refine z_aload_n C dX12_isSteady_124 rfl 0 rfl ?_
      refine mg_StillStarsModel_poly C uX12_isSteady_12 (by decide +kernel) dX12_isSteady_125 ?_
      refine z_iconst C dX12_isSteady_128 0 rfl ?_
      obtain ⟨h30, hf⟩ := z_some hf
      refine z_lald C 24 mw_at_24 h30 dX12_isSteady_129 ?_
      refine z_aload_n C dX12_isSteady_130 rfl 0 rfl ?_
      refine mg_StillStarsModel_poly C uX12_isSteady_12 (by decide +kernel) dX12_isSteady_131 ?_
      refine z_iload_n C dX12_isSteady_134 rfl 1 rfl ?_
      refine z_iconst C dX12_isSteady_135 1 rfl ?_
      refine z_isub C dX12_isSteady_136 ?_
      refine z_iload_n C dX12_isSteady_137 rfl 2 rfl ?_
      refine z_isub C dX12_isSteady_138 ?_
      obtain ⟨h31, hf⟩ := z_some hf
      refine z_lald C 24 mw_at_24 h31 dX12_isSteady_139 ?_
      refine z_lmul C dX12_isSteady_140 ?_
      refine z_lsub C dX12_isSteady_141 ?_
      obtain ⟨h32, hf⟩ := z_some hf
      refine z_last C 25 mw_at_25 h32 (w' := MW t a (sB x 25 v3 (((gB x 24 v2.toNatClampNeg) * (gB x 24 (v3 + 1).toNatClampNeg)) - ((gB x 24 (0 : Int32).toNatClampNeg) * (gB x 24 ((v2 - 1) - v3).toNatClampNeg))))) mw_up_25 dX12_isSteady_142 ?_
      refine z_iinc C (v3 + 1) [(3, .int (v3 + 1)), (0, .ref (a 0)), (2, .int v2)] dX12_isSteady_143 2 rfl rfl (by decide) rfl ?_
      refine z_goto C 99 dX12_isSteady_146 (by decide) ?_
      exact z_sub [1, 2, 0] rfl (ih _ _ _ hf)
set_option maxHeartbeats 4000000 in
set_option maxRecDepth 100000 in
theorem kX12_isSteady_242 (E : zE) (t : zTy) (a : Nat → Nat) (out : Int32 × ST) (C : zC E cX12_isSteady 4 RX12 wsX12_isSteady (zrm 1 21) t) (R : zRz E cX12_isSteady 4 out.1 (MW t a out.2)) : ∀ (x : ST), fX12_isSteady_242 x = some out → zG E 4 0 0 (MW t a x) 242 [] [] := by
  intro x hf
  rw [fX12_isSteady_242] at hf
  refine z_iconst C dX12_isSteady_242 1 rfl ?_
  refine z_goto C 247 dX12_isSteady_243 (by decide) ?_
  obtain ⟨h43, hf⟩ := z_some hf
  cases hf
  exact R _ _ dX12_isSteady_247 h43
set_option maxHeartbeats 4000000 in
set_option maxRecDepth 100000 in
theorem kX12_isSteady_208 (E : zE) (t : zTy) (a : Nat → Nat) (out : Int32 × ST) (C : zC E cX12_isSteady 4 RX12 wsX12_isSteady (zrm 1 21) t) (R : zRz E cX12_isSteady 4 out.1 (MW t a out.2)) : ∀ (v2 : Int32) (x : ST), fX12_isSteady_208 v2 x = some out → zG E 4 0 0 (MW t a x) 208 [(0, .ref (a 0)), (2, .int v2)] [] := by
  intro v2 x hf
  rw [fX12_isSteady_208] at hf
  refine z_iload_n C dX12_isSteady_208 rfl 1 rfl ?_
  refine z_iconst C dX12_isSteady_209 2 rfl ?_
  refine z_icmp_lt C 242 dX12_isSteady_210 (by decide) (fun c33 => ?_) (fun c33 => ?_)
  · replace hf := z_ift c33 hf
    exact z_sub [] rfl (kX12_isSteady_242 E t a out C R _ hf)
  · replace hf := z_iff c33 hf
    refine z_aload_n C dX12_isSteady_213 rfl 0 rfl ?_
    refine mg_StillStarsModel_poly C uX12_isSteady_12 (by decide +kernel) dX12_isSteady_214 ?_
    refine z_iconst C dX12_isSteady_217 1 rfl ?_
    obtain ⟨h34, hf⟩ := z_some hf
    refine z_lald C 24 mw_at_24 h34 dX12_isSteady_218 ?_
    obtain ⟨q35, h36, hf⟩ := z_bind hf
    refine z_callSl C (rest := []) (tX12_size (ze_l E) (ze_D E) t _ h36) gX12_isSteady_X12_size rfl hdX12_size ⟨(Nat.le_of_ble_eq_true rfl), (Nat.le_of_ble_eq_true rfl)⟩ ⟨Nat.zero_le _, Nat.zero_le _⟩ rfl rfl (Nat.le_of_ble_eq_true rfl) dX12_isSteady_219 ?_
    refine z_aload_n C dX12_isSteady_222 rfl 0 rfl ?_
    refine mg_StillStarsModel_poly C uX12_isSteady_12 (by decide +kernel) dX12_isSteady_223 ?_
    refine z_iconst C dX12_isSteady_226 2 rfl ?_
    obtain ⟨h37, hf⟩ := z_some hf
    refine z_lald C 24 mw_at_24 h37 dX12_isSteady_227 ?_
    refine z_aload_n C dX12_isSteady_228 rfl 0 rfl ?_
    refine mg_StillStarsModel_poly C uX12_isSteady_12 (by decide +kernel) dX12_isSteady_229 ?_
    refine z_iconst C dX12_isSteady_232 0 rfl ?_
    obtain ⟨h38, hf⟩ := z_some hf
    refine z_lald C 24 mw_at_24 h38 dX12_isSteady_233 ?_
    refine z_ladd C dX12_isSteady_234 ?_
    obtain ⟨q39, h40, hf⟩ := z_bind hf
    refine z_callSl C (rest := [.long q35]) (tX12_size (ze_l E) (ze_D E) t _ h40) gX12_isSteady_X12_size rfl hdX12_size ⟨(Nat.le_of_ble_eq_true rfl), (Nat.le_of_ble_eq_true rfl)⟩ ⟨Nat.zero_le _, Nat.zero_le _⟩ rfl rfl (Nat.le_of_ble_eq_true rfl) dX12_isSteady_235 ?_
    refine z_lcmp_ge C 246 dX12_isSteady_238 dX12_isSteady_239 (by decide) (fun c41 => ?_) (fun c41 => ?_)
    · replace hf := z_ift c41 hf
      refine z_iconst C dX12_isSteady_246 0 rfl ?_
      obtain ⟨h42, hf⟩ := z_some hf
      cases hf
      exact R _ _ dX12_isSteady_247 h42
    · replace hf := z_iff c41 hf
      exact z_sub [] rfl (kX12_isSteady_242 E t a out C R _ hf)
set_option maxHeartbeats 4000000 in
set_option maxRecDepth 100000 in
theorem kX12_isSteady_180 (E : zE) (t : zTy) (a : Nat → Nat) (out : Int32 × ST) (C : zC E cX12_isSteady 4 RX12 wsX12_isSteady (zrm 1 21) t) (R : zRz E cX12_isSteady 4 out.1 (MW t a out.2)) : ∀ (v2 : Int32) (x : ST), fX12_isSteady_180 v2 x = some out → zG E 4 0 0 (MW t a x) 180 [(0, .ref (a 0)), (2, .int v2)] [] := by
  intro v2 x hf
  rw [fX12_isSteady_180] at hf
  refine z_iload_n C dX12_isSteady_180 rfl 1 rfl ?_
  refine z_if_le C 208 dX12_isSteady_181 (by decide) (fun c18 => ?_) (fun c18 => ?_)
  · replace hf := z_ift c18 hf
    exact z_sub [0, 1] rfl (kX12_isSteady_208 E t a out C R _ _ hf)
  · replace hf := z_iff c18 hf
    refine z_aload_n C dX12_isSteady_184 rfl 0 rfl ?_
    refine mg_StillStarsModel_poly C uX12_isSteady_12 (by decide +kernel) dX12_isSteady_185 ?_
    refine z_iconst C dX12_isSteady_188 0 rfl ?_
    obtain ⟨h19, hf⟩ := z_some hf
    refine z_lald C 24 mw_at_24 h19 dX12_isSteady_189 ?_
    obtain ⟨q20, h21, hf⟩ := z_bind hf
    refine z_callSl C (rest := []) (tX12_size (ze_l E) (ze_D E) t _ h21) gX12_isSteady_X12_size rfl hdX12_size ⟨(Nat.le_of_ble_eq_true rfl), (Nat.le_of_ble_eq_true rfl)⟩ ⟨Nat.zero_le _, Nat.zero_le _⟩ rfl rfl (Nat.le_of_ble_eq_true rfl) dX12_isSteady_190 ?_
    refine z_aload_n C dX12_isSteady_193 rfl 0 rfl ?_
    refine mg_StillStarsModel_poly C uX12_isSteady_12 (by decide +kernel) dX12_isSteady_194 ?_
    refine z_iload_n C dX12_isSteady_197 rfl 1 rfl ?_
    obtain ⟨h22, hf⟩ := z_some hf
    refine z_lald C 24 mw_at_24 h22 dX12_isSteady_198 ?_
    obtain ⟨q23, h24, hf⟩ := z_bind hf
    refine z_callSl C (rest := [.long q20]) (tX12_size (ze_l E) (ze_D E) t _ h24) gX12_isSteady_X12_size rfl hdX12_size ⟨(Nat.le_of_ble_eq_true rfl), (Nat.le_of_ble_eq_true rfl)⟩ ⟨Nat.zero_le _, Nat.zero_le _⟩ rfl rfl (Nat.le_of_ble_eq_true rfl) dX12_isSteady_199 ?_
    refine z_lcmp_lt C 208 dX12_isSteady_202 dX12_isSteady_203 (by decide) (fun c25 => ?_) (fun c25 => ?_)
    · replace hf := z_ift c25 hf
      exact z_sub [0, 1] rfl (kX12_isSteady_208 E t a out C R _ _ hf)
    · replace hf := z_iff c25 hf
      refine z_iconst C dX12_isSteady_206 0 rfl ?_
      obtain ⟨h26, hf⟩ := z_some hf
      cases hf
      exact R _ _ dX12_isSteady_207 h26
set_option maxHeartbeats 4000000 in
set_option maxRecDepth 100000 in
theorem kX12_isSteady_68 (E : zE) (t : zTy) (a : Nat → Nat) (out : Int32 × ST) (C : zC E cX12_isSteady 4 RX12 wsX12_isSteady (zrm 1 21) t) (R : zRz E cX12_isSteady 4 out.1 (MW t a out.2)) : ∀ (n : Nat) (v2 : Int32) (x : ST), fX12_isSteady_68 n v2 x = some out → zG E 4 0 0 (MW t a x) 68 [(0, .ref (a 0)), (2, .int v2)] [] := by
  intro n
  induction n with
  | zero =>
    intro v2 x hf
    cases hf
  | succ n ih =>
    intro v2 x hf
    rw [fX12_isSteady_68] at hf
    refine z_iload_n C dX12_isSteady_68 rfl 1 rfl ?_
    refine z_iconst C dX12_isSteady_69 2 rfl ?_
    refine z_icmp_le C 180 dX12_isSteady_70 (by decide) (fun c9 => ?_) (fun c9 => ?_)
    · replace hf := z_ift c9 hf
      exact z_sub [0, 1] rfl (kX12_isSteady_180 E t a out C R _ _ hf)
    · replace hf := z_iff c9 hf
      refine z_aload_n C dX12_isSteady_73 rfl 0 rfl ?_
      refine mg_StillStarsModel_poly C uX12_isSteady_12 (by decide +kernel) dX12_isSteady_74 ?_
      refine z_iconst C dX12_isSteady_77 0 rfl ?_
      obtain ⟨h10, hf⟩ := z_some hf
      refine z_lald C 24 mw_at_24 h10 dX12_isSteady_78 ?_
      obtain ⟨q11, h12, hf⟩ := z_bind hf
      refine z_callSl C (rest := []) (tX12_size (ze_l E) (ze_D E) t _ h12) gX12_isSteady_X12_size rfl hdX12_size ⟨(Nat.le_of_ble_eq_true rfl), (Nat.le_of_ble_eq_true rfl)⟩ ⟨Nat.zero_le _, Nat.zero_le _⟩ rfl rfl (Nat.le_of_ble_eq_true rfl) dX12_isSteady_79 ?_
      refine z_aload_n C dX12_isSteady_82 rfl 0 rfl ?_
      refine mg_StillStarsModel_poly C uX12_isSteady_12 (by decide +kernel) dX12_isSteady_83 ?_
      refine z_iload_n C dX12_isSteady_86 rfl 1 rfl ?_
      obtain ⟨h13, hf⟩ := z_some hf
      refine z_lald C 24 mw_at_24 h13 dX12_isSteady_87 ?_
      obtain ⟨q14, h15, hf⟩ := z_bind hf
      refine z_callSl C (rest := [.long q11]) (tX12_size (ze_l E) (ze_D E) t _ h15) gX12_isSteady_X12_size rfl hdX12_size ⟨(Nat.le_of_ble_eq_true rfl), (Nat.le_of_ble_eq_true rfl)⟩ ⟨Nat.zero_le _, Nat.zero_le _⟩ rfl rfl (Nat.le_of_ble_eq_true rfl) dX12_isSteady_88 ?_
      refine z_lcmp_lt C 97 dX12_isSteady_91 dX12_isSteady_92 (by decide) (fun c16 => ?_) (fun c16 => ?_)
      · replace hf := z_ift c16 hf
        refine z_iconst C dX12_isSteady_97 0 rfl ?_
        refine z_istore_n C [(3, .int 0), (0, .ref (a 0)), (2, .int v2)] dX12_isSteady_98 rfl (by decide) rfl ?_
        exact z_sub [1, 2, 0] rfl (kX12_isSteady_99 E t a out C R (fX12_isSteady_68 n) (ih) 200 _ _ _ hf)
      · replace hf := z_iff c16 hf
        refine z_iconst C dX12_isSteady_95 0 rfl ?_
        obtain ⟨h17, hf⟩ := z_some hf
        cases hf
        exact R _ _ dX12_isSteady_96 h17
set_option maxHeartbeats 4000000 in
set_option maxRecDepth 100000 in
theorem kX12_isSteady_62 (E : zE) (t : zTy) (a : Nat → Nat) (out : Int32 × ST) (C : zC E cX12_isSteady 4 RX12 wsX12_isSteady (zrm 1 21) t) (R : zRz E cX12_isSteady 4 out.1 (MW t a out.2)) : ∀ (v2 : Int32) (x : ST), fX12_isSteady_62 v2 x = some out → zG E 4 0 0 (MW t a x) 62 [(0, .ref (a 0)), (2, .int v2)] [] := by
  intro v2 x hf
  rw [fX12_isSteady_62] at hf
  refine z_iload_n C dX12_isSteady_62 rfl 1 rfl ?_
  refine z_if_ge C 68 dX12_isSteady_63 (by decide) (fun c7 => ?_) (fun c7 => ?_)
  · replace hf := z_ift c7 hf
    exact z_sub [0, 1] rfl (kX12_isSteady_68 E t a out C R 200 _ _ hf)
  · replace hf := z_iff c7 hf
    refine z_iconst C dX12_isSteady_66 0 rfl ?_
    obtain ⟨h8, hf⟩ := z_some hf
    cases hf
    exact R _ _ dX12_isSteady_67 h8
set_option maxHeartbeats 4000000 in
set_option maxRecDepth 100000 in
theorem kX12_isSteady_4 (E : zE) (t : zTy) (a : Nat → Nat) (out : Int32 × ST) (C : zC E cX12_isSteady 4 RX12 wsX12_isSteady (zrm 1 21) t) (R : zRz E cX12_isSteady 4 out.1 (MW t a out.2)) : ∀ (n : Nat) (v1 : Int32) (v2 : Int32) (v3 : Int32) (x : ST), fX12_isSteady_4 n v1 v2 v3 x = some out → zG E 4 0 0 (MW t a x) 4 [(0, .ref (a 0)), (1, .int v1), (2, .int v2), (3, .int v3)] [] := by
  intro n
  induction n with
  | zero =>
    intro v1 v2 v3 x hf
    cases hf
  | succ n ih =>
    intro v1 v2 v3 x hf
    rw [fX12_isSteady_4] at hf
    refine z_iload_n C dX12_isSteady_4 rfl 3 rfl ?_
    refine z_iconst C dX12_isSteady_5 5 rfl ?_
    refine z_icmp_ge C 62 dX12_isSteady_6 (by decide) (fun c1 => ?_) (fun c1 => ?_)
    · replace hf := z_ift c1 hf
      exact z_sub [0, 2] rfl (kX12_isSteady_62 E t a out C R _ _ hf)
    · replace hf := z_iff c1 hf
      refine z_aload_n C dX12_isSteady_9 rfl 0 rfl ?_
      refine mg_StillStarsModel_poly C uX12_isSteady_12 (by decide +kernel) dX12_isSteady_10 ?_
      refine z_iload_n C dX12_isSteady_13 rfl 3 rfl ?_
      refine z_ldc2 C 100 (by decide +kernel) dX12_isSteady_14 ?_
      refine z_aload_n C dX12_isSteady_17 rfl 0 rfl ?_
      refine mg_StillStarsModel_loops C uX12_isSteady_12 (by decide +kernel) dX12_isSteady_18 ?_
      refine z_iload_n C dX12_isSteady_21 rfl 3 rfl ?_
      obtain ⟨h2, hf⟩ := z_some hf
      refine z_iald C 23 mw_at_23 h2 dX12_isSteady_22 ?_
      refine z_i2l C dX12_isSteady_23 ?_
      refine z_lmul C dX12_isSteady_24 ?_
      refine z_iload_n C dX12_isSteady_25 rfl 1 rfl ?_
      refine z_i2l C dX12_isSteady_26 ?_
      refine z_aload_n C dX12_isSteady_27 rfl 0 rfl ?_
      refine mg_StillStarsModel_loops C uX12_isSteady_12 (by decide +kernel) dX12_isSteady_28 ?_
      refine z_iconst C dX12_isSteady_31 5 rfl ?_
      refine z_iload_n C dX12_isSteady_32 rfl 3 rfl ?_
      refine z_iadd C dX12_isSteady_33 ?_
      obtain ⟨h3, hf⟩ := z_some hf
      refine z_iald C 23 mw_at_23 h3 dX12_isSteady_34 ?_
      refine z_i2l C dX12_isSteady_35 ?_
      refine z_lmul C dX12_isSteady_36 ?_
      refine z_ladd C dX12_isSteady_37 ?_
      obtain ⟨h4, hf⟩ := z_some hf
      refine z_last C 24 mw_at_24 h4 (w' := MW t a (sB x 24 v3 ((100 * ((gA x 23 v3.toNatClampNeg).toInt64)) + (v1.toInt64 * ((gA x 23 (5 + v3).toNatClampNeg).toInt64))))) mw_up_24 dX12_isSteady_38 ?_
      refine z_aload_n C dX12_isSteady_39 rfl 0 rfl ?_
      refine mg_StillStarsModel_poly C uX12_isSteady_12 (by decide +kernel) dX12_isSteady_40 ?_
      refine z_iload_n C dX12_isSteady_43 rfl 3 rfl ?_
      obtain ⟨h5, hf⟩ := z_some hf
      refine z_lald C 24 mw_at_24 h5 dX12_isSteady_44 ?_
      refine z_lconst C dX12_isSteady_45 0 rfl ?_
      refine z_lcmp_eq C 54 dX12_isSteady_46 dX12_isSteady_47 (by decide) (fun c6 => ?_) (fun c6 => ?_)
      · replace hf := z_ift c6 hf
        refine z_iload_n C dX12_isSteady_54 rfl 2 rfl ?_
        exact z_sub [0, 1, 3] rfl (kX12_isSteady_55 E t a out C R (fX12_isSteady_4 n) (ih) _ _ _ _ hf)
      · replace hf := z_iff c6 hf
        refine z_iload_n C dX12_isSteady_50 rfl 3 rfl ?_
        refine z_goto C 55 dX12_isSteady_51 (by decide) ?_
        exact z_sub [0, 1, 3] rfl (kX12_isSteady_55 E t a out C R (fX12_isSteady_4 n) (ih) _ _ _ _ hf)
theorem hdX12_isSteady : yX12_isSteady.cls = RX12 ∧ yX12_isSteady.cls ≠ "java/lang/invoke/MethodHandle" ∧ yX12_isSteady.cls ≠ "java/lang/invoke/VarHandle" ∧ (parseMethodDescriptor yX12_isSteady.desc).map (fun d => d.parameters.length) = some 1 := by decide +kernel
set_option maxHeartbeats 4000000 in
set_option maxRecDepth 100000 in
theorem tX12_isSteady (l : Launch) (D : va_G) (t : zTy) (a : Nat → Nat) {v1 : Int32} {x : ST} {out : Int32 × ST} (hf : fX12_isSteady v1 x = some out) : zMi l yX12_isSteady wsX12_isSteady 1 21 D t [.ref (a 0), .int v1] (MW t a x) out.1 (MW t a out.2) := by
  refine z_entry_z (cc := cX12_isSteady) (nL := 4) (by decide) rfl (Nat.le_of_ble_eq_true rfl) (fun E _ _ C R => ?_)
  refine z_sub (lv' := [(0, .ref (a 0)), (1, .int v1)]) [0, 1] rfl ?_
  rw [fX12_isSteady] at hf
  refine z_iconst C dX12_isSteady_0 (-1) rfl ?_
  refine z_istore_n C [(2, .int (-1)), (0, .ref (a 0)), (1, .int v1)] dX12_isSteady_1 rfl (by decide) rfl ?_
  refine z_iconst C dX12_isSteady_2 0 rfl ?_
  refine z_istore_n C [(3, .int 0), (2, .int (-1)), (0, .ref (a 0)), (1, .int v1)] dX12_isSteady_3 rfl (by decide) rfl ?_
  exact z_sub [2, 3, 1, 0] rfl (kX12_isSteady_4 E t a out C R 200 _ _ _ _ hf)
theorem hdX12_steady : yX12_steady.cls = RX12 ∧ yX12_steady.cls ≠ "java/lang/invoke/MethodHandle" ∧ yX12_steady.cls ≠ "java/lang/invoke/VarHandle" ∧ (parseMethodDescriptor yX12_steady.desc).map (fun d => d.parameters.length) = some 1 := by decide +kernel
set_option maxHeartbeats 4000000 in
set_option maxRecDepth 100000 in
theorem tX12_steady (l : Launch) (D : va_G) (t : zTy) (a : Nat → Nat) {v1 : Int32} {x : ST} {out : Int32 × ST} (hf : fX12_steady v1 x = some out) : zMi l yX12_steady wsX12_steady 2 44 D t [.ref (a 0), .int v1] (MW t a x) out.1 (MW t a out.2) := by
  refine z_entry_i (cc := cX12_steady) (nL := 2) (by decide) rfl (Nat.le_of_ble_eq_true rfl) (fun E _ _ C R => ?_)
  refine z_sub (lv' := [(0, .ref (a 0)), (1, .int v1)]) [0, 1] rfl ?_
  rw [fX12_steady] at hf
  refine z_iload_n C dX12_steady_0 rfl 1 rfl ?_
  refine z_i2l C dX12_steady_1 ?_
  refine z_lconst C dX12_steady_2 0 rfl ?_
  refine z_ldc2 C 100 (by decide +kernel) dX12_steady_3 ?_
  obtain ⟨q1, h2, hf⟩ := z_bind hf
  refine z_callSi C (rest := []) (tX12_in (ze_l E) (ze_D E) t _ h2) gX12_steady_X12_in rfl hdX12_in ⟨(Nat.le_of_ble_eq_true rfl), (Nat.le_of_ble_eq_true rfl)⟩ ⟨Nat.zero_le _, Nat.zero_le _⟩ rfl rfl (Nat.le_of_ble_eq_true rfl) dX12_steady_6 ?_
  refine z_if_ne C 16 dX12_steady_9 (by decide) (fun c3 => ?_) (fun c3 => ?_)
  · replace hf := z_iff c3 hf
    refine z_aload_n C dX12_steady_16 rfl 0 rfl ?_
    refine z_iload_n C dX12_steady_17 rfl 1 rfl ?_
    obtain ⟨q4, h5, hf⟩ := z_bind hf
    refine z_callVi C (rest := []) (tX12_isSteady (ze_l E) (ze_D E) t a h5) gX12_steady_X12_isSteady rfl hdX12_isSteady ⟨(Nat.le_of_ble_eq_true rfl), (Nat.le_of_ble_eq_true rfl)⟩ ⟨Nat.zero_le _, Nat.zero_le _⟩ 0 mw_at_0 rfl rfl rfl (Nat.le_of_ble_eq_true rfl) dX12_steady_18 ?_
    refine z_if_eq C 28 dX12_steady_21 (by decide) (fun c6 => ?_) (fun c6 => ?_)
    · replace hf := z_ift c6 hf
      refine z_iconst C dX12_steady_28 0 rfl ?_
      cases hf
      exact R _ _ dX12_steady_29
    · replace hf := z_iff c6 hf
      refine z_iconst C dX12_steady_24 1 rfl ?_
      refine z_goto C 29 dX12_steady_25 (by decide) ?_
      cases hf
      exact R _ _ dX12_steady_29
  · replace hf := z_ift c3 hf
    refine z_iconst C dX12_steady_12 (-1) rfl ?_
    refine z_goto C 29 dX12_steady_13 (by decide) ?_
    cases hf
    exact R _ _ dX12_steady_29
set_option maxHeartbeats 4000000 in
set_option maxRecDepth 100000 in
theorem kX12_unsteady_27 (E : zE) (t : zTy) (a : Nat → Nat) (out : Int32 × ST) (C : zC E cX12_unsteady 4 RX12 wsX12_unsteady (zrm 2 44) t) (R : zRi E cX12_unsteady 4 out.1 (MW t a out.2)) : ∀ (n : Nat) (v2 : Int32) (v3 : Int32) (x : ST), fX12_unsteady_27 n v2 v3 x = some out → zG E 4 0 0 (MW t a x) 27 [(0, .ref (a 0)), (2, .int v2), (3, .int v3)] [] := by
  intro n
  induction n with
  | zero =>
    intro v2 v3 x hf
    cases hf
  | succ n ih =>
    intro v2 v3 x hf
    rw [fX12_unsteady_27] at hf
    refine z_iload_n C dX12_unsteady_27 rfl 2 rfl ?_
    refine z_iload_n C dX12_unsteady_28 rfl 1 rfl ?_
    refine z_icmp_gt C 48 dX12_unsteady_29 (by decide) (fun c7 => ?_) (fun c7 => ?_)
    · replace hf := z_ift c7 hf
      refine z_bipush C dX12_unsteady_48 (-4) rfl ?_
      cases hf
      exact R _ _ dX12_unsteady_50
    · replace hf := z_iff c7 hf
      refine z_aload_n C dX12_unsteady_32 rfl 0 rfl ?_
      refine z_iload_n C dX12_unsteady_33 rfl 2 rfl ?_
      obtain ⟨q8, h9, hf⟩ := z_bind hf
      refine z_callVi C (rest := []) (tX12_isSteady (ze_l E) (ze_D E) t a h9) gX12_unsteady_X12_isSteady rfl hdX12_isSteady ⟨(Nat.le_of_ble_eq_true rfl), (Nat.le_of_ble_eq_true rfl)⟩ ⟨Nat.zero_le _, Nat.zero_le _⟩ 0 mw_at_0 rfl rfl rfl (Nat.le_of_ble_eq_true rfl) dX12_unsteady_34 ?_
      refine z_if_ne C 42 dX12_unsteady_37 (by decide) (fun c10 => ?_) (fun c10 => ?_)
      · replace hf := z_iff c10 hf
        refine z_iinc C (v3 + 1) [(3, .int (v3 + 1)), (0, .ref (a 0)), (2, .int v2)] dX12_unsteady_42 2 rfl rfl (by decide) rfl ?_
        refine z_goto C 27 dX12_unsteady_45 (by decide) ?_
        exact z_sub [1, 2, 0] rfl (ih _ _ _ hf)
      · replace hf := z_ift c10 hf
        refine z_iload_n C dX12_unsteady_40 rfl 2 rfl ?_
        cases hf
        exact R _ _ dX12_unsteady_41
theorem hdX12_unsteady : yX12_unsteady.cls = RX12 ∧ yX12_unsteady.cls ≠ "java/lang/invoke/MethodHandle" ∧ yX12_unsteady.cls ≠ "java/lang/invoke/VarHandle" ∧ (parseMethodDescriptor yX12_unsteady.desc).map (fun d => d.parameters.length) = some 2 := by decide +kernel
set_option maxHeartbeats 4000000 in
set_option maxRecDepth 100000 in
theorem tX12_unsteady (l : Launch) (D : va_G) (t : zTy) (a : Nat → Nat) {v1 : Int32} {v2 : Int32} {x : ST} {out : Int32 × ST} (hf : fX12_unsteady v1 v2 x = some out) : zMi l yX12_unsteady wsX12_unsteady 2 44 D t [.ref (a 0), .int v1, .int v2] (MW t a x) out.1 (MW t a out.2) := by
  refine z_entry_i (cc := cX12_unsteady) (nL := 4) (by decide) rfl (Nat.le_of_ble_eq_true rfl) (fun E _ _ C R => ?_)
  refine z_sub (lv' := [(0, .ref (a 0)), (1, .int v1), (2, .int v2)]) [0, 1, 2] rfl ?_
  rw [fX12_unsteady] at hf
  refine z_iload_n C dX12_unsteady_0 rfl 1 rfl ?_
  refine z_i2l C dX12_unsteady_1 ?_
  refine z_lconst C dX12_unsteady_2 0 rfl ?_
  refine z_iload_n C dX12_unsteady_3 rfl 2 rfl ?_
  refine z_i2l C dX12_unsteady_4 ?_
  obtain ⟨q1, h2, hf⟩ := z_bind hf
  refine z_callSi C (rest := []) (tX12_in (ze_l E) (ze_D E) t _ h2) gX12_unsteady_X12_in rfl hdX12_in ⟨(Nat.le_of_ble_eq_true rfl), (Nat.le_of_ble_eq_true rfl)⟩ ⟨Nat.zero_le _, Nat.zero_le _⟩ rfl rfl (Nat.le_of_ble_eq_true rfl) dX12_unsteady_5 ?_
  refine z_if_eq C 23 dX12_unsteady_8 (by decide) (fun c3 => ?_) (fun c3 => ?_)
  · replace hf := z_ift c3 hf
    refine z_iconst C dX12_unsteady_23 (-1) rfl ?_
    cases hf
    exact R _ _ dX12_unsteady_24
  · replace hf := z_iff c3 hf
    refine z_iload_n C dX12_unsteady_11 rfl 2 rfl ?_
    refine z_i2l C dX12_unsteady_12 ?_
    refine z_lconst C dX12_unsteady_13 0 rfl ?_
    refine z_ldc2 C 100 (by decide +kernel) dX12_unsteady_14 ?_
    obtain ⟨q4, h5, hf⟩ := z_bind hf
    refine z_callSi C (rest := []) (tX12_in (ze_l E) (ze_D E) t _ h5) gX12_unsteady_X12_in rfl hdX12_in ⟨(Nat.le_of_ble_eq_true rfl), (Nat.le_of_ble_eq_true rfl)⟩ ⟨Nat.zero_le _, Nat.zero_le _⟩ rfl rfl (Nat.le_of_ble_eq_true rfl) dX12_unsteady_17 ?_
    refine z_if_ne C 25 dX12_unsteady_20 (by decide) (fun c6 => ?_) (fun c6 => ?_)
    · replace hf := z_iff c6 hf
      refine z_iload_n C dX12_unsteady_25 rfl 1 rfl ?_
      refine z_istore_n C [(3, .int v1), (0, .ref (a 0)), (1, .int v1), (2, .int v2)] dX12_unsteady_26 rfl (by decide) rfl ?_
      exact z_sub [1, 3, 0] rfl (kX12_unsteady_27 E t a out C R 200 _ _ _ hf)
    · replace hf := z_ift c6 hf
      refine z_iconst C dX12_unsteady_23 (-1) rfl ?_
      cases hf
      exact R _ _ dX12_unsteady_24
theorem uX12_cell_12 : ∀ w ∈ wsX120, w ∈ wsX12_cell := by decide +kernel
theorem hdX12_cell : yX12_cell.cls = RX12 ∧ yX12_cell.cls ≠ "java/lang/invoke/MethodHandle" ∧ yX12_cell.cls ≠ "java/lang/invoke/VarHandle" ∧ (parseMethodDescriptor yX12_cell.desc).map (fun d => d.parameters.length) = some 3 := by decide +kernel
set_option maxHeartbeats 4000000 in
set_option maxRecDepth 100000 in
theorem tX12_cell (l : Launch) (D : va_G) (t : zTy) (a : Nat → Nat) {v1 : Int32} {v2 : Int32} {v3 : Int32} {x : ST} {out : Int32 × ST} (hf : fX12_cell v1 v2 v3 x = some out) : zMi l yX12_cell wsX12_cell 2 45 D t [.ref (a 0), .int v1, .int v2, .int v3] (MW t a x) out.1 (MW t a out.2) := by
  refine z_entry_i (cc := cX12_cell) (nL := 5) (by decide) rfl (Nat.le_of_ble_eq_true rfl) (fun E _ _ C R => ?_)
  refine z_sub (lv' := [(0, .ref (a 0)), (1, .int v1), (2, .int v2), (3, .int v3)]) [0, 1, 2, 3] rfl ?_
  rw [fX12_cell] at hf
  refine z_iload_n C dX12_cell_0 rfl 1 rfl ?_
  obtain ⟨q1, h2, hf⟩ := z_bind hf
  refine z_callSi C (rest := []) (tX12_isLayer (ze_l E) (ze_D E) t _ h2) gX12_cell_X12_isLayer rfl hdX12_isLayer ⟨(Nat.le_of_ble_eq_true rfl), (Nat.le_of_ble_eq_true rfl)⟩ ⟨Nat.zero_le _, Nat.zero_le _⟩ rfl rfl (Nat.le_of_ble_eq_true rfl) dX12_cell_1 ?_
  refine z_if_eq C 33 dX12_cell_4 (by decide) (fun c3 => ?_) (fun c3 => ?_)
  · replace hf := z_ift c3 hf
    refine z_sipush C dX12_cell_33 (-10001) rfl ?_
    cases hf
    exact R _ _ dX12_cell_36
  · replace hf := z_iff c3 hf
    refine z_iload_n C dX12_cell_7 rfl 2 rfl ?_
    refine z_i2l C dX12_cell_8 ?_
    refine z_lconst C dX12_cell_9 0 rfl ?_
    refine z_ldc2 C 31 (by decide +kernel) dX12_cell_10 ?_
    obtain ⟨q4, h5, hf⟩ := z_bind hf
    refine z_callSi C (rest := []) (tX12_in (ze_l E) (ze_D E) t _ h5) gX12_cell_X12_in rfl hdX12_in ⟨(Nat.le_of_ble_eq_true rfl), (Nat.le_of_ble_eq_true rfl)⟩ ⟨Nat.zero_le _, Nat.zero_le _⟩ rfl rfl (Nat.le_of_ble_eq_true rfl) dX12_cell_13 ?_
    refine z_if_eq C 33 dX12_cell_16 (by decide) (fun c6 => ?_) (fun c6 => ?_)
    · replace hf := z_ift c6 hf
      refine z_sipush C dX12_cell_33 (-10001) rfl ?_
      cases hf
      exact R _ _ dX12_cell_36
    · replace hf := z_iff c6 hf
      refine z_iload_n C dX12_cell_19 rfl 3 rfl ?_
      refine z_i2l C dX12_cell_20 ?_
      refine z_ldc2 C (-99) (by decide +kernel) dX12_cell_21 ?_
      refine z_ldc2 C 99 (by decide +kernel) dX12_cell_24 ?_
      obtain ⟨q7, h8, hf⟩ := z_bind hf
      refine z_callSi C (rest := []) (tX12_in (ze_l E) (ze_D E) t _ h8) gX12_cell_X12_in rfl hdX12_in ⟨(Nat.le_of_ble_eq_true rfl), (Nat.le_of_ble_eq_true rfl)⟩ ⟨Nat.zero_le _, Nat.zero_le _⟩ rfl rfl (Nat.le_of_ble_eq_true rfl) dX12_cell_27 ?_
      refine z_if_ne C 37 dX12_cell_30 (by decide) (fun c9 => ?_) (fun c9 => ?_)
      · replace hf := z_iff c9 hf
        refine z_aload_n C dX12_cell_37 rfl 0 rfl ?_
        refine mg_StillStarsModel_air C uX12_cell_12 (by decide +kernel) dX12_cell_38 ?_
        refine z_bipush C dX12_cell_41 32 rfl ?_
        refine z_iload_n C dX12_cell_43 rfl 1 rfl ?_
        refine z_imul C dX12_cell_44 ?_
        refine z_iload_n C dX12_cell_45 rfl 2 rfl ?_
        refine z_iadd C dX12_cell_46 ?_
        obtain ⟨h10, hf⟩ := z_some hf
        refine z_iald C 26 mw_at_26 h10 dX12_cell_47 ?_
        refine z_istore C [(4, .int (gA x 26 ((32 * v1) + v2).toNatClampNeg)), (0, .ref (a 0)), (1, .int v1), (2, .int v2), (3, .int v3)] dX12_cell_48 (by decide) rfl ?_
        refine z_aload_n C dX12_cell_50 rfl 1 rfl ?_
        refine mg_StillStarsModel_air C uX12_cell_12 (by decide +kernel) dX12_cell_51 ?_
        refine z_bipush C dX12_cell_54 32 rfl ?_
        refine z_iload_n C dX12_cell_56 rfl 2 rfl ?_
        refine z_imul C dX12_cell_57 ?_
        refine z_iload_n C dX12_cell_58 rfl 3 rfl ?_
        refine z_iadd C dX12_cell_59 ?_
        refine z_iload_n C dX12_cell_60 rfl 4 rfl ?_
        obtain ⟨h11, hf⟩ := z_some hf
        refine z_iast C 26 mw_at_26 h11 (w' := MW t a (sA x 26 ((32 * v1) + v2) v3)) mw_up_26 dX12_cell_61 ?_
        refine z_iload C dX12_cell_62 0 rfl ?_
        cases hf
        exact R _ _ dX12_cell_64
      · replace hf := z_ift c9 hf
        refine z_sipush C dX12_cell_33 (-10001) rfl ?_
        cases hf
        exact R _ _ dX12_cell_36
theorem uX12_wind_12 : ∀ w ∈ wsX120, w ∈ wsX12_wind := by decide +kernel
theorem hdX12_wind : yX12_wind.cls = RX12 ∧ yX12_wind.cls ≠ "java/lang/invoke/MethodHandle" ∧ yX12_wind.cls ≠ "java/lang/invoke/VarHandle" ∧ (parseMethodDescriptor yX12_wind.desc).map (fun d => d.parameters.length) = some 2 := by decide +kernel
set_option maxHeartbeats 4000000 in
set_option maxRecDepth 100000 in
theorem tX12_wind (l : Launch) (D : va_G) (t : zTy) (a : Nat → Nat) {v1 : Int32} {v2 : Int32} {x : ST} {out : Int32 × ST} (hf : fX12_wind v1 v2 x = some out) : zMi l yX12_wind wsX12_wind 2 45 D t [.ref (a 0), .int v1, .int v2] (MW t a x) out.1 (MW t a out.2) := by
  refine z_entry_i (cc := cX12_wind) (nL := 4) (by decide) rfl (Nat.le_of_ble_eq_true rfl) (fun E _ _ C R => ?_)
  refine z_sub (lv' := [(0, .ref (a 0)), (1, .int v1), (2, .int v2)]) [0, 1, 2] rfl ?_
  rw [fX12_wind] at hf
  refine z_iload_n C dX12_wind_0 rfl 1 rfl ?_
  obtain ⟨q1, h2, hf⟩ := z_bind hf
  refine z_callSi C (rest := []) (tX12_isLayer (ze_l E) (ze_D E) t _ h2) gX12_wind_X12_isLayer rfl hdX12_isLayer ⟨(Nat.le_of_ble_eq_true rfl), (Nat.le_of_ble_eq_true rfl)⟩ ⟨Nat.zero_le _, Nat.zero_le _⟩ rfl rfl (Nat.le_of_ble_eq_true rfl) dX12_wind_1 ?_
  refine z_if_eq C 21 dX12_wind_4 (by decide) (fun c3 => ?_) (fun c3 => ?_)
  · replace hf := z_ift c3 hf
    refine z_sipush C dX12_wind_21 (-10001) rfl ?_
    cases hf
    exact R _ _ dX12_wind_24
  · replace hf := z_iff c3 hf
    refine z_iload_n C dX12_wind_7 rfl 2 rfl ?_
    refine z_i2l C dX12_wind_8 ?_
    refine z_ldc2 C (-31) (by decide +kernel) dX12_wind_9 ?_
    refine z_ldc2 C 31 (by decide +kernel) dX12_wind_12 ?_
    obtain ⟨q4, h5, hf⟩ := z_bind hf
    refine z_callSi C (rest := []) (tX12_in (ze_l E) (ze_D E) t _ h5) gX12_wind_X12_in rfl hdX12_in ⟨(Nat.le_of_ble_eq_true rfl), (Nat.le_of_ble_eq_true rfl)⟩ ⟨Nat.zero_le _, Nat.zero_le _⟩ rfl rfl (Nat.le_of_ble_eq_true rfl) dX12_wind_15 ?_
    refine z_if_ne C 25 dX12_wind_18 (by decide) (fun c6 => ?_) (fun c6 => ?_)
    · replace hf := z_iff c6 hf
      refine z_aload_n C dX12_wind_25 rfl 0 rfl ?_
      refine mg_StillStarsModel_winds C uX12_wind_12 (by decide +kernel) dX12_wind_26 ?_
      refine z_iload_n C dX12_wind_29 rfl 1 rfl ?_
      obtain ⟨h7, hf⟩ := z_some hf
      refine z_iald C 27 mw_at_27 h7 dX12_wind_30 ?_
      refine z_istore_n C [(3, .int (gA x 27 v1.toNatClampNeg)), (0, .ref (a 0)), (1, .int v1), (2, .int v2)] dX12_wind_31 rfl (by decide) rfl ?_
      refine z_aload_n C dX12_wind_32 rfl 1 rfl ?_
      refine mg_StillStarsModel_winds C uX12_wind_12 (by decide +kernel) dX12_wind_33 ?_
      refine z_iload_n C dX12_wind_36 rfl 2 rfl ?_
      refine z_iload_n C dX12_wind_37 rfl 3 rfl ?_
      obtain ⟨h8, hf⟩ := z_some hf
      refine z_iast C 27 mw_at_27 h8 (w' := MW t a (sA x 27 v1 v2)) mw_up_27 dX12_wind_38 ?_
      refine z_iload_n C dX12_wind_39 rfl 0 rfl ?_
      cases hf
      exact R _ _ dX12_wind_40
    · replace hf := z_ift c6 hf
      refine z_sipush C dX12_wind_21 (-10001) rfl ?_
      cases hf
      exact R _ _ dX12_wind_24
theorem uX12_foretell_12 : ∀ w ∈ wsX120, w ∈ wsX12_foretell := by decide +kernel
set_option maxHeartbeats 4000000 in
set_option maxRecDepth 100000 in
theorem kX12_foretell_29 (E : zE) (t : zTy) (a : Nat → Nat) (out : Int32 × ST) (C : zC E cX12_foretell 6 RX12 wsX12_foretell (zrm 2 46) t) (R : zRi E cX12_foretell 6 out.1 (MW t a out.2)) : ∀ (n : Nat) (v1 : Int32) (v2 : Int32) (v3 : Int32) (v4 : Int32) (x : ST), fX12_foretell_29 n v1 v2 v3 v4 x = some out → zG E 6 0 0 (MW t a x) 29 [(0, .ref (a 0)), (1, .int v1), (2, .int v2), (3, .int v3), (4, .int v4)] [] := by
  intro n
  induction n with
  | zero =>
    intro v1 v2 v3 v4 x hf
    cases hf
  | succ n ih =>
    intro v1 v2 v3 v4 x hf
    rw [fX12_foretell_29] at hf
    refine z_iload C dX12_foretell_29 4 rfl ?_
    refine z_iconst C dX12_foretell_31 3 rfl ?_
    refine z_icmp_ge C 100 dX12_foretell_32 (by decide) (fun c7 => ?_) (fun c7 => ?_)
    · replace hf := z_ift c7 hf
      refine z_iload_n C dX12_foretell_100 rfl 3 rfl ?_
      cases hf
      exact R _ _ dX12_foretell_101
    · replace hf := z_iff c7 hf
      refine z_aload_n C dX12_foretell_35 rfl 0 rfl ?_
      refine mg_StillStarsModel_sets C uX12_foretell_12 (by decide +kernel) dX12_foretell_36 ?_
      refine z_bipush C dX12_foretell_39 6 rfl ?_
      obtain ⟨h8, hf⟩ := z_some hf
      refine z_iald C 4 mw_at_4 h8 dX12_foretell_41 ?_
      refine z_iload_n C dX12_foretell_42 rfl 1 rfl ?_
      refine z_imul C dX12_foretell_43 ?_
      refine z_aload_n C dX12_foretell_44 rfl 0 rfl ?_
      refine mg_StillStarsModel_winds C uX12_foretell_12 (by decide +kernel) dX12_foretell_45 ?_
      refine z_iload C dX12_foretell_48 4 rfl ?_
      obtain ⟨h9, hf⟩ := z_some hf
      refine z_iald C 27 mw_at_27 h9 dX12_foretell_50 ?_
      refine z_iload_n C dX12_foretell_51 rfl 2 rfl ?_
      refine z_imul C dX12_foretell_52 ?_
      refine z_iadd C dX12_foretell_53 ?_
      refine z_bipush C dX12_foretell_54 31 rfl ?_
      refine z_iand C dX12_foretell_56 ?_
      refine z_istore C [(5, .int ((((gA x 4 (6 : Int32).toNatClampNeg) * v1) + ((gA x 27 v4.toNatClampNeg) * v2)) &&& 31)), (0, .ref (a 0)), (1, .int v1), (2, .int v2), (3, .int v3), (4, .int v4)] dX12_foretell_57 (by decide) rfl ?_
      refine z_iload_n C dX12_foretell_59 rfl 4 rfl ?_
      refine z_aload_n C dX12_foretell_60 rfl 1 rfl ?_
      refine mg_StillStarsModel_air C uX12_foretell_12 (by decide +kernel) dX12_foretell_61 ?_
      refine z_bipush C dX12_foretell_64 32 rfl ?_
      refine z_iload C dX12_foretell_66 5 rfl ?_
      refine z_imul C dX12_foretell_68 ?_
      refine z_iload C dX12_foretell_69 0 rfl ?_
      refine z_iconst C dX12_foretell_71 1 rfl ?_
      refine z_iadd C dX12_foretell_72 ?_
      refine z_bipush C dX12_foretell_73 31 rfl ?_
      refine z_iand C dX12_foretell_75 ?_
      refine z_iadd C dX12_foretell_76 ?_
      obtain ⟨h10, hf⟩ := z_some hf
      refine z_iald C 26 mw_at_26 h10 dX12_foretell_77 ?_
      refine z_aload_n C dX12_foretell_78 rfl 1 rfl ?_
      refine mg_StillStarsModel_air C uX12_foretell_12 (by decide +kernel) dX12_foretell_79 ?_
      refine z_bipush C dX12_foretell_82 32 rfl ?_
      refine z_iload C dX12_foretell_84 5 rfl ?_
      refine z_imul C dX12_foretell_86 ?_
      refine z_iload C dX12_foretell_87 0 rfl ?_
      refine z_iadd C dX12_foretell_89 ?_
      obtain ⟨h11, hf⟩ := z_some hf
      refine z_iald C 26 mw_at_26 h11 dX12_foretell_90 ?_
      refine z_isub C dX12_foretell_91 ?_
      refine z_iadd C dX12_foretell_92 ?_
      refine z_istore_n C [(3, .int (v3 + ((gA x 26 ((32 * v4) + ((((((gA x 4 (6 : Int32).toNatClampNeg) * v1) + ((gA x 27 v4.toNatClampNeg) * v2)) &&& 31) + 1) &&& 31)).toNatClampNeg) - (gA x 26 ((32 * v4) + ((((gA x 4 (6 : Int32).toNatClampNeg) * v1) + ((gA x 27 v4.toNatClampNeg) * v2)) &&& 31)).toNatClampNeg)))), (5, .int ((((gA x 4 (6 : Int32).toNatClampNeg) * v1) + ((gA x 27 v4.toNatClampNeg) * v2)) &&& 31)), (0, .ref (a 0)), (1, .int v1), (2, .int v2), (4, .int v4)] dX12_foretell_93 rfl (by decide) rfl ?_
      refine z_iinc C (v4 + 1) [(4, .int (v4 + 1)), (3, .int (v3 + ((gA x 26 ((32 * v4) + ((((((gA x 4 (6 : Int32).toNatClampNeg) * v1) + ((gA x 27 v4.toNatClampNeg) * v2)) &&& 31) + 1) &&& 31)).toNatClampNeg) - (gA x 26 ((32 * v4) + ((((gA x 4 (6 : Int32).toNatClampNeg) * v1) + ((gA x 27 v4.toNatClampNeg) * v2)) &&& 31)).toNatClampNeg)))), (5, .int ((((gA x 4 (6 : Int32).toNatClampNeg) * v1) + ((gA x 27 v4.toNatClampNeg) * v2)) &&& 31)), (0, .ref (a 0)), (1, .int v1), (2, .int v2)] dX12_foretell_94 5 rfl rfl (by decide) rfl ?_
      refine z_goto C 29 dX12_foretell_97 (by decide) ?_
      exact z_sub [3, 4, 5, 1, 0] rfl (ih _ _ _ _ _ hf)
theorem hdX12_foretell : yX12_foretell.cls = RX12 ∧ yX12_foretell.cls ≠ "java/lang/invoke/MethodHandle" ∧ yX12_foretell.cls ≠ "java/lang/invoke/VarHandle" ∧ (parseMethodDescriptor yX12_foretell.desc).map (fun d => d.parameters.length) = some 2 := by decide +kernel
set_option maxHeartbeats 4000000 in
set_option maxRecDepth 100000 in
theorem tX12_foretell (l : Launch) (D : va_G) (t : zTy) (a : Nat → Nat) {v1 : Int32} {v2 : Int32} {x : ST} {out : Int32 × ST} (hf : fX12_foretell v1 v2 x = some out) : zMi l yX12_foretell wsX12_foretell 2 46 D t [.ref (a 0), .int v1, .int v2] (MW t a x) out.1 (MW t a out.2) := by
  refine z_entry_i (cc := cX12_foretell) (nL := 6) (by decide) rfl (Nat.le_of_ble_eq_true rfl) (fun E _ _ C R => ?_)
  refine z_sub (lv' := [(0, .ref (a 0)), (1, .int v1), (2, .int v2)]) [0, 1, 2] rfl ?_
  rw [fX12_foretell] at hf
  refine z_aload_n C dX12_foretell_0 rfl 0 rfl ?_
  refine z_iload_n C dX12_foretell_1 rfl 1 rfl ?_
  obtain ⟨q1, h2, hf⟩ := z_bind hf
  refine z_callVi C (rest := []) (tX12_isSpot (ze_l E) (ze_D E) t a h2) gX12_foretell_X12_isSpot rfl hdX12_isSpot ⟨(Nat.le_of_ble_eq_true rfl), (Nat.le_of_ble_eq_true rfl)⟩ ⟨Nat.zero_le _, Nat.zero_le _⟩ 0 mw_at_0 rfl rfl rfl (Nat.le_of_ble_eq_true rfl) dX12_foretell_2 ?_
  refine z_if_eq C 20 dX12_foretell_5 (by decide) (fun c3 => ?_) (fun c3 => ?_)
  · replace hf := z_ift c3 hf
    refine z_sipush C dX12_foretell_20 (-10001) rfl ?_
    cases hf
    exact R _ _ dX12_foretell_23
  · replace hf := z_iff c3 hf
    refine z_iload_n C dX12_foretell_8 rfl 2 rfl ?_
    refine z_i2l C dX12_foretell_9 ?_
    refine z_lconst C dX12_foretell_10 0 rfl ?_
    refine z_ldc2 C 9999 (by decide +kernel) dX12_foretell_11 ?_
    obtain ⟨q4, h5, hf⟩ := z_bind hf
    refine z_callSi C (rest := []) (tX12_in (ze_l E) (ze_D E) t _ h5) gX12_foretell_X12_in rfl hdX12_in ⟨(Nat.le_of_ble_eq_true rfl), (Nat.le_of_ble_eq_true rfl)⟩ ⟨Nat.zero_le _, Nat.zero_le _⟩ rfl rfl (Nat.le_of_ble_eq_true rfl) dX12_foretell_14 ?_
    refine z_if_ne C 24 dX12_foretell_17 (by decide) (fun c6 => ?_) (fun c6 => ?_)
    · replace hf := z_iff c6 hf
      refine z_iconst C dX12_foretell_24 0 rfl ?_
      refine z_istore_n C [(3, .int 0), (0, .ref (a 0)), (1, .int v1), (2, .int v2)] dX12_foretell_25 rfl (by decide) rfl ?_
      refine z_iconst C dX12_foretell_26 0 rfl ?_
      refine z_istore C [(4, .int 0), (3, .int 0), (0, .ref (a 0)), (1, .int v1), (2, .int v2)] dX12_foretell_27 (by decide) rfl ?_
      exact z_sub [2, 3, 4, 1, 0] rfl (kX12_foretell_29 E t a out C R 200 _ _ _ _ _ hf)
    · replace hf := z_ift c6 hf
      refine z_sipush C dX12_foretell_20 (-10001) rfl ?_
      cases hf
      exact R _ _ dX12_foretell_23
theorem uX12_guess_12 : ∀ w ∈ wsX120, w ∈ wsX12_guess := by decide +kernel
set_option maxHeartbeats 4000000 in
set_option maxRecDepth 100000 in
theorem kX12_guess_192 (E : zE) (t : zTy) (a : Nat → Nat) (out : Int32 × ST) (C : zC E cX12_guess 11 RX12 wsX12_guess (zrm 2 46) t) (R : zRi E cX12_guess 11 out.1 (MW t a out.2)) (kb102 : Int32 → Int32 → Int32 → Int64 → Int32 → ST → Option (Int32 × ST)) (Kb102 : ∀ (v1 : Int32) (v2 : Int32) (v4 : Int32) (v5 : Int64) (v7 : Int32) (x : ST), kb102 v1 v2 v4 v5 v7 x = some out → zG E 11 0 0 (MW t a x) 102 [(0, .ref (a 0)), (1, .int v1), (2, .int v2), (4, .int v4), (5, .long v5), (7, .int v7)] []) : ∀ (v1 : Int32) (v2 : Int32) (v4 : Int32) (v5 : Int64) (v7 : Int32) (x : ST), fX12_guess_192 kb102 v1 v2 v4 v5 v7 x = some out → zG E 11 0 0 (MW t a x) 192 [(0, .ref (a 0)), (1, .int v1), (2, .int v2), (4, .int v4), (5, .long v5), (7, .int v7)] [] := by
  intro v1 v2 v4 v5 v7 x hf
  rw [fX12_guess_192] at hf
  refine z_iinc C (v7 + 1) [(7, .int (v7 + 1)), (0, .ref (a 0)), (1, .int v1), (2, .int v2), (4, .int v4), (5, .long v5)] dX12_guess_192 5 rfl rfl (by decide) rfl ?_
  refine z_goto C 102 dX12_guess_195 (by decide) ?_
  exact z_sub [1, 2, 3, 4, 5, 0] rfl (Kb102 _ _ _ _ _ _ hf)
set_option maxHeartbeats 4000000 in
set_option maxRecDepth 100000 in
theorem kX12_guess_184 (E : zE) (t : zTy) (a : Nat → Nat) (out : Int32 × ST) (C : zC E cX12_guess 11 RX12 wsX12_guess (zrm 2 46) t) (R : zRi E cX12_guess 11 out.1 (MW t a out.2)) (kb102 : Int32 → Int32 → Int32 → Int64 → Int32 → ST → Option (Int32 × ST)) (Kb102 : ∀ (v1 : Int32) (v2 : Int32) (v4 : Int32) (v5 : Int64) (v7 : Int32) (x : ST), kb102 v1 v2 v4 v5 v7 x = some out → zG E 11 0 0 (MW t a x) 102 [(0, .ref (a 0)), (1, .int v1), (2, .int v2), (4, .int v4), (5, .long v5), (7, .int v7)] []) : ∀ (v1 : Int32) (v2 : Int32) (v7 : Int32) (v8 : Int64) (x : ST), fX12_guess_184 kb102 v1 v2 v7 v8 x = some out → zG E 11 0 0 (MW t a x) 184 [(0, .ref (a 0)), (1, .int v1), (2, .int v2), (7, .int v7), (8, .long v8)] [] := by
  intro v1 v2 v7 v8 x hf
  rw [fX12_guess_184] at hf
  refine z_lload C dX12_guess_184 4 rfl ?_
  refine z_lstore C [(5, .long v8), (0, .ref (a 0)), (1, .int v1), (2, .int v2), (7, .int v7), (8, .long v8)] dX12_guess_186 (by decide) rfl ?_
  refine z_iload C dX12_guess_188 4 rfl ?_
  refine z_istore C [(4, .int v7), (5, .long v8), (0, .ref (a 0)), (1, .int v1), (2, .int v2), (7, .int v7), (8, .long v8)] dX12_guess_190 (by decide) rfl ?_
  exact z_sub [2, 3, 4, 0, 1, 5] rfl (kX12_guess_192 E t a out C R (kb102) (Kb102) _ _ _ _ _ _ hf)
set_option maxHeartbeats 4000000 in
set_option maxRecDepth 100000 in
theorem kX12_guess_169 (E : zE) (t : zTy) (a : Nat → Nat) (out : Int32 × ST) (C : zC E cX12_guess 11 RX12 wsX12_guess (zrm 2 46) t) (R : zRi E cX12_guess 11 out.1 (MW t a out.2)) (kb102 : Int32 → Int32 → Int32 → Int64 → Int32 → ST → Option (Int32 × ST)) (Kb102 : ∀ (v1 : Int32) (v2 : Int32) (v4 : Int32) (v5 : Int64) (v7 : Int32) (x : ST), kb102 v1 v2 v4 v5 v7 x = some out → zG E 11 0 0 (MW t a x) 102 [(0, .ref (a 0)), (1, .int v1), (2, .int v2), (4, .int v4), (5, .long v5), (7, .int v7)] []) : ∀ (v1 : Int32) (v2 : Int32) (v4 : Int32) (v5 : Int64) (v7 : Int32) (v8 : Int64) (x : ST), fX12_guess_169 kb102 v1 v2 v4 v5 v7 v8 x = some out → zG E 11 0 0 (MW t a x) 169 [(0, .ref (a 0)), (1, .int v1), (2, .int v2), (4, .int v4), (5, .long v5), (7, .int v7), (8, .long v8)] [] := by
  intro v1 v2 v4 v5 v7 v8 x hf
  rw [fX12_guess_169] at hf
  refine z_lload C dX12_guess_169 4 rfl ?_
  refine z_lconst C dX12_guess_171 0 rfl ?_
  refine z_lcmp_lt C 184 dX12_guess_172 dX12_guess_173 (by decide) (fun c26 => ?_) (fun c26 => ?_)
  · replace hf := z_ift c26 hf
    exact z_sub [0, 1, 2, 5, 6] rfl (kX12_guess_184 E t a out C R (kb102) (Kb102) _ _ _ _ _ hf)
  · replace hf := z_iff c26 hf
    refine z_lload C dX12_guess_176 6 rfl ?_
    refine z_lload C dX12_guess_178 4 rfl ?_
    refine z_lcmp_ge C 192 dX12_guess_180 dX12_guess_181 (by decide) (fun c27 => ?_) (fun c27 => ?_)
    · replace hf := z_ift c27 hf
      exact z_sub [0, 1, 2, 3, 4, 5] rfl (kX12_guess_192 E t a out C R (kb102) (Kb102) _ _ _ _ _ _ hf)
    · replace hf := z_iff c27 hf
      exact z_sub [0, 1, 2, 5, 6] rfl (kX12_guess_184 E t a out C R (kb102) (Kb102) _ _ _ _ _ hf)
set_option maxHeartbeats 4000000 in
set_option maxRecDepth 100000 in
theorem kX12_guess_115 (E : zE) (t : zTy) (a : Nat → Nat) (out : Int32 × ST) (C : zC E cX12_guess 11 RX12 wsX12_guess (zrm 2 46) t) (R : zRi E cX12_guess 11 out.1 (MW t a out.2)) (kb102 : Int32 → Int32 → Int32 → Int64 → Int32 → ST → Option (Int32 × ST)) (Kb102 : ∀ (v1 : Int32) (v2 : Int32) (v4 : Int32) (v5 : Int64) (v7 : Int32) (x : ST), kb102 v1 v2 v4 v5 v7 x = some out → zG E 11 0 0 (MW t a x) 102 [(0, .ref (a 0)), (1, .int v1), (2, .int v2), (4, .int v4), (5, .long v5), (7, .int v7)] []) : ∀ (n : Nat) (v1 : Int32) (v2 : Int32) (v4 : Int32) (v5 : Int64) (v7 : Int32) (v8 : Int64) (v10 : Int32) (x : ST), fX12_guess_115 kb102 n v1 v2 v4 v5 v7 v8 v10 x = some out → zG E 11 0 0 (MW t a x) 115 [(0, .ref (a 0)), (1, .int v1), (2, .int v2), (4, .int v4), (5, .long v5), (7, .int v7), (8, .long v8), (10, .int v10)] [] := by
  intro n
  induction n with
  | zero =>
    intro v1 v2 v4 v5 v7 v8 v10 x hf
    cases hf
  | succ n ih =>
    intro v1 v2 v4 v5 v7 v8 v10 x hf
    rw [fX12_guess_115] at hf
    refine z_iload C dX12_guess_115 7 rfl ?_
    refine z_bipush C dX12_guess_117 32 rfl ?_
    refine z_icmp_ge C 169 dX12_guess_119 (by decide) (fun c20 => ?_) (fun c20 => ?_)
    · replace hf := z_ift c20 hf
      exact z_sub [0, 1, 2, 3, 4, 5, 6] rfl (kX12_guess_169 E t a out C R (kb102) (Kb102) _ _ _ _ _ _ _ hf)
    · replace hf := z_iff c20 hf
      refine z_lload C dX12_guess_122 6 rfl ?_
      refine z_aload_n C dX12_guess_124 rfl 0 rfl ?_
      refine mg_StillStarsModel_items C uX12_guess_12 (by decide +kernel) dX12_guess_125 ?_
      refine z_bipush C dX12_guess_128 40 rfl ?_
      refine z_iload_n C dX12_guess_130 rfl 1 rfl ?_
      refine z_imul C dX12_guess_131 ?_
      refine z_iload C dX12_guess_132 7 rfl ?_
      refine z_iadd C dX12_guess_134 ?_
      obtain ⟨h21, hf⟩ := z_some hf
      refine z_iald C 30 mw_at_30 h21 dX12_guess_135 ?_
      refine z_i2l C dX12_guess_136 ?_
      refine z_aload_n C dX12_guess_137 rfl 0 rfl ?_
      refine mg_StillStarsModel_items C uX12_guess_12 (by decide +kernel) dX12_guess_138 ?_
      refine z_bipush C dX12_guess_141 40 rfl ?_
      refine z_iload_n C dX12_guess_143 rfl 2 rfl ?_
      refine z_imul C dX12_guess_144 ?_
      refine z_iload C dX12_guess_145 7 rfl ?_
      refine z_iload C dX12_guess_147 5 rfl ?_
      refine z_iadd C dX12_guess_149 ?_
      refine z_bipush C dX12_guess_150 32 rfl ?_
      obtain ⟨h22, hf⟩ := z_div hf
      refine z_irem C h22 dX12_guess_152 ?_
      refine z_iadd C dX12_guess_153 ?_
      obtain ⟨h23, hf⟩ := z_some hf
      refine z_iald C 30 mw_at_30 h23 dX12_guess_154 ?_
      refine z_i2l C dX12_guess_155 ?_
      refine z_lsub C dX12_guess_156 ?_
      obtain ⟨q24, h25, hf⟩ := z_bind hf
      refine z_callSl C (rest := [.long v8]) (tX12_size (ze_l E) (ze_D E) t _ h25) gX12_guess_X12_size rfl hdX12_size ⟨(Nat.le_of_ble_eq_true rfl), (Nat.le_of_ble_eq_true rfl)⟩ ⟨Nat.zero_le _, Nat.zero_le _⟩ rfl rfl (Nat.le_of_ble_eq_true rfl) dX12_guess_157 ?_
      refine z_ladd C dX12_guess_160 ?_
      refine z_lstore C [(8, .long (v8 + q24)), (0, .ref (a 0)), (1, .int v1), (2, .int v2), (4, .int v4), (5, .long v5), (7, .int v7), (10, .int v10)] dX12_guess_161 (by decide) rfl ?_
      refine z_iinc C (v10 + 1) [(10, .int (v10 + 1)), (8, .long (v8 + q24)), (0, .ref (a 0)), (1, .int v1), (2, .int v2), (4, .int v4), (5, .long v5), (7, .int v7)] dX12_guess_163 7 rfl rfl (by decide) rfl ?_
      refine z_goto C 115 dX12_guess_166 (by decide) ?_
      exact z_sub [2, 3, 4, 5, 6, 7, 1, 0] rfl (ih _ _ _ _ _ _ _ _ hf)
set_option maxHeartbeats 4000000 in
set_option maxRecDepth 100000 in
theorem kX12_guess_102 (E : zE) (t : zTy) (a : Nat → Nat) (out : Int32 × ST) (C : zC E cX12_guess 11 RX12 wsX12_guess (zrm 2 46) t) (R : zRi E cX12_guess 11 out.1 (MW t a out.2)) : ∀ (n : Nat) (v1 : Int32) (v2 : Int32) (v4 : Int32) (v5 : Int64) (v7 : Int32) (x : ST), fX12_guess_102 n v1 v2 v4 v5 v7 x = some out → zG E 11 0 0 (MW t a x) 102 [(0, .ref (a 0)), (1, .int v1), (2, .int v2), (4, .int v4), (5, .long v5), (7, .int v7)] [] := by
  intro n
  induction n with
  | zero =>
    intro v1 v2 v4 v5 v7 x hf
    cases hf
  | succ n ih =>
    intro v1 v2 v4 v5 v7 x hf
    rw [fX12_guess_102] at hf
    refine z_iload C dX12_guess_102 5 rfl ?_
    refine z_bipush C dX12_guess_104 32 rfl ?_
    refine z_icmp_ge C 198 dX12_guess_106 (by decide) (fun c19 => ?_) (fun c19 => ?_)
    · replace hf := z_ift c19 hf
      refine z_iload C dX12_guess_198 3 rfl ?_
      cases hf
      exact R _ _ dX12_guess_200
    · replace hf := z_iff c19 hf
      refine z_lconst C dX12_guess_109 0 rfl ?_
      refine z_lstore C [(8, .long 0), (0, .ref (a 0)), (1, .int v1), (2, .int v2), (4, .int v4), (5, .long v5), (7, .int v7)] dX12_guess_110 (by decide) rfl ?_
      refine z_iconst C dX12_guess_112 0 rfl ?_
      refine z_istore C [(10, .int 0), (8, .long 0), (0, .ref (a 0)), (1, .int v1), (2, .int v2), (4, .int v4), (5, .long v5), (7, .int v7)] dX12_guess_113 (by decide) rfl ?_
      exact z_sub [2, 3, 4, 5, 6, 7, 1, 0] rfl (kX12_guess_115 E t a out C R (fX12_guess_102 n) (ih) 200 _ _ _ _ _ _ _ _ hf)
theorem hdX12_guess : yX12_guess.cls = RX12 ∧ yX12_guess.cls ≠ "java/lang/invoke/MethodHandle" ∧ yX12_guess.cls ≠ "java/lang/invoke/VarHandle" ∧ (parseMethodDescriptor yX12_guess.desc).map (fun d => d.parameters.length) = some 3 := by decide +kernel
set_option maxHeartbeats 4000000 in
set_option maxRecDepth 100000 in
theorem tX12_guess (l : Launch) (D : va_G) (t : zTy) (a : Nat → Nat) {v1 : Int32} {v2 : Int32} {v3 : Int32} {x : ST} {out : Int32 × ST} (hf : fX12_guess v1 v2 v3 x = some out) : zMi l yX12_guess wsX12_guess 2 46 D t [.ref (a 0), .int v1, .int v2, .int v3] (MW t a x) out.1 (MW t a out.2) := by
  refine z_entry_i (cc := cX12_guess) (nL := 11) (by decide) rfl (Nat.le_of_ble_eq_true rfl) (fun E _ _ C R => ?_)
  refine z_sub (lv' := [(0, .ref (a 0)), (1, .int v1), (2, .int v2), (3, .int v3)]) [0, 1, 2, 3] rfl ?_
  rw [fX12_guess] at hf
  refine z_iload_n C dX12_guess_0 rfl 1 rfl ?_
  refine z_iload_n C dX12_guess_1 rfl 3 rfl ?_
  obtain ⟨q1, h2, hf⟩ := z_bind hf
  refine z_callSi C (rest := []) (tX12_isSheet (ze_l E) (ze_D E) t _ h2) gX12_guess_X12_isSheet rfl hdX12_isSheet ⟨(Nat.le_of_ble_eq_true rfl), (Nat.le_of_ble_eq_true rfl)⟩ ⟨Nat.zero_le _, Nat.zero_le _⟩ rfl rfl (Nat.le_of_ble_eq_true rfl) dX12_guess_2 ?_
  refine z_if_eq C 20 dX12_guess_5 (by decide) (fun c3 => ?_) (fun c3 => ?_)
  · replace hf := z_ift c3 hf
    refine z_iconst C dX12_guess_20 (-1) rfl ?_
    cases hf
    exact R _ _ dX12_guess_21
  · replace hf := z_iff c3 hf
    refine z_iload_n C dX12_guess_8 rfl 2 rfl ?_
    refine z_i2l C dX12_guess_9 ?_
    refine z_lconst C dX12_guess_10 0 rfl ?_
    refine z_ldc2 C 3 (by decide +kernel) dX12_guess_11 ?_
    obtain ⟨q4, h5, hf⟩ := z_bind hf
    refine z_callSi C (rest := []) (tX12_in (ze_l E) (ze_D E) t _ h5) gX12_guess_X12_in rfl hdX12_in ⟨(Nat.le_of_ble_eq_true rfl), (Nat.le_of_ble_eq_true rfl)⟩ ⟨Nat.zero_le _, Nat.zero_le _⟩ rfl rfl (Nat.le_of_ble_eq_true rfl) dX12_guess_14 ?_
    refine z_if_ne C 22 dX12_guess_17 (by decide) (fun c6 => ?_) (fun c6 => ?_)
    · replace hf := z_iff c6 hf
      refine z_aload_n C dX12_guess_22 rfl 0 rfl ?_
      refine mg_StillStarsModel_lanes C uX12_guess_12 (by decide +kernel) dX12_guess_23 ?_
      refine z_iload_n C dX12_guess_26 rfl 1 rfl ?_
      obtain ⟨h7, hf⟩ := z_some hf
      refine z_iald C 28 mw_at_28 h7 dX12_guess_27 ?_
      refine z_if_lt C 40 dX12_guess_28 (by decide) (fun c8 => ?_) (fun c8 => ?_)
      · replace hf := z_ift c8 hf
        refine z_bipush C dX12_guess_40 (-11) rfl ?_
        cases hf
        exact R _ _ dX12_guess_42
      · replace hf := z_iff c8 hf
        refine z_aload_n C dX12_guess_31 rfl 0 rfl ?_
        refine mg_StillStarsModel_lanes C uX12_guess_12 (by decide +kernel) dX12_guess_32 ?_
        refine z_iload_n C dX12_guess_35 rfl 2 rfl ?_
        obtain ⟨h9, hf⟩ := z_some hf
        refine z_iald C 28 mw_at_28 h9 dX12_guess_36 ?_
        refine z_if_ge C 43 dX12_guess_37 (by decide) (fun c10 => ?_) (fun c10 => ?_)
        · replace hf := z_ift c10 hf
          refine z_aload_n C dX12_guess_43 rfl 0 rfl ?_
          refine mg_StillStarsModel_lanes C uX12_guess_12 (by decide +kernel) dX12_guess_44 ?_
          refine z_iload_n C dX12_guess_47 rfl 1 rfl ?_
          obtain ⟨h11, hf⟩ := z_some hf
          refine z_iald C 28 mw_at_28 h11 dX12_guess_48 ?_
          refine z_iload_n C dX12_guess_49 rfl 3 rfl ?_
          refine z_icmp_ne C 63 dX12_guess_50 (by decide) (fun c12 => ?_) (fun c12 => ?_)
          · replace hf := z_iff c12 hf
            refine z_bipush C dX12_guess_63 (-12) rfl ?_
            cases hf
            exact R _ _ dX12_guess_65
          · replace hf := z_ift c12 hf
            refine z_aload_n C dX12_guess_53 rfl 0 rfl ?_
            refine mg_StillStarsModel_lanes C uX12_guess_12 (by decide +kernel) dX12_guess_54 ?_
            refine z_iload_n C dX12_guess_57 rfl 2 rfl ?_
            obtain ⟨h13, hf⟩ := z_some hf
            refine z_iald C 28 mw_at_28 h13 dX12_guess_58 ?_
            refine z_iload_n C dX12_guess_59 rfl 3 rfl ?_
            refine z_icmp_eq C 66 dX12_guess_60 (by decide) (fun c14 => ?_) (fun c14 => ?_)
            · replace hf := z_ift c14 hf
              refine z_aload_n C dX12_guess_66 rfl 0 rfl ?_
              refine mg_StillStarsModel_sizes C uX12_guess_12 (by decide +kernel) dX12_guess_67 ?_
              refine z_iload_n C dX12_guess_70 rfl 1 rfl ?_
              obtain ⟨h15, hf⟩ := z_some hf
              refine z_iald C 29 mw_at_29 h15 dX12_guess_71 ?_
              refine z_bipush C dX12_guess_72 32 rfl ?_
              refine z_icmp_lt C 88 dX12_guess_74 (by decide) (fun c16 => ?_) (fun c16 => ?_)
              · replace hf := z_ift c16 hf
                refine z_bipush C dX12_guess_88 (-13) rfl ?_
                cases hf
                exact R _ _ dX12_guess_90
              · replace hf := z_iff c16 hf
                refine z_aload_n C dX12_guess_77 rfl 0 rfl ?_
                refine mg_StillStarsModel_sizes C uX12_guess_12 (by decide +kernel) dX12_guess_78 ?_
                refine z_iload_n C dX12_guess_81 rfl 2 rfl ?_
                obtain ⟨h17, hf⟩ := z_some hf
                refine z_iald C 29 mw_at_29 h17 dX12_guess_82 ?_
                refine z_bipush C dX12_guess_83 32 rfl ?_
                refine z_icmp_ge C 91 dX12_guess_85 (by decide) (fun c18 => ?_) (fun c18 => ?_)
                · replace hf := z_ift c18 hf
                  refine z_iconst C dX12_guess_91 0 rfl ?_
                  refine z_istore C [(4, .int 0), (0, .ref (a 0)), (1, .int v1), (2, .int v2), (3, .int v3)] dX12_guess_92 (by decide) rfl ?_
                  refine z_ldc2 C (-1) (by decide +kernel) dX12_guess_94 ?_
                  refine z_lstore C [(5, .long (-1)), (4, .int 0), (0, .ref (a 0)), (1, .int v1), (2, .int v2), (3, .int v3)] dX12_guess_97 (by decide) rfl ?_
                  refine z_iconst C dX12_guess_99 0 rfl ?_
                  refine z_istore C [(7, .int 0), (5, .long (-1)), (4, .int 0), (0, .ref (a 0)), (1, .int v1), (2, .int v2), (3, .int v3)] dX12_guess_100 (by decide) rfl ?_
                  exact z_sub [3, 4, 5, 2, 1, 0] rfl (kX12_guess_102 E t a out C R 200 _ _ _ _ _ _ hf)
                · replace hf := z_iff c18 hf
                  refine z_bipush C dX12_guess_88 (-13) rfl ?_
                  cases hf
                  exact R _ _ dX12_guess_90
            · replace hf := z_iff c14 hf
              refine z_bipush C dX12_guess_63 (-12) rfl ?_
              cases hf
              exact R _ _ dX12_guess_65
        · replace hf := z_iff c10 hf
          refine z_bipush C dX12_guess_40 (-11) rfl ?_
          cases hf
          exact R _ _ dX12_guess_42
    · replace hf := z_ift c6 hf
      refine z_iconst C dX12_guess_20 (-1) rfl ?_
      cases hf
      exact R _ _ dX12_guess_21
theorem uX12_sheet_12 : ∀ w ∈ wsX120, w ∈ wsX12_sheet := by decide +kernel
set_option maxHeartbeats 4000000 in
set_option maxRecDepth 100000 in
theorem kX12_sheet_40 (E : zE) (t : zTy) (a : Nat → Nat) (out : Int32 × ST) (C : zC E cX12_sheet 5 RX12 wsX12_sheet (zrm 2 46) t) (R : zRi E cX12_sheet 5 out.1 (MW t a out.2)) : ∀ (n : Nat) (v1 : Int32) (v3 : Int32) (v4 : Int32) (x : ST), fX12_sheet_40 n v1 v3 v4 x = some out → zG E 5 0 0 (MW t a x) 40 [(0, .ref (a 0)), (1, .int v1), (3, .int v3), (4, .int v4)] [] := by
  intro n
  induction n with
  | zero =>
    intro v1 v3 v4 x hf
    cases hf
  | succ n ih =>
    intro v1 v3 v4 x hf
    rw [fX12_sheet_40] at hf
    refine z_iload C dX12_sheet_40 3 rfl ?_
    refine z_bipush C dX12_sheet_42 40 rfl ?_
    refine z_icmp_ge C 66 dX12_sheet_44 (by decide) (fun c8 => ?_) (fun c8 => ?_)
    · replace hf := z_ift c8 hf
      refine z_iload_n C dX12_sheet_66 rfl 2 rfl ?_
      cases hf
      exact R _ _ dX12_sheet_67
    · replace hf := z_iff c8 hf
      refine z_aload_n C dX12_sheet_47 rfl 0 rfl ?_
      refine mg_StillStarsModel_items C uX12_sheet_12 (by decide +kernel) dX12_sheet_48 ?_
      refine z_bipush C dX12_sheet_51 40 rfl ?_
      refine z_iload_n C dX12_sheet_53 rfl 1 rfl ?_
      refine z_imul C dX12_sheet_54 ?_
      refine z_iload C dX12_sheet_55 3 rfl ?_
      refine z_iadd C dX12_sheet_57 ?_
      refine z_iconst C dX12_sheet_58 0 rfl ?_
      obtain ⟨h9, hf⟩ := z_some hf
      refine z_iast C 30 mw_at_30 h9 (w' := MW t a (sA x 30 ((40 * v1) + v4) 0)) mw_up_30 dX12_sheet_59 ?_
      refine z_iinc C (v4 + 1) [(4, .int (v4 + 1)), (0, .ref (a 0)), (1, .int v1), (3, .int v3)] dX12_sheet_60 3 rfl rfl (by decide) rfl ?_
      refine z_goto C 40 dX12_sheet_63 (by decide) ?_
      exact z_sub [1, 2, 3, 0] rfl (ih _ _ _ _ hf)
theorem hdX12_sheet : yX12_sheet.cls = RX12 ∧ yX12_sheet.cls ≠ "java/lang/invoke/MethodHandle" ∧ yX12_sheet.cls ≠ "java/lang/invoke/VarHandle" ∧ (parseMethodDescriptor yX12_sheet.desc).map (fun d => d.parameters.length) = some 3 := by decide +kernel
set_option maxHeartbeats 4000000 in
set_option maxRecDepth 100000 in
theorem tX12_sheet (l : Launch) (D : va_G) (t : zTy) (a : Nat → Nat) {v1 : Int32} {v2 : Int32} {v3 : Int32} {x : ST} {out : Int32 × ST} (hf : fX12_sheet v1 v2 v3 x = some out) : zMi l yX12_sheet wsX12_sheet 2 46 D t [.ref (a 0), .int v1, .int v2, .int v3] (MW t a x) out.1 (MW t a out.2) := by
  refine z_entry_i (cc := cX12_sheet) (nL := 5) (by decide) rfl (Nat.le_of_ble_eq_true rfl) (fun E _ _ C R => ?_)
  refine z_sub (lv' := [(0, .ref (a 0)), (1, .int v1), (2, .int v2), (3, .int v3)]) [0, 1, 2, 3] rfl ?_
  rw [fX12_sheet] at hf
  refine z_iload_n C dX12_sheet_0 rfl 1 rfl ?_
  refine z_iload_n C dX12_sheet_1 rfl 2 rfl ?_
  obtain ⟨q1, h2, hf⟩ := z_bind hf
  refine z_callSi C (rest := []) (tX12_isSheet (ze_l E) (ze_D E) t _ h2) gX12_sheet_X12_isSheet rfl hdX12_isSheet ⟨(Nat.le_of_ble_eq_true rfl), (Nat.le_of_ble_eq_true rfl)⟩ ⟨Nat.zero_le _, Nat.zero_le _⟩ rfl rfl (Nat.le_of_ble_eq_true rfl) dX12_sheet_2 ?_
  refine z_if_eq C 14 dX12_sheet_5 (by decide) (fun c3 => ?_) (fun c3 => ?_)
  · replace hf := z_ift c3 hf
    refine z_iconst C dX12_sheet_14 (-1) rfl ?_
    cases hf
    exact R _ _ dX12_sheet_15
  · replace hf := z_iff c3 hf
    refine z_iload_n C dX12_sheet_8 rfl 3 rfl ?_
    refine z_bipush C dX12_sheet_9 40 rfl ?_
    refine z_icmp_le C 16 dX12_sheet_11 (by decide) (fun c4 => ?_) (fun c4 => ?_)
    · replace hf := z_ift c4 hf
      refine z_iload_n C dX12_sheet_16 rfl 3 rfl ?_
      refine z_if_ge C 23 dX12_sheet_17 (by decide) (fun c5 => ?_) (fun c5 => ?_)
      · replace hf := z_ift c5 hf
        refine z_aload_n C dX12_sheet_23 rfl 0 rfl ?_
        refine mg_StillStarsModel_lanes C uX12_sheet_12 (by decide +kernel) dX12_sheet_24 ?_
        refine z_iload_n C dX12_sheet_27 rfl 1 rfl ?_
        refine z_iload_n C dX12_sheet_28 rfl 2 rfl ?_
        obtain ⟨h6, hf⟩ := z_some hf
        refine z_iast C 28 mw_at_28 h6 (w' := MW t a (sA x 28 v1 v2)) mw_up_28 dX12_sheet_29 ?_
        refine z_aload_n C dX12_sheet_30 rfl 0 rfl ?_
        refine mg_StillStarsModel_sizes C uX12_sheet_12 (by decide +kernel) dX12_sheet_31 ?_
        refine z_iload_n C dX12_sheet_34 rfl 1 rfl ?_
        refine z_iload_n C dX12_sheet_35 rfl 3 rfl ?_
        obtain ⟨h7, hf⟩ := z_some hf
        refine z_iast C 29 mw_at_29 h7 (w' := MW t a (sA (sA x 28 v1 v2) 29 v1 v3)) mw_up_29 dX12_sheet_36 ?_
        refine z_iconst C dX12_sheet_37 0 rfl ?_
        refine z_istore C [(4, .int 0), (0, .ref (a 0)), (1, .int v1), (2, .int v2), (3, .int v3)] dX12_sheet_38 (by decide) rfl ?_
        exact z_sub [1, 2, 4, 0] rfl (kX12_sheet_40 E t a out C R 200 _ _ _ _ hf)
      · replace hf := z_iff c5 hf
        refine z_bipush C dX12_sheet_20 (-14) rfl ?_
        cases hf
        exact R _ _ dX12_sheet_22
    · replace hf := z_iff c4 hf
      refine z_iconst C dX12_sheet_14 (-1) rfl ?_
      cases hf
      exact R _ _ dX12_sheet_15
theorem uX12_drop_12 : ∀ w ∈ wsX120, w ∈ wsX12_drop := by decide +kernel
theorem hdX12_drop : yX12_drop.cls = RX12 ∧ yX12_drop.cls ≠ "java/lang/invoke/MethodHandle" ∧ yX12_drop.cls ≠ "java/lang/invoke/VarHandle" ∧ (parseMethodDescriptor yX12_drop.desc).map (fun d => d.parameters.length) = some 1 := by decide +kernel
set_option maxHeartbeats 4000000 in
set_option maxRecDepth 100000 in
theorem tX12_drop (l : Launch) (D : va_G) (t : zTy) (a : Nat → Nat) {v1 : Int32} {x : ST} {out : Int32 × ST} (hf : fX12_drop v1 x = some out) : zMi l yX12_drop wsX12_drop 1 25 D t [.ref (a 0), .int v1] (MW t a x) out.1 (MW t a out.2) := by
  refine z_entry_i (cc := cX12_drop) (nL := 2) (by decide) rfl (Nat.le_of_ble_eq_true rfl) (fun E _ _ C R => ?_)
  refine z_sub (lv' := [(0, .ref (a 0)), (1, .int v1)]) [0, 1] rfl ?_
  rw [fX12_drop] at hf
  refine z_iload_n C dX12_drop_0 rfl 1 rfl ?_
  refine z_i2l C dX12_drop_1 ?_
  refine z_lconst C dX12_drop_2 0 rfl ?_
  refine z_ldc2 C 3 (by decide +kernel) dX12_drop_3 ?_
  obtain ⟨q1, h2, hf⟩ := z_bind hf
  refine z_callSi C (rest := []) (tX12_in (ze_l E) (ze_D E) t _ h2) gX12_drop_X12_in rfl hdX12_in ⟨(Nat.le_of_ble_eq_true rfl), (Nat.le_of_ble_eq_true rfl)⟩ ⟨Nat.zero_le _, Nat.zero_le _⟩ rfl rfl (Nat.le_of_ble_eq_true rfl) dX12_drop_6 ?_
  refine z_if_ne C 14 dX12_drop_9 (by decide) (fun c3 => ?_) (fun c3 => ?_)
  · replace hf := z_iff c3 hf
    refine z_aload_n C dX12_drop_14 rfl 0 rfl ?_
    refine mg_StillStarsModel_lanes C uX12_drop_12 (by decide +kernel) dX12_drop_15 ?_
    refine z_iload_n C dX12_drop_18 rfl 1 rfl ?_
    obtain ⟨h4, hf⟩ := z_some hf
    refine z_iald C 28 mw_at_28 h4 dX12_drop_19 ?_
    refine z_if_ge C 26 dX12_drop_20 (by decide) (fun c5 => ?_) (fun c5 => ?_)
    · replace hf := z_ift c5 hf
      refine z_aload_n C dX12_drop_26 rfl 0 rfl ?_
      refine mg_StillStarsModel_lanes C uX12_drop_12 (by decide +kernel) dX12_drop_27 ?_
      refine z_iload_n C dX12_drop_30 rfl 1 rfl ?_
      refine z_iconst C dX12_drop_31 (-1) rfl ?_
      obtain ⟨h6, hf⟩ := z_some hf
      refine z_iast C 28 mw_at_28 h6 (w' := MW t a (sA x 28 v1 (-1))) mw_up_28 dX12_drop_32 ?_
      refine z_aload_n C dX12_drop_33 rfl 0 rfl ?_
      refine mg_StillStarsModel_sizes C uX12_drop_12 (by decide +kernel) dX12_drop_34 ?_
      refine z_iload_n C dX12_drop_37 rfl 1 rfl ?_
      obtain ⟨h7, hf⟩ := z_some hf
      refine z_iald C 29 mw_at_29 h7 dX12_drop_38 ?_
      cases hf
      exact R _ _ dX12_drop_39
    · replace hf := z_iff c5 hf
      refine z_bipush C dX12_drop_23 (-11) rfl ?_
      cases hf
      exact R _ _ dX12_drop_25
  · replace hf := z_ift c3 hf
    refine z_iconst C dX12_drop_12 (-1) rfl ?_
    cases hf
    exact R _ _ dX12_drop_13
theorem uX12_item_12 : ∀ w ∈ wsX120, w ∈ wsX12_item := by decide +kernel
set_option maxHeartbeats 4000000 in
set_option maxRecDepth 100000 in
theorem kX12_item_71 (E : zE) (t : zTy) (a : Nat → Nat) (out : Int32 × ST) (C : zC E cX12_item 6 RX12 wsX12_item (zrm 2 49) t) (R : zRi E cX12_item 6 out.1 (MW t a out.2)) : ∀ (s0 : Int32) (s1 : Int32) (x : ST), fX12_item_71 s0 s1 x = some out → zG E 6 0 0 (MW t a x) 71 [] [.int s0, .int s1, .ref (a 30)] := by
  intro s0 s1 x hf
  rw [fX12_item_71] at hf
  obtain ⟨h9, hf⟩ := z_some hf
  refine z_iast C 30 mw_at_30 h9 (w' := MW t a (sA x 30 s1 s0)) mw_up_30 dX12_item_71 ?_
  refine z_iconst C dX12_item_72 1 rfl ?_
  cases hf
  exact R _ _ dX12_item_73
theorem hdX12_item : yX12_item.cls = RX12 ∧ yX12_item.cls ≠ "java/lang/invoke/MethodHandle" ∧ yX12_item.cls ≠ "java/lang/invoke/VarHandle" ∧ (parseMethodDescriptor yX12_item.desc).map (fun d => d.parameters.length) = some 4 := by decide +kernel
set_option maxHeartbeats 4000000 in
set_option maxRecDepth 100000 in
theorem tX12_item (l : Launch) (D : va_G) (t : zTy) (a : Nat → Nat) {v1 : Int32} {v2 : Int32} {v3 : Int32} {v4 : Int32} {x : ST} {out : Int32 × ST} (hf : fX12_item v1 v2 v3 v4 x = some out) : zMi l yX12_item wsX12_item 2 49 D t [.ref (a 0), .int v1, .int v2, .int v3, .int v4] (MW t a x) out.1 (MW t a out.2) := by
  refine z_entry_i (cc := cX12_item) (nL := 6) (by decide) rfl (Nat.le_of_ble_eq_true rfl) (fun E _ _ C R => ?_)
  refine z_sub (lv' := [(0, .ref (a 0)), (1, .int v1), (2, .int v2), (3, .int v3), (4, .int v4)]) [0, 1, 2, 3, 4] rfl ?_
  rw [fX12_item] at hf
  refine z_iload_n C dX12_item_0 rfl 1 rfl ?_
  refine z_iload_n C dX12_item_1 rfl 2 rfl ?_
  obtain ⟨q1, h2, hf⟩ := z_bind hf
  refine z_callSi C (rest := []) (tX12_isSheet (ze_l E) (ze_D E) t _ h2) gX12_item_X12_isSheet rfl hdX12_isSheet ⟨(Nat.le_of_ble_eq_true rfl), (Nat.le_of_ble_eq_true rfl)⟩ ⟨Nat.zero_le _, Nat.zero_le _⟩ rfl rfl (Nat.le_of_ble_eq_true rfl) dX12_item_2 ?_
  refine z_if_ne C 10 dX12_item_5 (by decide) (fun c3 => ?_) (fun c3 => ?_)
  · replace hf := z_iff c3 hf
    refine z_aload_n C dX12_item_10 rfl 0 rfl ?_
    refine z_iload_n C dX12_item_11 rfl 1 rfl ?_
    refine z_iload_n C dX12_item_12 rfl 2 rfl ?_
    refine z_iload_n C dX12_item_13 rfl 3 rfl ?_
    refine z_iconst C dX12_item_14 1 rfl ?_
    obtain ⟨q4, h5, hf⟩ := z_bind hf
    refine z_callVi C (rest := []) (tX12_against (ze_l E) (ze_D E) t a h5) gX12_item_X12_against rfl hdX12_against ⟨(Nat.le_of_ble_eq_true rfl), (Nat.le_of_ble_eq_true rfl)⟩ ⟨Nat.zero_le _, Nat.zero_le _⟩ 0 mw_at_0 rfl rfl rfl (Nat.le_of_ble_eq_true rfl) dX12_item_15 ?_
    refine z_istore C [(5, .int q4.1), (0, .ref (a 0)), (1, .int v1), (2, .int v2), (3, .int v3), (4, .int v4)] dX12_item_18 (by decide) rfl ?_
    refine z_iload C dX12_item_20 0 rfl ?_
    refine z_if_ge C 28 dX12_item_22 (by decide) (fun c6 => ?_) (fun c6 => ?_)
    · replace hf := z_ift c6 hf
      refine z_aload_n C dX12_item_28 rfl 1 rfl ?_
      refine mg_StillStarsModel_items C uX12_item_12 (by decide +kernel) dX12_item_29 ?_
      refine z_bipush C dX12_item_32 40 rfl ?_
      refine z_iload_n C dX12_item_34 rfl 2 rfl ?_
      refine z_imul C dX12_item_35 ?_
      refine z_iload_n C dX12_item_36 rfl 4 rfl ?_
      refine z_iadd C dX12_item_37 ?_
      refine z_iload_n C dX12_item_38 rfl 3 rfl ?_
      refine z_if_ne C 53 dX12_item_39 (by decide) (fun c7 => ?_) (fun c7 => ?_)
      · replace hf := z_iff c7 hf
        refine z_iload_n C dX12_item_53 rfl 3 rfl ?_
        refine z_iconst C dX12_item_54 1 rfl ?_
        refine z_icmp_ne C 69 dX12_item_55 (by decide) (fun c8 => ?_) (fun c8 => ?_)
        · replace hf := z_iff c8 hf
          refine z_iload C dX12_item_69 5 rfl ?_
          exact z_sub [] rfl (kX12_item_71 E t a out C R _ _ _ hf)
        · replace hf := z_ift c8 hf
          refine z_iload C dX12_item_58 5 rfl ?_
          refine z_bipush C dX12_item_60 16 rfl ?_
          refine z_ishl C dX12_item_62 ?_
          refine z_bipush C dX12_item_63 16 rfl ?_
          refine z_ishr C dX12_item_65 ?_
          refine z_goto C 71 dX12_item_66 (by decide) ?_
          exact z_sub [] rfl (kX12_item_71 E t a out C R _ _ _ hf)
      · replace hf := z_ift c7 hf
        refine z_iload C dX12_item_42 5 rfl ?_
        refine z_bipush C dX12_item_44 24 rfl ?_
        refine z_ishl C dX12_item_46 ?_
        refine z_bipush C dX12_item_47 24 rfl ?_
        refine z_ishr C dX12_item_49 ?_
        refine z_goto C 71 dX12_item_50 (by decide) ?_
        exact z_sub [] rfl (kX12_item_71 E t a out C R _ _ _ hf)
    · replace hf := z_iff c6 hf
      refine z_iload C dX12_item_25 0 rfl ?_
      cases hf
      exact R _ _ dX12_item_27
  · replace hf := z_ift c3 hf
    refine z_iconst C dX12_item_8 (-1) rfl ?_
    cases hf
    exact R _ _ dX12_item_9
theorem uX12_board_12 : ∀ w ∈ wsX120, w ∈ wsX12_board := by decide +kernel
set_option maxHeartbeats 4000000 in
set_option maxRecDepth 100000 in
theorem kX12_board_85 (E : zE) (t : zTy) (a : Nat → Nat) (out : Int32 × ST) (C : zC E cX12_board 8 RX12 wsX12_board (zrm 2 49) t) (R : zRi E cX12_board 8 out.1 (MW t a out.2)) (kb50 : Int32 → Int32 → Int32 → Int32 → ST → Option (Int32 × ST)) (Kb50 : ∀ (v1 : Int32) (v3 : Int32) (v6 : Int32) (v7 : Int32) (x : ST), kb50 v1 v3 v6 v7 x = some out → zG E 8 0 0 (MW t a x) 50 [(0, .ref (a 0)), (1, .int v1), (3, .int v3), (6, .int v6), (7, .int v7)] []) : ∀ (v1 : Int32) (v3 : Int32) (v6 : Int32) (v7 : Int32) (x : ST), fX12_board_85 kb50 v1 v3 v6 v7 x = some out → zG E 8 0 0 (MW t a x) 85 [(0, .ref (a 0)), (1, .int v1), (3, .int v3), (6, .int v6), (7, .int v7)] [] := by
  intro v1 v3 v6 v7 x hf
  rw [fX12_board_85] at hf
  refine z_iinc C (v7 + 1) [(7, .int (v7 + 1)), (0, .ref (a 0)), (1, .int v1), (3, .int v3), (6, .int v6)] dX12_board_85 4 rfl rfl (by decide) rfl ?_
  refine z_goto C 50 dX12_board_88 (by decide) ?_
  exact z_sub [1, 2, 3, 4, 0] rfl (Kb50 _ _ _ _ _ hf)
set_option maxHeartbeats 4000000 in
set_option maxRecDepth 100000 in
theorem kX12_board_94 (E : zE) (t : zTy) (a : Nat → Nat) (out : Int32 × ST) (C : zC E cX12_board 8 RX12 wsX12_board (zrm 2 49) t) (R : zRi E cX12_board 8 out.1 (MW t a out.2)) : ∀ (n : Nat) (v1 : Int32) (v6 : Int32) (v7 : Int32) (x : ST), fX12_board_94 n v1 v6 v7 x = some out → zG E 8 0 0 (MW t a x) 94 [(0, .ref (a 0)), (1, .int v1), (6, .int v6), (7, .int v7)] [] := by
  intro n
  induction n with
  | zero =>
    intro v1 v6 v7 x hf
    cases hf
  | succ n ih =>
    intro v1 v6 v7 x hf
    rw [fX12_board_94] at hf
    refine z_iload C dX12_board_94 3 rfl ?_
    refine z_bipush C dX12_board_96 16 rfl ?_
    refine z_icmp_ge C 133 dX12_board_98 (by decide) (fun c16 => ?_) (fun c16 => ?_)
    · replace hf := z_ift c16 hf
      refine z_iconst C dX12_board_133 1 rfl ?_
      cases hf
      exact R _ _ dX12_board_134
    · replace hf := z_iff c16 hf
      refine z_aload_n C dX12_board_101 rfl 0 rfl ?_
      refine mg_StillStarsModel_lights C uX12_board_12 (by decide +kernel) dX12_board_102 ?_
      refine z_bipush C dX12_board_105 16 rfl ?_
      refine z_iload_n C dX12_board_107 rfl 1 rfl ?_
      refine z_imul C dX12_board_108 ?_
      refine z_iload C dX12_board_109 3 rfl ?_
      refine z_iadd C dX12_board_111 ?_
      refine z_aload_n C dX12_board_112 rfl 0 rfl ?_
      refine mg_StillStarsModel_items C uX12_board_12 (by decide +kernel) dX12_board_113 ?_
      refine z_iload C dX12_board_116 2 rfl ?_
      refine z_iload C dX12_board_118 3 rfl ?_
      refine z_iadd C dX12_board_120 ?_
      obtain ⟨h17, hf⟩ := z_some hf
      refine z_iald C 30 mw_at_30 h17 dX12_board_121 ?_
      refine z_sipush C dX12_board_122 255 rfl ?_
      refine z_iand C dX12_board_125 ?_
      obtain ⟨h18, hf⟩ := z_some hf
      refine z_iast C 1 mw_at_1 h18 (w' := MW t a (sA x 1 ((16 * v1) + v7) ((gA x 30 (v6 + v7).toNatClampNeg) &&& 255))) mw_up_1 dX12_board_126 ?_
      refine z_iinc C (v7 + 1) [(7, .int (v7 + 1)), (0, .ref (a 0)), (1, .int v1), (6, .int v6)] dX12_board_127 3 rfl rfl (by decide) rfl ?_
      refine z_goto C 94 dX12_board_130 (by decide) ?_
      exact z_sub [1, 2, 3, 0] rfl (ih _ _ _ _ hf)
set_option maxHeartbeats 4000000 in
set_option maxRecDepth 100000 in
theorem kX12_board_91 (E : zE) (t : zTy) (a : Nat → Nat) (out : Int32 × ST) (C : zC E cX12_board 8 RX12 wsX12_board (zrm 2 49) t) (R : zRi E cX12_board 8 out.1 (MW t a out.2)) : ∀ (v1 : Int32) (v6 : Int32) (x : ST), fX12_board_91 v1 v6 x = some out → zG E 8 0 0 (MW t a x) 91 [(0, .ref (a 0)), (1, .int v1), (6, .int v6)] [] := by
  intro v1 v6 x hf
  rw [fX12_board_91] at hf
  refine z_iconst C dX12_board_91 0 rfl ?_
  refine z_istore C [(7, .int 0), (0, .ref (a 0)), (1, .int v1), (6, .int v6)] dX12_board_92 (by decide) rfl ?_
  exact z_sub [1, 2, 3, 0] rfl (kX12_board_94 E t a out C R 200 _ _ _ _ hf)
set_option maxHeartbeats 4000000 in
set_option maxRecDepth 100000 in
theorem kX12_board_50 (E : zE) (t : zTy) (a : Nat → Nat) (out : Int32 × ST) (C : zC E cX12_board 8 RX12 wsX12_board (zrm 2 49) t) (R : zRi E cX12_board 8 out.1 (MW t a out.2)) : ∀ (n : Nat) (v1 : Int32) (v3 : Int32) (v6 : Int32) (v7 : Int32) (x : ST), fX12_board_50 n v1 v3 v6 v7 x = some out → zG E 8 0 0 (MW t a x) 50 [(0, .ref (a 0)), (1, .int v1), (3, .int v3), (6, .int v6), (7, .int v7)] [] := by
  intro n
  induction n with
  | zero =>
    intro v1 v3 v6 v7 x hf
    cases hf
  | succ n ih =>
    intro v1 v3 v6 v7 x hf
    rw [fX12_board_50] at hf
    refine z_iload C dX12_board_50 4 rfl ?_
    refine z_bipush C dX12_board_52 16 rfl ?_
    refine z_icmp_ge C 91 dX12_board_54 (by decide) (fun c10 => ?_) (fun c10 => ?_)
    · replace hf := z_ift c10 hf
      exact z_sub [0, 1, 3] rfl (kX12_board_91 E t a out C R _ _ _ hf)
    · replace hf := z_iff c10 hf
      refine z_iload_n C dX12_board_57 rfl 2 rfl ?_
      refine z_if_le C 85 dX12_board_58 (by decide) (fun c11 => ?_) (fun c11 => ?_)
      · replace hf := z_ift c11 hf
        exact z_sub [0, 1, 2, 3, 4] rfl (kX12_board_85 E t a out C R (fX12_board_50 n) (ih) _ _ _ _ _ hf)
      · replace hf := z_iff c11 hf
        refine z_aload_n C dX12_board_61 rfl 0 rfl ?_
        refine mg_StillStarsModel_items C uX12_board_12 (by decide +kernel) dX12_board_62 ?_
        refine z_iload C dX12_board_65 3 rfl ?_
        refine z_iload C dX12_board_67 4 rfl ?_
        refine z_iadd C dX12_board_69 ?_
        obtain ⟨h12, hf⟩ := z_some hf
        refine z_iald C 30 mw_at_30 h12 dX12_board_70 ?_
        refine z_i2l C dX12_board_71 ?_
        refine z_lconst C dX12_board_72 0 rfl ?_
        refine z_ldc2 C 255 (by decide +kernel) dX12_board_73 ?_
        obtain ⟨q13, h14, hf⟩ := z_bind hf
        refine z_callSi C (rest := []) (tX12_in (ze_l E) (ze_D E) t _ h14) gX12_board_X12_in rfl hdX12_in ⟨(Nat.le_of_ble_eq_true rfl), (Nat.le_of_ble_eq_true rfl)⟩ ⟨Nat.zero_le _, Nat.zero_le _⟩ rfl rfl (Nat.le_of_ble_eq_true rfl) dX12_board_76 ?_
        refine z_if_ne C 85 dX12_board_79 (by decide) (fun c15 => ?_) (fun c15 => ?_)
        · replace hf := z_iff c15 hf
          exact z_sub [0, 1, 2, 3, 4] rfl (kX12_board_85 E t a out C R (fX12_board_50 n) (ih) _ _ _ _ _ hf)
        · replace hf := z_ift c15 hf
          refine z_bipush C dX12_board_82 (-2) rfl ?_
          cases hf
          exact R _ _ dX12_board_84
theorem hdX12_board : yX12_board.cls = RX12 ∧ yX12_board.cls ≠ "java/lang/invoke/MethodHandle" ∧ yX12_board.cls ≠ "java/lang/invoke/VarHandle" ∧ (parseMethodDescriptor yX12_board.desc).map (fun d => d.parameters.length) = some 4 := by decide +kernel
set_option maxHeartbeats 4000000 in
set_option maxRecDepth 100000 in
theorem tX12_board (l : Launch) (D : va_G) (t : zTy) (a : Nat → Nat) {v1 : Int32} {v2 : Int32} {v3 : Int32} {v4 : Int32} {x : ST} {out : Int32 × ST} (hf : fX12_board v1 v2 v3 v4 x = some out) : zMi l yX12_board wsX12_board 2 49 D t [.ref (a 0), .int v1, .int v2, .int v3, .int v4] (MW t a x) out.1 (MW t a out.2) := by
  refine z_entry_i (cc := cX12_board) (nL := 8) (by decide) rfl (Nat.le_of_ble_eq_true rfl) (fun E _ _ C R => ?_)
  refine z_sub (lv' := [(0, .ref (a 0)), (1, .int v1), (2, .int v2), (3, .int v3), (4, .int v4)]) [0, 1, 2, 3, 4] rfl ?_
  rw [fX12_board] at hf
  refine z_aload_n C dX12_board_0 rfl 0 rfl ?_
  refine z_iload_n C dX12_board_1 rfl 1 rfl ?_
  obtain ⟨q1, h2, hf⟩ := z_bind hf
  refine z_callVi C (rest := []) (tX12_isSpot (ze_l E) (ze_D E) t a h2) gX12_board_X12_isSpot rfl hdX12_isSpot ⟨(Nat.le_of_ble_eq_true rfl), (Nat.le_of_ble_eq_true rfl)⟩ ⟨Nat.zero_le _, Nat.zero_le _⟩ 0 mw_at_0 rfl rfl rfl (Nat.le_of_ble_eq_true rfl) dX12_board_2 ?_
  refine z_if_eq C 16 dX12_board_5 (by decide) (fun c3 => ?_) (fun c3 => ?_)
  · replace hf := z_ift c3 hf
    refine z_iconst C dX12_board_16 (-1) rfl ?_
    cases hf
    exact R _ _ dX12_board_17
  · replace hf := z_iff c3 hf
    refine z_iload_n C dX12_board_8 rfl 2 rfl ?_
    refine z_iload_n C dX12_board_9 rfl 3 rfl ?_
    obtain ⟨q4, h5, hf⟩ := z_bind hf
    refine z_callSi C (rest := []) (tX12_isSheet (ze_l E) (ze_D E) t _ h5) gX12_board_X12_isSheet rfl hdX12_isSheet ⟨(Nat.le_of_ble_eq_true rfl), (Nat.le_of_ble_eq_true rfl)⟩ ⟨Nat.zero_le _, Nat.zero_le _⟩ rfl rfl (Nat.le_of_ble_eq_true rfl) dX12_board_10 ?_
    refine z_if_ne C 18 dX12_board_13 (by decide) (fun c6 => ?_) (fun c6 => ?_)
    · replace hf := z_iff c6 hf
      refine z_aload_n C dX12_board_18 rfl 0 rfl ?_
      refine z_iload_n C dX12_board_19 rfl 2 rfl ?_
      refine z_iload_n C dX12_board_20 rfl 3 rfl ?_
      refine z_iload C dX12_board_21 4 rfl ?_
      refine z_bipush C dX12_board_23 16 rfl ?_
      obtain ⟨q7, h8, hf⟩ := z_bind hf
      refine z_callVi C (rest := []) (tX12_against (ze_l E) (ze_D E) t a h8) gX12_board_X12_against rfl hdX12_against ⟨(Nat.le_of_ble_eq_true rfl), (Nat.le_of_ble_eq_true rfl)⟩ ⟨Nat.zero_le _, Nat.zero_le _⟩ 0 mw_at_0 rfl rfl rfl (Nat.le_of_ble_eq_true rfl) dX12_board_25 ?_
      refine z_istore C [(5, .int q7.1), (0, .ref (a 0)), (1, .int v1), (2, .int v2), (3, .int v3), (4, .int v4)] dX12_board_28 (by decide) rfl ?_
      refine z_iload C dX12_board_30 0 rfl ?_
      refine z_if_ge C 38 dX12_board_32 (by decide) (fun c9 => ?_) (fun c9 => ?_)
      · replace hf := z_ift c9 hf
        refine z_bipush C dX12_board_38 40 rfl ?_
        refine z_iload_n C dX12_board_40 rfl 3 rfl ?_
        refine z_imul C dX12_board_41 ?_
        refine z_iload C dX12_board_42 5 rfl ?_
        refine z_iadd C dX12_board_44 ?_
        refine z_istore C [(6, .int ((40 * v2) + v4)), (5, .int q7.1), (0, .ref (a 0)), (1, .int v1), (2, .int v2), (3, .int v3), (4, .int v4)] dX12_board_45 (by decide) rfl ?_
        refine z_iconst C dX12_board_47 0 rfl ?_
        refine z_istore C [(7, .int 0), (6, .int ((40 * v2) + v4)), (5, .int q7.1), (0, .ref (a 0)), (1, .int v1), (2, .int v2), (3, .int v3), (4, .int v4)] dX12_board_48 (by decide) rfl ?_
        exact z_sub [3, 4, 6, 1, 0] rfl (kX12_board_50 E t a out C R 200 _ _ _ _ _ hf)
      · replace hf := z_iff c9 hf
        refine z_iload C dX12_board_35 0 rfl ?_
        cases hf
        exact R _ _ dX12_board_37
    · replace hf := z_ift c6 hf
      refine z_iconst C dX12_board_16 (-1) rfl ?_
      cases hf
      exact R _ _ dX12_board_17

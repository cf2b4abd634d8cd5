theorem uX12_findNearest_12 : ∀ w ∈ wsX120, w ∈ wsX12_findNearest := by decide +kernel
set_option maxHeartbeats 4000000 in
set_option maxRecDepth 100000 in
theorem kX12_findNearest_119 (E : zE) (t : zTy) (a : Nat → Nat) (out : Int64 × ST) (C : zC E cX12_findNearest 9 RX12 wsX12_findNearest (zrm 2 48) t) (R : zRl E cX12_findNearest 9 out.1 (MW t a out.2)) (kb14 : Int32 → Int32 → ST → Option (Int64 × ST)) (Kb14 : ∀ (v1 : Int32) (v2 : Int32) (x : ST), kb14 v1 v2 x = some out → zG E 9 0 0 (MW t a x) 14 [(0, .ref (a 0)), (1, .int v1), (2, .int v2)] []) (kb21 : Int32 → Int32 → Int32 → ST → Option (Int64 × ST)) (Kb21 : ∀ (v1 : Int32) (v2 : Int32) (v3 : Int32) (x : ST), kb21 v1 v2 v3 x = some out → zG E 9 0 0 (MW t a x) 21 [(0, .ref (a 0)), (1, .int v1), (2, .int v2), (3, .int v3)] []) (kb49 : Int32 → Int32 → Int32 → Int64 → Int32 → ST → Option (Int64 × ST)) (Kb49 : ∀ (v1 : Int32) (v2 : Int32) (v3 : Int32) (v4 : Int64) (v6 : Int32) (x : ST), kb49 v1 v2 v3 v4 v6 x = some out → zG E 9 0 0 (MW t a x) 49 [(0, .ref (a 0)), (1, .int v1), (2, .int v2), (3, .int v3), (4, .long v4), (6, .int v6)] []) : ∀ (v1 : Int32) (v2 : Int32) (v3 : Int32) (v6 : Int32) (s0 : Int64) (x : ST), fX12_findNearest_119 kb14 kb21 kb49 v1 v2 v3 v6 s0 x = some out → zG E 9 0 0 (MW t a x) 119 [(0, .ref (a 0)), (1, .int v1), (2, .int v2), (3, .int v3), (6, .int v6)] [.long s0] := by
  intro v1 v2 v3 v6 s0 x hf
  rw [fX12_findNearest_119] at hf
  refine z_lstore C [(4, .long s0), (0, .ref (a 0)), (1, .int v1), (2, .int v2), (3, .int v3), (6, .int v6)] dX12_findNearest_119 (by decide) rfl ?_
  refine z_iinc C (v6 + 1) [(6, .int (v6 + 1)), (4, .long s0), (0, .ref (a 0)), (1, .int v1), (2, .int v2), (3, .int v3)] dX12_findNearest_121 5 rfl rfl (by decide) rfl ?_
  refine z_goto C 49 dX12_findNearest_124 (by decide) ?_
  exact z_sub [2, 3, 4, 5, 1, 0] rfl (Kb49 _ _ _ _ _ _ hf)
set_option maxHeartbeats 4000000 in
set_option maxRecDepth 100000 in
theorem kX12_findNearest_112 (E : zE) (t : zTy) (a : Nat → Nat) (out : Int64 × ST) (C : zC E cX12_findNearest 9 RX12 wsX12_findNearest (zrm 2 48) t) (R : zRl E cX12_findNearest 9 out.1 (MW t a out.2)) (kb14 : Int32 → Int32 → ST → Option (Int64 × ST)) (Kb14 : ∀ (v1 : Int32) (v2 : Int32) (x : ST), kb14 v1 v2 x = some out → zG E 9 0 0 (MW t a x) 14 [(0, .ref (a 0)), (1, .int v1), (2, .int v2)] []) (kb21 : Int32 → Int32 → Int32 → ST → Option (Int64 × ST)) (Kb21 : ∀ (v1 : Int32) (v2 : Int32) (v3 : Int32) (x : ST), kb21 v1 v2 v3 x = some out → zG E 9 0 0 (MW t a x) 21 [(0, .ref (a 0)), (1, .int v1), (2, .int v2), (3, .int v3)] []) (kb49 : Int32 → Int32 → Int32 → Int64 → Int32 → ST → Option (Int64 × ST)) (Kb49 : ∀ (v1 : Int32) (v2 : Int32) (v3 : Int32) (v4 : Int64) (v6 : Int32) (x : ST), kb49 v1 v2 v3 v4 v6 x = some out → zG E 9 0 0 (MW t a x) 49 [(0, .ref (a 0)), (1, .int v1), (2, .int v2), (3, .int v3), (4, .long v4), (6, .int v6)] []) : ∀ (v1 : Int32) (v2 : Int32) (v3 : Int32) (v6 : Int32) (v7 : Int64) (x : ST), fX12_findNearest_112 kb14 kb21 kb49 v1 v2 v3 v6 v7 x = some out → zG E 9 0 0 (MW t a x) 112 [(0, .ref (a 0)), (1, .int v1), (2, .int v2), (3, .int v3), (6, .int v6), (7, .long v7)] [] := by
  intro v1 v2 v3 v6 v7 x hf
  rw [fX12_findNearest_112] at hf
  refine z_lload C dX12_findNearest_112 5 rfl ?_
  refine z_goto C 119 dX12_findNearest_114 (by decide) ?_
  exact z_sub [0, 1, 2, 3, 4] rfl (kX12_findNearest_119 E t a out C R (kb14) (Kb14) (kb21) (Kb21) (kb49) (Kb49) _ _ _ _ _ _ hf)
set_option maxHeartbeats 4000000 in
set_option maxRecDepth 100000 in
theorem kX12_findNearest_117 (E : zE) (t : zTy) (a : Nat → Nat) (out : Int64 × ST) (C : zC E cX12_findNearest 9 RX12 wsX12_findNearest (zrm 2 48) t) (R : zRl E cX12_findNearest 9 out.1 (MW t a out.2)) (kb14 : Int32 → Int32 → ST → Option (Int64 × ST)) (Kb14 : ∀ (v1 : Int32) (v2 : Int32) (x : ST), kb14 v1 v2 x = some out → zG E 9 0 0 (MW t a x) 14 [(0, .ref (a 0)), (1, .int v1), (2, .int v2)] []) (kb21 : Int32 → Int32 → Int32 → ST → Option (Int64 × ST)) (Kb21 : ∀ (v1 : Int32) (v2 : Int32) (v3 : Int32) (x : ST), kb21 v1 v2 v3 x = some out → zG E 9 0 0 (MW t a x) 21 [(0, .ref (a 0)), (1, .int v1), (2, .int v2), (3, .int v3)] []) (kb49 : Int32 → Int32 → Int32 → Int64 → Int32 → ST → Option (Int64 × ST)) (Kb49 : ∀ (v1 : Int32) (v2 : Int32) (v3 : Int32) (v4 : Int64) (v6 : Int32) (x : ST), kb49 v1 v2 v3 v4 v6 x = some out → zG E 9 0 0 (MW t a x) 49 [(0, .ref (a 0)), (1, .int v1), (2, .int v2), (3, .int v3), (4, .long v4), (6, .int v6)] []) : ∀ (v1 : Int32) (v2 : Int32) (v3 : Int32) (v4 : Int64) (v6 : Int32) (x : ST), fX12_findNearest_117 kb14 kb21 kb49 v1 v2 v3 v4 v6 x = some out → zG E 9 0 0 (MW t a x) 117 [(0, .ref (a 0)), (1, .int v1), (2, .int v2), (3, .int v3), (4, .long v4), (6, .int v6)] [] := by
  intro v1 v2 v3 v4 v6 x hf
  rw [fX12_findNearest_117] at hf
  refine z_lload C dX12_findNearest_117 4 rfl ?_
  exact z_sub [0, 1, 2, 3, 5] rfl (kX12_findNearest_119 E t a out C R (kb14) (Kb14) (kb21) (Kb21) (kb49) (Kb49) _ _ _ _ _ _ hf)
set_option maxHeartbeats 4000000 in
set_option maxRecDepth 100000 in
theorem kX12_findNearest_127 (E : zE) (t : zTy) (a : Nat → Nat) (out : Int64 × ST) (C : zC E cX12_findNearest 9 RX12 wsX12_findNearest (zrm 2 48) t) (R : zRl E cX12_findNearest 9 out.1 (MW t a out.2)) (kb14 : Int32 → Int32 → ST → Option (Int64 × ST)) (Kb14 : ∀ (v1 : Int32) (v2 : Int32) (x : ST), kb14 v1 v2 x = some out → zG E 9 0 0 (MW t a x) 14 [(0, .ref (a 0)), (1, .int v1), (2, .int v2)] []) (kb21 : Int32 → Int32 → Int32 → ST → Option (Int64 × ST)) (Kb21 : ∀ (v1 : Int32) (v2 : Int32) (v3 : Int32) (x : ST), kb21 v1 v2 v3 x = some out → zG E 9 0 0 (MW t a x) 21 [(0, .ref (a 0)), (1, .int v1), (2, .int v2), (3, .int v3)] []) : ∀ (v1 : Int32) (v2 : Int32) (v3 : Int32) (v4 : Int64) (x : ST), fX12_findNearest_127 kb14 kb21 v1 v2 v3 v4 x = some out → zG E 9 0 0 (MW t a x) 127 [(0, .ref (a 0)), (1, .int v1), (2, .int v2), (3, .int v3), (4, .long v4)] [] := by
  intro v1 v2 v3 v4 x hf
  rw [fX12_findNearest_127] at hf
  refine z_iload_n C dX12_findNearest_127 rfl 3 rfl ?_
  refine z_aload_n C dX12_findNearest_128 rfl 0 rfl ?_
  refine mg_StillStarsModel_wished C uX12_findNearest_12 (by decide +kernel) dX12_findNearest_129 ?_
  refine z_iload_n C dX12_findNearest_132 rfl 2 rfl ?_
  obtain ⟨h25, hf⟩ := z_some hf
  refine z_iald C 17 mw_at_17 h25 dX12_findNearest_133 ?_
  refine z_isub C dX12_findNearest_134 ?_
  refine z_i2l C dX12_findNearest_135 ?_
  refine z_lstore C [(6, .long ((v3 - (gA x 17 v2.toNatClampNeg)).toInt64)), (0, .ref (a 0)), (1, .int v1), (2, .int v2), (3, .int v3), (4, .long v4)] dX12_findNearest_136 (by decide) rfl ?_
  refine z_aload_n C dX12_findNearest_138 rfl 1 rfl ?_
  refine mg_StillStarsModel_sums C uX12_findNearest_12 (by decide +kernel) dX12_findNearest_139 ?_
  refine z_bipush C dX12_findNearest_142 121 rfl ?_
  refine z_iload_n C dX12_findNearest_144 rfl 3 rfl ?_
  refine z_imul C dX12_findNearest_145 ?_
  refine z_iload_n C dX12_findNearest_146 rfl 4 rfl ?_
  refine z_iadd C dX12_findNearest_147 ?_
  refine z_bipush C dX12_findNearest_148 60 rfl ?_
  refine z_iadd C dX12_findNearest_150 ?_
  refine z_lload C dX12_findNearest_151 0 rfl ?_
  refine z_lload C dX12_findNearest_153 0 rfl ?_
  refine z_lmul C dX12_findNearest_155 ?_
  refine z_lload C dX12_findNearest_156 5 rfl ?_
  refine z_ladd C dX12_findNearest_158 ?_
  obtain ⟨h26, hf⟩ := z_some hf
  refine z_last C 16 mw_at_16 h26 (w' := MW t a (sB x 16 (((121 * v2) + v3) + 60) ((((v3 - (gA x 17 v2.toNatClampNeg)).toInt64) * ((v3 - (gA x 17 v2.toNatClampNeg)).toInt64)) + v4))) mw_up_16 dX12_findNearest_159 ?_
  refine z_iinc C (v3 + 1) [(3, .int (v3 + 1)), (6, .long ((v3 - (gA x 17 v2.toNatClampNeg)).toInt64)), (0, .ref (a 0)), (1, .int v1), (2, .int v2), (4, .long v4)] dX12_findNearest_160 4 rfl rfl (by decide) rfl ?_
  refine z_goto C 21 dX12_findNearest_163 (by decide) ?_
  exact z_sub [2, 3, 4, 0] rfl (Kb21 _ _ _ _ hf)
set_option maxHeartbeats 4000000 in
set_option maxRecDepth 100000 in
theorem kX12_findNearest_49 (E : zE) (t : zTy) (a : Nat → Nat) (out : Int64 × ST) (C : zC E cX12_findNearest 9 RX12 wsX12_findNearest (zrm 2 48) t) (R : zRl E cX12_findNearest 9 out.1 (MW t a out.2)) (kb14 : Int32 → Int32 → ST → Option (Int64 × ST)) (Kb14 : ∀ (v1 : Int32) (v2 : Int32) (x : ST), kb14 v1 v2 x = some out → zG E 9 0 0 (MW t a x) 14 [(0, .ref (a 0)), (1, .int v1), (2, .int v2)] []) (kb21 : Int32 → Int32 → Int32 → ST → Option (Int64 × ST)) (Kb21 : ∀ (v1 : Int32) (v2 : Int32) (v3 : Int32) (x : ST), kb21 v1 v2 v3 x = some out → zG E 9 0 0 (MW t a x) 21 [(0, .ref (a 0)), (1, .int v1), (2, .int v2), (3, .int v3)] []) : ∀ (n : Nat) (v1 : Int32) (v2 : Int32) (v3 : Int32) (v4 : Int64) (v6 : Int32) (x : ST), fX12_findNearest_49 kb14 kb21 n v1 v2 v3 v4 v6 x = some out → zG E 9 0 0 (MW t a x) 49 [(0, .ref (a 0)), (1, .int v1), (2, .int v2), (3, .int v3), (4, .long v4), (6, .int v6)] [] := by
  intro n
  induction n with
  | zero =>
    intro v1 v2 v3 v4 v6 x hf
    cases hf
  | succ n ih =>
    intro v1 v2 v3 v4 v6 x hf
    rw [fX12_findNearest_49] at hf
    refine z_iload C dX12_findNearest_49 5 rfl ?_
    refine z_iload_n C dX12_findNearest_51 rfl 1 rfl ?_
    refine z_icmp_gt C 127 dX12_findNearest_52 (by decide) (fun c15 => ?_) (fun c15 => ?_)
    · replace hf := z_ift c15 hf
      exact z_sub [0, 1, 2, 3, 4] rfl (kX12_findNearest_127 E t a out C R (kb14) (Kb14) (kb21) (Kb21) _ _ _ _ _ hf)
    · replace hf := z_iff c15 hf
      refine z_iload_n C dX12_findNearest_55 rfl 2 rfl ?_
      refine z_aload_n C dX12_findNearest_56 rfl 0 rfl ?_
      refine mg_StillStarsModel_parts C uX12_findNearest_12 (by decide +kernel) dX12_findNearest_57 ?_
      refine z_iconst C dX12_findNearest_60 1 rfl ?_
      refine z_isub C dX12_findNearest_61 ?_
      refine z_icmp_ge C 127 dX12_findNearest_62 (by decide) (fun c16 => ?_) (fun c16 => ?_)
      · replace hf := z_ift c16 hf
        exact z_sub [0, 1, 2, 3, 4] rfl (kX12_findNearest_127 E t a out C R (kb14) (Kb14) (kb21) (Kb21) _ _ _ _ _ hf)
      · replace hf := z_iff c16 hf
        refine z_aload_n C dX12_findNearest_65 rfl 0 rfl ?_
        refine mg_StillStarsModel_sums C uX12_findNearest_12 (by decide +kernel) dX12_findNearest_66 ?_
        refine z_bipush C dX12_findNearest_69 121 rfl ?_
        refine z_iload_n C dX12_findNearest_71 rfl 2 rfl ?_
        refine z_iconst C dX12_findNearest_72 1 rfl ?_
        refine z_iadd C dX12_findNearest_73 ?_
        refine z_imul C dX12_findNearest_74 ?_
        refine z_iload C dX12_findNearest_75 5 rfl ?_
        refine z_iadd C dX12_findNearest_77 ?_
        refine z_bipush C dX12_findNearest_78 60 rfl ?_
        refine z_iadd C dX12_findNearest_80 ?_
        obtain ⟨h17, hf⟩ := z_some hf
        refine z_lald C 16 mw_at_16 h17 dX12_findNearest_81 ?_
        refine z_lstore C [(7, .long (gB x 16 (((121 * (v2 + 1)) + v6) + 60).toNatClampNeg)), (0, .ref (a 0)), (1, .int v1), (2, .int v2), (3, .int v3), (4, .long v4), (6, .int v6)] dX12_findNearest_82 (by decide) rfl ?_
        refine z_aload_n C dX12_findNearest_84 rfl 1 rfl ?_
        refine z_iload_n C dX12_findNearest_85 rfl 3 rfl ?_
        refine z_iconst C dX12_findNearest_86 1 rfl ?_
        refine z_iadd C dX12_findNearest_87 ?_
        refine z_iload C dX12_findNearest_88 6 rfl ?_
        refine z_iload_n C dX12_findNearest_90 rfl 4 rfl ?_
        obtain ⟨q18, h19, hf⟩ := z_bind hf
        refine z_callVi C (rest := []) (tX12_isBeside (ze_l E) (ze_D E) t a h19) gX12_findNearest_X12_isBeside rfl hdX12_isBeside ⟨(Nat.le_of_ble_eq_true rfl), (Nat.le_of_ble_eq_true rfl)⟩ ⟨Nat.zero_le _, Nat.zero_le _⟩ 0 mw_at_0 rfl rfl rfl (Nat.le_of_ble_eq_true rfl) dX12_findNearest_91 ?_
        refine z_if_eq C 117 dX12_findNearest_94 (by decide) (fun c20 => ?_) (fun c20 => ?_)
        · replace hf := z_ift c20 hf
          exact z_sub [1, 2, 3, 4, 5, 6] rfl (kX12_findNearest_117 E t a out C R (kb14) (Kb14) (kb21) (Kb21) (fX12_findNearest_49 kb14 kb21 n) (ih) _ _ _ _ _ _ hf)
        · replace hf := z_iff c20 hf
          refine z_lload C dX12_findNearest_97 5 rfl ?_
          refine z_lconst C dX12_findNearest_99 0 rfl ?_
          refine z_lcmp_lt C 112 dX12_findNearest_100 dX12_findNearest_101 (by decide) (fun c21 => ?_) (fun c21 => ?_)
          · replace hf := z_ift c21 hf
            exact z_sub [1, 2, 3, 4, 6, 0] rfl (kX12_findNearest_112 E t a out C R (kb14) (Kb14) (kb21) (Kb21) (fX12_findNearest_49 kb14 kb21 n) (ih) _ _ _ _ _ _ hf)
          · replace hf := z_iff c21 hf
            refine z_lload C dX12_findNearest_104 0 rfl ?_
            refine z_lload C dX12_findNearest_106 5 rfl ?_
            refine z_lcmp_ge C 117 dX12_findNearest_108 dX12_findNearest_109 (by decide) (fun c22 => ?_) (fun c22 => ?_)
            · replace hf := z_ift c22 hf
              exact z_sub [1, 2, 3, 4, 5, 6] rfl (kX12_findNearest_117 E t a out C R (kb14) (Kb14) (kb21) (Kb21) (fX12_findNearest_49 kb14 kb21 n) (ih) _ _ _ _ _ _ hf)
            · replace hf := z_iff c22 hf
              exact z_sub [1, 2, 3, 4, 6, 0] rfl (kX12_findNearest_112 E t a out C R (kb14) (Kb14) (kb21) (Kb21) (fX12_findNearest_49 kb14 kb21 n) (ih) _ _ _ _ _ _ hf)
set_option maxHeartbeats 4000000 in
set_option maxRecDepth 100000 in
theorem kX12_findNearest_43 (E : zE) (t : zTy) (a : Nat → Nat) (out : Int64 × ST) (C : zC E cX12_findNearest 9 RX12 wsX12_findNearest (zrm 2 48) t) (R : zRl E cX12_findNearest 9 out.1 (MW t a out.2)) (kb14 : Int32 → Int32 → ST → Option (Int64 × ST)) (Kb14 : ∀ (v1 : Int32) (v2 : Int32) (x : ST), kb14 v1 v2 x = some out → zG E 9 0 0 (MW t a x) 14 [(0, .ref (a 0)), (1, .int v1), (2, .int v2)] []) (kb21 : Int32 → Int32 → Int32 → ST → Option (Int64 × ST)) (Kb21 : ∀ (v1 : Int32) (v2 : Int32) (v3 : Int32) (x : ST), kb21 v1 v2 v3 x = some out → zG E 9 0 0 (MW t a x) 21 [(0, .ref (a 0)), (1, .int v1), (2, .int v2), (3, .int v3)] []) : ∀ (v1 : Int32) (v2 : Int32) (v3 : Int32) (s0 : Int64) (x : ST), fX12_findNearest_43 kb14 kb21 v1 v2 v3 s0 x = some out → zG E 9 0 0 (MW t a x) 43 [(0, .ref (a 0)), (1, .int v1), (2, .int v2), (3, .int v3)] [.long s0] := by
  intro v1 v2 v3 s0 x hf
  rw [fX12_findNearest_43] at hf
  refine z_lstore C [(4, .long s0), (0, .ref (a 0)), (1, .int v1), (2, .int v2), (3, .int v3)] dX12_findNearest_43 (by decide) rfl ?_
  refine z_iload_n C dX12_findNearest_45 rfl 2 rfl ?_
  refine z_ineg C dX12_findNearest_46 ?_
  refine z_istore C [(6, .int (-v1)), (4, .long s0), (0, .ref (a 0)), (1, .int v1), (2, .int v2), (3, .int v3)] dX12_findNearest_47 (by decide) rfl ?_
  exact z_sub [2, 3, 4, 5, 1, 0] rfl (kX12_findNearest_49 E t a out C R (kb14) (Kb14) (kb21) (Kb21) 200 _ _ _ _ _ _ hf)
set_option maxHeartbeats 4000000 in
set_option maxRecDepth 100000 in
theorem kX12_findNearest_166 (E : zE) (t : zTy) (a : Nat → Nat) (out : Int64 × ST) (C : zC E cX12_findNearest 9 RX12 wsX12_findNearest (zrm 2 48) t) (R : zRl E cX12_findNearest 9 out.1 (MW t a out.2)) (kb14 : Int32 → Int32 → ST → Option (Int64 × ST)) (Kb14 : ∀ (v1 : Int32) (v2 : Int32) (x : ST), kb14 v1 v2 x = some out → zG E 9 0 0 (MW t a x) 14 [(0, .ref (a 0)), (1, .int v1), (2, .int v2)] []) : ∀ (v1 : Int32) (v2 : Int32) (x : ST), fX12_findNearest_166 kb14 v1 v2 x = some out → zG E 9 0 0 (MW t a x) 166 [(0, .ref (a 0)), (1, .int v1), (2, .int v2)] [] := by
  intro v1 v2 x hf
  rw [fX12_findNearest_166] at hf
  refine z_iinc C (v2 + (-1)) [(2, .int (v2 + (-1))), (0, .ref (a 0)), (1, .int v1)] dX12_findNearest_166 2 rfl rfl (by decide) rfl ?_
  refine z_goto C 14 dX12_findNearest_169 (by decide) ?_
  exact z_sub [1, 2, 0] rfl (Kb14 _ _ _ hf)
set_option maxHeartbeats 4000000 in
set_option maxRecDepth 100000 in
theorem kX12_findNearest_21 (E : zE) (t : zTy) (a : Nat → Nat) (out : Int64 × ST) (C : zC E cX12_findNearest 9 RX12 wsX12_findNearest (zrm 2 48) t) (R : zRl E cX12_findNearest 9 out.1 (MW t a out.2)) (kb14 : Int32 → Int32 → ST → Option (Int64 × ST)) (Kb14 : ∀ (v1 : Int32) (v2 : Int32) (x : ST), kb14 v1 v2 x = some out → zG E 9 0 0 (MW t a x) 14 [(0, .ref (a 0)), (1, .int v1), (2, .int v2)] []) : ∀ (n : Nat) (v1 : Int32) (v2 : Int32) (v3 : Int32) (x : ST), fX12_findNearest_21 kb14 n v1 v2 v3 x = some out → zG E 9 0 0 (MW t a x) 21 [(0, .ref (a 0)), (1, .int v1), (2, .int v2), (3, .int v3)] [] := by
  intro n
  induction n with
  | zero =>
    intro v1 v2 v3 x hf
    cases hf
  | succ n ih =>
    intro v1 v2 v3 x hf
    rw [fX12_findNearest_21] at hf
    refine z_iload_n C dX12_findNearest_21 rfl 3 rfl ?_
    refine z_iload_n C dX12_findNearest_22 rfl 1 rfl ?_
    refine z_icmp_gt C 166 dX12_findNearest_23 (by decide) (fun c3 => ?_) (fun c3 => ?_)
    · replace hf := z_ift c3 hf
      exact z_sub [0, 1, 2] rfl (kX12_findNearest_166 E t a out C R (kb14) (Kb14) _ _ _ hf)
    · replace hf := z_iff c3 hf
      refine z_iload_n C dX12_findNearest_26 rfl 2 rfl ?_
      refine z_aload_n C dX12_findNearest_27 rfl 0 rfl ?_
      refine mg_StillStarsModel_parts C uX12_findNearest_12 (by decide +kernel) dX12_findNearest_28 ?_
      refine z_iconst C dX12_findNearest_31 1 rfl ?_
      refine z_isub C dX12_findNearest_32 ?_
      refine z_icmp_ne C 40 dX12_findNearest_33 (by decide) (fun c4 => ?_) (fun c4 => ?_)
      · replace hf := z_iff c4 hf
        refine z_ldc2 C (-1) (by decide +kernel) dX12_findNearest_40 ?_
        exact z_sub [0, 1, 2, 3] rfl (kX12_findNearest_43 E t a out C R (kb14) (Kb14) (fX12_findNearest_21 kb14 n) (ih) _ _ _ _ _ hf)
      · replace hf := z_ift c4 hf
        refine z_lconst C dX12_findNearest_36 0 rfl ?_
        refine z_goto C 43 dX12_findNearest_37 (by decide) ?_
        exact z_sub [0, 1, 2, 3] rfl (kX12_findNearest_43 E t a out C R (kb14) (Kb14) (fX12_findNearest_21 kb14 n) (ih) _ _ _ _ _ hf)
set_option maxHeartbeats 4000000 in
set_option maxRecDepth 100000 in
theorem kX12_findNearest_262 (E : zE) (t : zTy) (a : Nat → Nat) (out : Int64 × ST) (C : zC E cX12_findNearest 9 RX12 wsX12_findNearest (zrm 2 48) t) (R : zRl E cX12_findNearest 9 out.1 (MW t a out.2)) (kb174 : Int32 → Int32 → ST → Option (Int64 × ST)) (Kb174 : ∀ (v1 : Int32) (v2 : Int32) (x : ST), kb174 v1 v2 x = some out → zG E 9 0 0 (MW t a x) 174 [(0, .ref (a 0)), (1, .int v1), (2, .int v2)] []) (kb191 : Int32 → Int32 → Int32 → Int64 → Int32 → ST → Option (Int64 × ST)) (Kb191 : ∀ (v1 : Int32) (v2 : Int32) (v3 : Int32) (v4 : Int64) (v6 : Int32) (x : ST), kb191 v1 v2 v3 v4 v6 x = some out → zG E 9 0 0 (MW t a x) 191 [(0, .ref (a 0)), (1, .int v1), (2, .int v2), (3, .int v3), (4, .long v4), (6, .int v6)] []) : ∀ (v1 : Int32) (v2 : Int32) (v3 : Int32) (v4 : Int64) (v6 : Int32) (x : ST), fX12_findNearest_262 kb174 kb191 v1 v2 v3 v4 v6 x = some out → zG E 9 0 0 (MW t a x) 262 [(0, .ref (a 0)), (1, .int v1), (2, .int v2), (3, .int v3), (4, .long v4), (6, .int v6)] [] := by
  intro v1 v2 v3 v4 v6 x hf
  rw [fX12_findNearest_262] at hf
  refine z_iinc C (v6 + 1) [(6, .int (v6 + 1)), (0, .ref (a 0)), (1, .int v1), (2, .int v2), (3, .int v3), (4, .long v4)] dX12_findNearest_262 5 rfl rfl (by decide) rfl ?_
  refine z_goto C 191 dX12_findNearest_265 (by decide) ?_
  exact z_sub [1, 2, 3, 4, 5, 0] rfl (Kb191 _ _ _ _ _ _ hf)
set_option maxHeartbeats 4000000 in
set_option maxRecDepth 100000 in
theorem kX12_findNearest_248 (E : zE) (t : zTy) (a : Nat → Nat) (out : Int64 × ST) (C : zC E cX12_findNearest 9 RX12 wsX12_findNearest (zrm 2 48) t) (R : zRl E cX12_findNearest 9 out.1 (MW t a out.2)) (kb174 : Int32 → Int32 → ST → Option (Int64 × ST)) (Kb174 : ∀ (v1 : Int32) (v2 : Int32) (x : ST), kb174 v1 v2 x = some out → zG E 9 0 0 (MW t a x) 174 [(0, .ref (a 0)), (1, .int v1), (2, .int v2)] []) (kb191 : Int32 → Int32 → Int32 → Int64 → Int32 → ST → Option (Int64 × ST)) (Kb191 : ∀ (v1 : Int32) (v2 : Int32) (v3 : Int32) (v4 : Int64) (v6 : Int32) (x : ST), kb191 v1 v2 v3 v4 v6 x = some out → zG E 9 0 0 (MW t a x) 191 [(0, .ref (a 0)), (1, .int v1), (2, .int v2), (3, .int v3), (4, .long v4), (6, .int v6)] []) : ∀ (v1 : Int32) (v2 : Int32) (v6 : Int32) (v7 : Int64) (x : ST), fX12_findNearest_248 kb174 kb191 v1 v2 v6 v7 x = some out → zG E 9 0 0 (MW t a x) 248 [(0, .ref (a 0)), (1, .int v1), (2, .int v2), (6, .int v6), (7, .long v7)] [] := by
  intro v1 v2 v6 v7 x hf
  rw [fX12_findNearest_248] at hf
  refine z_iconst C dX12_findNearest_248 1 rfl ?_
  refine z_istore_n C [(3, .int 1), (0, .ref (a 0)), (1, .int v1), (2, .int v2), (6, .int v6), (7, .long v7)] dX12_findNearest_249 rfl (by decide) rfl ?_
  refine z_lload C dX12_findNearest_250 5 rfl ?_
  refine z_lstore C [(4, .long v7), (3, .int 1), (0, .ref (a 0)), (1, .int v1), (2, .int v2), (6, .int v6), (7, .long v7)] dX12_findNearest_252 (by decide) rfl ?_
  refine z_aload_n C dX12_findNearest_254 rfl 2 rfl ?_
  refine mg_StillStarsModel_row C uX12_findNearest_12 (by decide +kernel) dX12_findNearest_255 ?_
  refine z_iload_n C dX12_findNearest_258 rfl 4 rfl ?_
  refine z_iload C dX12_findNearest_259 5 rfl ?_
  obtain ⟨h27, hf⟩ := z_some hf
  refine z_iast C 18 mw_at_18 h27 (w' := MW t a (sA x 18 v2 v6)) mw_up_18 dX12_findNearest_261 ?_
  exact z_sub [2, 3, 4, 1, 0, 5] rfl (kX12_findNearest_262 E t a out C R (kb174) (Kb174) (kb191) (Kb191) _ _ _ _ _ _ hf)
set_option maxHeartbeats 4000000 in
set_option maxRecDepth 100000 in
theorem kX12_findNearest_236 (E : zE) (t : zTy) (a : Nat → Nat) (out : Int64 × ST) (C : zC E cX12_findNearest 9 RX12 wsX12_findNearest (zrm 2 48) t) (R : zRl E cX12_findNearest 9 out.1 (MW t a out.2)) (kb174 : Int32 → Int32 → ST → Option (Int64 × ST)) (Kb174 : ∀ (v1 : Int32) (v2 : Int32) (x : ST), kb174 v1 v2 x = some out → zG E 9 0 0 (MW t a x) 174 [(0, .ref (a 0)), (1, .int v1), (2, .int v2)] []) (kb191 : Int32 → Int32 → Int32 → Int64 → Int32 → ST → Option (Int64 × ST)) (Kb191 : ∀ (v1 : Int32) (v2 : Int32) (v3 : Int32) (v4 : Int64) (v6 : Int32) (x : ST), kb191 v1 v2 v3 v4 v6 x = some out → zG E 9 0 0 (MW t a x) 191 [(0, .ref (a 0)), (1, .int v1), (2, .int v2), (3, .int v3), (4, .long v4), (6, .int v6)] []) : ∀ (v1 : Int32) (v2 : Int32) (v3 : Int32) (v4 : Int64) (v6 : Int32) (v7 : Int64) (x : ST), fX12_findNearest_236 kb174 kb191 v1 v2 v3 v4 v6 v7 x = some out → zG E 9 0 0 (MW t a x) 236 [(0, .ref (a 0)), (1, .int v1), (2, .int v2), (3, .int v3), (4, .long v4), (6, .int v6), (7, .long v7)] [] := by
  intro v1 v2 v3 v4 v6 v7 x hf
  rw [fX12_findNearest_236] at hf
  refine z_iload_n C dX12_findNearest_236 rfl 3 rfl ?_
  refine z_if_eq C 248 dX12_findNearest_237 (by decide) (fun c23 => ?_) (fun c23 => ?_)
  · replace hf := z_ift c23 hf
    exact z_sub [0, 1, 2, 5, 6] rfl (kX12_findNearest_248 E t a out C R (kb174) (Kb174) (kb191) (Kb191) _ _ _ _ _ hf)
  · replace hf := z_iff c23 hf
    refine z_lload C dX12_findNearest_240 6 rfl ?_
    refine z_lload C dX12_findNearest_242 4 rfl ?_
    refine z_lcmp_ge C 262 dX12_findNearest_244 dX12_findNearest_245 (by decide) (fun c24 => ?_) (fun c24 => ?_)
    · replace hf := z_ift c24 hf
      exact z_sub [0, 1, 2, 3, 4, 5] rfl (kX12_findNearest_262 E t a out C R (kb174) (Kb174) (kb191) (Kb191) _ _ _ _ _ _ hf)
    · replace hf := z_iff c24 hf
      exact z_sub [0, 1, 2, 5, 6] rfl (kX12_findNearest_248 E t a out C R (kb174) (Kb174) (kb191) (Kb191) _ _ _ _ _ hf)
set_option maxHeartbeats 4000000 in
set_option maxRecDepth 100000 in
theorem kX12_findNearest_268 (E : zE) (t : zTy) (a : Nat → Nat) (out : Int64 × ST) (C : zC E cX12_findNearest 9 RX12 wsX12_findNearest (zrm 2 48) t) (R : zRl E cX12_findNearest 9 out.1 (MW t a out.2)) (kb174 : Int32 → Int32 → ST → Option (Int64 × ST)) (Kb174 : ∀ (v1 : Int32) (v2 : Int32) (x : ST), kb174 v1 v2 x = some out → zG E 9 0 0 (MW t a x) 174 [(0, .ref (a 0)), (1, .int v1), (2, .int v2)] []) : ∀ (v1 : Int32) (v2 : Int32) (x : ST), fX12_findNearest_268 kb174 v1 v2 x = some out → zG E 9 0 0 (MW t a x) 268 [(0, .ref (a 0)), (1, .int v1), (2, .int v2)] [] := by
  intro v1 v2 x hf
  rw [fX12_findNearest_268] at hf
  refine z_iinc C (v2 + 1) [(2, .int (v2 + 1)), (0, .ref (a 0)), (1, .int v1)] dX12_findNearest_268 2 rfl rfl (by decide) rfl ?_
  refine z_goto C 174 dX12_findNearest_271 (by decide) ?_
  exact z_sub [1, 2, 0] rfl (Kb174 _ _ _ hf)
set_option maxHeartbeats 4000000 in
set_option maxRecDepth 100000 in
theorem kX12_findNearest_191 (E : zE) (t : zTy) (a : Nat → Nat) (out : Int64 × ST) (C : zC E cX12_findNearest 9 RX12 wsX12_findNearest (zrm 2 48) t) (R : zRl E cX12_findNearest 9 out.1 (MW t a out.2)) (kb174 : Int32 → Int32 → ST → Option (Int64 × ST)) (Kb174 : ∀ (v1 : Int32) (v2 : Int32) (x : ST), kb174 v1 v2 x = some out → zG E 9 0 0 (MW t a x) 174 [(0, .ref (a 0)), (1, .int v1), (2, .int v2)] []) : ∀ (n : Nat) (v1 : Int32) (v2 : Int32) (v3 : Int32) (v4 : Int64) (v6 : Int32) (x : ST), fX12_findNearest_191 kb174 n v1 v2 v3 v4 v6 x = some out → zG E 9 0 0 (MW t a x) 191 [(0, .ref (a 0)), (1, .int v1), (2, .int v2), (3, .int v3), (4, .long v4), (6, .int v6)] [] := by
  intro n
  induction n with
  | zero =>
    intro v1 v2 v3 v4 v6 x hf
    cases hf
  | succ n ih =>
    intro v1 v2 v3 v4 v6 x hf
    rw [fX12_findNearest_191] at hf
    refine z_iload C dX12_findNearest_191 5 rfl ?_
    refine z_iload_n C dX12_findNearest_193 rfl 1 rfl ?_
    refine z_icmp_gt C 268 dX12_findNearest_194 (by decide) (fun c8 => ?_) (fun c8 => ?_)
    · replace hf := z_ift c8 hf
      exact z_sub [0, 1, 2] rfl (kX12_findNearest_268 E t a out C R (kb174) (Kb174) _ _ _ hf)
    · replace hf := z_iff c8 hf
      refine z_aload_n C dX12_findNearest_197 rfl 0 rfl ?_
      refine mg_StillStarsModel_sums C uX12_findNearest_12 (by decide +kernel) dX12_findNearest_198 ?_
      refine z_bipush C dX12_findNearest_201 121 rfl ?_
      refine z_iload_n C dX12_findNearest_203 rfl 2 rfl ?_
      refine z_imul C dX12_findNearest_204 ?_
      refine z_iload C dX12_findNearest_205 5 rfl ?_
      refine z_iadd C dX12_findNearest_207 ?_
      refine z_bipush C dX12_findNearest_208 60 rfl ?_
      refine z_iadd C dX12_findNearest_210 ?_
      obtain ⟨h9, hf⟩ := z_some hf
      refine z_lald C 16 mw_at_16 h9 dX12_findNearest_211 ?_
      refine z_lstore C [(7, .long (gB x 16 (((121 * v2) + v6) + 60).toNatClampNeg)), (0, .ref (a 0)), (1, .int v1), (2, .int v2), (3, .int v3), (4, .long v4), (6, .int v6)] dX12_findNearest_212 (by decide) rfl ?_
      refine z_iload_n C dX12_findNearest_214 rfl 3 rfl ?_
      refine z_if_eq C 236 dX12_findNearest_215 (by decide) (fun c10 => ?_) (fun c10 => ?_)
      · replace hf := z_ift c10 hf
        exact z_sub [1, 2, 3, 4, 5, 6, 0] rfl (kX12_findNearest_236 E t a out C R (kb174) (Kb174) (fX12_findNearest_191 kb174 n) (ih) _ _ _ _ _ _ _ hf)
      · replace hf := z_iff c10 hf
        refine z_aload_n C dX12_findNearest_218 rfl 1 rfl ?_
        refine z_iload_n C dX12_findNearest_219 rfl 3 rfl ?_
        refine z_iload C dX12_findNearest_220 6 rfl ?_
        refine z_aload_n C dX12_findNearest_222 rfl 1 rfl ?_
        refine mg_StillStarsModel_row C uX12_findNearest_12 (by decide +kernel) dX12_findNearest_223 ?_
        refine z_iload_n C dX12_findNearest_226 rfl 3 rfl ?_
        refine z_iconst C dX12_findNearest_227 1 rfl ?_
        refine z_isub C dX12_findNearest_228 ?_
        obtain ⟨h11, hf⟩ := z_some hf
        refine z_iald C 18 mw_at_18 h11 dX12_findNearest_229 ?_
        obtain ⟨q12, h13, hf⟩ := z_bind hf
        refine z_callVi C (rest := []) (tX12_isBeside (ze_l E) (ze_D E) t a h13) gX12_findNearest_X12_isBeside rfl hdX12_isBeside ⟨(Nat.le_of_ble_eq_true rfl), (Nat.le_of_ble_eq_true rfl)⟩ ⟨Nat.zero_le _, Nat.zero_le _⟩ 0 mw_at_0 rfl rfl rfl (Nat.le_of_ble_eq_true rfl) dX12_findNearest_230 ?_
        refine z_if_eq C 262 dX12_findNearest_233 (by decide) (fun c14 => ?_) (fun c14 => ?_)
        · replace hf := z_ift c14 hf
          exact z_sub [1, 2, 3, 4, 5, 6] rfl (kX12_findNearest_262 E t a out C R (kb174) (Kb174) (fX12_findNearest_191 kb174 n) (ih) _ _ _ _ _ _ hf)
        · replace hf := z_iff c14 hf
          exact z_sub [1, 2, 3, 4, 5, 6, 0] rfl (kX12_findNearest_236 E t a out C R (kb174) (Kb174) (fX12_findNearest_191 kb174 n) (ih) _ _ _ _ _ _ _ hf)
set_option maxHeartbeats 4000000 in
set_option maxRecDepth 100000 in
theorem kX12_findNearest_274 (E : zE) (t : zTy) (a : Nat → Nat) (out : Int64 × ST) (C : zC E cX12_findNearest 9 RX12 wsX12_findNearest (zrm 2 48) t) (R : zRl E cX12_findNearest 9 out.1 (MW t a out.2)) : ∀ (x : ST), fX12_findNearest_274 x = some out → zG E 9 0 0 (MW t a x) 274 [(0, .ref (a 0))] [] := by
  intro x hf
  rw [fX12_findNearest_274] at hf
  refine z_aload_n C dX12_findNearest_274 rfl 0 rfl ?_
  refine mg_StillStarsModel_sums C uX12_findNearest_12 (by decide +kernel) dX12_findNearest_275 ?_
  refine z_aload_n C dX12_findNearest_278 rfl 0 rfl ?_
  refine mg_StillStarsModel_row C uX12_findNearest_12 (by decide +kernel) dX12_findNearest_279 ?_
  refine z_iconst C dX12_findNearest_282 0 rfl ?_
  obtain ⟨h6, hf⟩ := z_some hf
  refine z_iald C 18 mw_at_18 h6 dX12_findNearest_283 ?_
  refine z_bipush C dX12_findNearest_284 60 rfl ?_
  refine z_iadd C dX12_findNearest_286 ?_
  obtain ⟨h7, hf⟩ := z_some hf
  refine z_lald C 16 mw_at_16 h7 dX12_findNearest_287 ?_
  cases hf
  exact R _ _ dX12_findNearest_288
set_option maxHeartbeats 4000000 in
set_option maxRecDepth 100000 in
theorem kX12_findNearest_174 (E : zE) (t : zTy) (a : Nat → Nat) (out : Int64 × ST) (C : zC E cX12_findNearest 9 RX12 wsX12_findNearest (zrm 2 48) t) (R : zRl E cX12_findNearest 9 out.1 (MW t a out.2)) : ∀ (n : Nat) (v1 : Int32) (v2 : Int32) (x : ST), fX12_findNearest_174 n v1 v2 x = some out → zG E 9 0 0 (MW t a x) 174 [(0, .ref (a 0)), (1, .int v1), (2, .int v2)] [] := by
  intro n
  induction n with
  | zero =>
    intro v1 v2 x hf
    cases hf
  | succ n ih =>
    intro v1 v2 x hf
    rw [fX12_findNearest_174] at hf
    refine z_iload_n C dX12_findNearest_174 rfl 2 rfl ?_
    refine z_aload_n C dX12_findNearest_175 rfl 0 rfl ?_
    refine mg_StillStarsModel_parts C uX12_findNearest_12 (by decide +kernel) dX12_findNearest_176 ?_
    refine z_icmp_ge C 274 dX12_findNearest_179 (by decide) (fun c5 => ?_) (fun c5 => ?_)
    · replace hf := z_ift c5 hf
      exact z_sub [0] rfl (kX12_findNearest_274 E t a out C R _ hf)
    · replace hf := z_iff c5 hf
      refine z_iconst C dX12_findNearest_182 0 rfl ?_
      refine z_istore_n C [(3, .int 0), (0, .ref (a 0)), (1, .int v1), (2, .int v2)] dX12_findNearest_183 rfl (by decide) rfl ?_
      refine z_lconst C dX12_findNearest_184 0 rfl ?_
      refine z_lstore C [(4, .long 0), (3, .int 0), (0, .ref (a 0)), (1, .int v1), (2, .int v2)] dX12_findNearest_185 (by decide) rfl ?_
      refine z_iload_n C dX12_findNearest_187 rfl 3 rfl ?_
      refine z_ineg C dX12_findNearest_188 ?_
      refine z_istore C [(6, .int (-v1)), (4, .long 0), (3, .int 0), (0, .ref (a 0)), (1, .int v1), (2, .int v2)] dX12_findNearest_189 (by decide) rfl ?_
      exact z_sub [3, 4, 5, 2, 1, 0] rfl (kX12_findNearest_191 E t a out C R (fX12_findNearest_174 n) (ih) 200 _ _ _ _ _ _ hf)
set_option maxHeartbeats 4000000 in
set_option maxRecDepth 100000 in
theorem kX12_findNearest_172 (E : zE) (t : zTy) (a : Nat → Nat) (out : Int64 × ST) (C : zC E cX12_findNearest 9 RX12 wsX12_findNearest (zrm 2 48) t) (R : zRl E cX12_findNearest 9 out.1 (MW t a out.2)) : ∀ (v1 : Int32) (x : ST), fX12_findNearest_172 v1 x = some out → zG E 9 0 0 (MW t a x) 172 [(0, .ref (a 0)), (1, .int v1)] [] := by
  intro v1 x hf
  rw [fX12_findNearest_172] at hf
  refine z_iconst C dX12_findNearest_172 0 rfl ?_
  refine z_istore_n C [(2, .int 0), (0, .ref (a 0)), (1, .int v1)] dX12_findNearest_173 rfl (by decide) rfl ?_
  exact z_sub [1, 2, 0] rfl (kX12_findNearest_174 E t a out C R 200 _ _ _ hf)
set_option maxHeartbeats 4000000 in
set_option maxRecDepth 100000 in
theorem kX12_findNearest_14 (E : zE) (t : zTy) (a : Nat → Nat) (out : Int64 × ST) (C : zC E cX12_findNearest 9 RX12 wsX12_findNearest (zrm 2 48) t) (R : zRl E cX12_findNearest 9 out.1 (MW t a out.2)) : ∀ (n : Nat) (v1 : Int32) (v2 : Int32) (x : ST), fX12_findNearest_14 n v1 v2 x = some out → zG E 9 0 0 (MW t a x) 14 [(0, .ref (a 0)), (1, .int v1), (2, .int v2)] [] := by
  intro n
  induction n with
  | zero =>
    intro v1 v2 x hf
    cases hf
  | succ n ih =>
    intro v1 v2 x hf
    rw [fX12_findNearest_14] at hf
    refine z_iload_n C dX12_findNearest_14 rfl 2 rfl ?_
    refine z_if_lt C 172 dX12_findNearest_15 (by decide) (fun c2 => ?_) (fun c2 => ?_)
    · replace hf := z_ift c2 hf
      exact z_sub [0, 1] rfl (kX12_findNearest_172 E t a out C R _ _ hf)
    · replace hf := z_iff c2 hf
      refine z_iload_n C dX12_findNearest_18 rfl 1 rfl ?_
      refine z_ineg C dX12_findNearest_19 ?_
      refine z_istore_n C [(3, .int (-v1)), (0, .ref (a 0)), (1, .int v1), (2, .int v2)] dX12_findNearest_20 rfl (by decide) rfl ?_
      exact z_sub [1, 2, 3, 0] rfl (kX12_findNearest_21 E t a out C R (fX12_findNearest_14 n) (ih) 200 _ _ _ _ hf)
theorem hdX12_findNearest : yX12_findNearest.cls = RX12 ∧ yX12_findNearest.cls ≠ "java/lang/invoke/MethodHandle" ∧ yX12_findNearest.cls ≠ "java/lang/invoke/VarHandle" ∧ (parseMethodDescriptor yX12_findNearest.desc).map (fun d => d.parameters.length) = some 0 := by decide +kernel
set_option maxHeartbeats 4000000 in
set_option maxRecDepth 100000 in
theorem tX12_findNearest (l : Launch) (D : va_G) (t : zTy) (a : Nat → Nat)  {x : ST} {out : Int64 × ST} (hf : fX12_findNearest  x = some out) : zMl l yX12_findNearest wsX12_findNearest 2 48 D t [.ref (a 0)] (MW t a x) out.1 (MW t a out.2) := by
  refine z_entry_l (cc := cX12_findNearest) (nL := 9) (by decide) rfl (Nat.le_of_ble_eq_true rfl) (fun E _ _ C R => ?_)
  refine z_sub (lv' := [(0, .ref (a 0))]) [0] rfl ?_
  rw [fX12_findNearest] at hf
  refine z_aload_n C dX12_findNearest_0 rfl 0 rfl ?_
  refine mg_StillStarsModel_sets C uX12_findNearest_12 (by decide +kernel) dX12_findNearest_1 ?_
  refine z_iconst C dX12_findNearest_4 4 rfl ?_
  obtain ⟨h1, hf⟩ := z_some hf
  refine z_iald C 4 mw_at_4 h1 dX12_findNearest_5 ?_
  refine z_istore_n C [(1, .int (gA x 4 (4 : Int32).toNatClampNeg)), (0, .ref (a 0))] dX12_findNearest_6 rfl (by decide) rfl ?_
  refine z_aload_n C dX12_findNearest_7 rfl 1 rfl ?_
  refine mg_StillStarsModel_parts C uX12_findNearest_12 (by decide +kernel) dX12_findNearest_8 ?_
  refine z_iconst C dX12_findNearest_11 1 rfl ?_
  refine z_isub C dX12_findNearest_12 ?_
  refine z_istore_n C [(2, .int ((gI x 1) - 1)), (1, .int (gA x 4 (4 : Int32).toNatClampNeg)), (0, .ref (a 0))] dX12_findNearest_13 rfl (by decide) rfl ?_
  exact z_sub [2, 1, 0] rfl (kX12_findNearest_14 E t a out C R 200 _ _ _ hf)
theorem uX12_nearestToWholes_12 : ∀ w ∈ wsX120, w ∈ wsX12_nearestToWholes := by decide +kernel
set_option maxHeartbeats 4000000 in
set_option maxRecDepth 100000 in
theorem kX12_nearestToWholes_32 (E : zE) (t : zTy) (a : Nat → Nat) (out : Int64 × ST) (C : zC E cX12_nearestToWholes 2 RX12 wsX12_nearestToWholes (zrm 7 162) t) (R : zRl E cX12_nearestToWholes 2 out.1 (MW t a out.2)) : ∀ (x : ST), fX12_nearestToWholes_32 x = some out → zG E 2 0 0 (MW t a x) 32 [(0, .ref (a 0))] [] := by
  intro x hf
  rw [fX12_nearestToWholes_32] at hf
  refine z_aload_n C dX12_nearestToWholes_32 rfl 0 rfl ?_
  obtain ⟨q6, h7, hf⟩ := z_bind hf
  refine z_callVl C (rest := []) (tX12_findNearest (ze_l E) (ze_D E) t a h7) gX12_nearestToWholes_X12_findNearest rfl hdX12_findNearest ⟨(Nat.le_of_ble_eq_true rfl), (Nat.le_of_ble_eq_true rfl)⟩ ⟨Nat.zero_le _, Nat.zero_le _⟩ 0 mw_at_0 rfl rfl rfl (Nat.le_of_ble_eq_true rfl) dX12_nearestToWholes_33 ?_
  cases hf
  exact R _ _ dX12_nearestToWholes_36
set_option maxHeartbeats 4000000 in
set_option maxRecDepth 100000 in
theorem kX12_nearestToWholes_6 (E : zE) (t : zTy) (a : Nat → Nat) (out : Int64 × ST) (C : zC E cX12_nearestToWholes 2 RX12 wsX12_nearestToWholes (zrm 7 162) t) (R : zRl E cX12_nearestToWholes 2 out.1 (MW t a out.2)) : ∀ (n : Nat) (v1 : Int32) (x : ST), fX12_nearestToWholes_6 n v1 x = some out → zG E 2 0 0 (MW t a x) 6 [(0, .ref (a 0)), (1, .int v1)] [] := by
  intro n
  induction n with
  | zero =>
    intro v1 x hf
    cases hf
  | succ n ih =>
    intro v1 x hf
    rw [fX12_nearestToWholes_6] at hf
    refine z_iload_n C dX12_nearestToWholes_6 rfl 1 rfl ?_
    refine z_aload_n C dX12_nearestToWholes_7 rfl 0 rfl ?_
    refine mg_StillStarsModel_parts C uX12_nearestToWholes_12 (by decide +kernel) dX12_nearestToWholes_8 ?_
    refine z_icmp_ge C 32 dX12_nearestToWholes_11 (by decide) (fun c3 => ?_) (fun c3 => ?_)
    · replace hf := z_ift c3 hf
      exact z_sub [0] rfl (kX12_nearestToWholes_32 E t a out C R _ hf)
    · replace hf := z_iff c3 hf
      refine z_aload_n C dX12_nearestToWholes_14 rfl 0 rfl ?_
      refine mg_StillStarsModel_wished C uX12_nearestToWholes_12 (by decide +kernel) dX12_nearestToWholes_15 ?_
      refine z_iload_n C dX12_nearestToWholes_18 rfl 1 rfl ?_
      refine z_aload_n C dX12_nearestToWholes_19 rfl 0 rfl ?_
      refine mg_StillStarsModel_wholes C uX12_nearestToWholes_12 (by decide +kernel) dX12_nearestToWholes_20 ?_
      refine z_iload_n C dX12_nearestToWholes_23 rfl 1 rfl ?_
      obtain ⟨h4, hf⟩ := z_some hf
      refine z_iald C 15 mw_at_15 h4 dX12_nearestToWholes_24 ?_
      obtain ⟨h5, hf⟩ := z_some hf
      refine z_iast C 17 mw_at_17 h5 (w' := MW t a (sA x 17 v1 (gA x 15 v1.toNatClampNeg))) mw_up_17 dX12_nearestToWholes_25 ?_
      refine z_iinc C (v1 + 1) [(1, .int (v1 + 1)), (0, .ref (a 0))] dX12_nearestToWholes_26 1 rfl rfl (by decide) rfl ?_
      refine z_goto C 6 dX12_nearestToWholes_29 (by decide) ?_
      exact z_sub [1, 0] rfl (ih _ _ hf)
theorem hdX12_nearestToWholes : yX12_nearestToWholes.cls = RX12 ∧ yX12_nearestToWholes.cls ≠ "java/lang/invoke/MethodHandle" ∧ yX12_nearestToWholes.cls ≠ "java/lang/invoke/VarHandle" ∧ (parseMethodDescriptor yX12_nearestToWholes.desc).map (fun d => d.parameters.length) = some 0 := by decide +kernel
set_option maxHeartbeats 4000000 in
set_option maxRecDepth 100000 in
theorem tX12_nearestToWholes (l : Launch) (D : va_G) (t : zTy) (a : Nat → Nat)  {x : ST} {out : Int64 × ST} (hf : fX12_nearestToWholes  x = some out) : zMl l yX12_nearestToWholes wsX12_nearestToWholes 7 162 D t [.ref (a 0)] (MW t a x) out.1 (MW t a out.2) := by
  refine z_entry_l (cc := cX12_nearestToWholes) (nL := 2) (by decide) rfl (Nat.le_of_ble_eq_true rfl) (fun E _ _ C R => ?_)
  refine z_sub (lv' := [(0, .ref (a 0))]) [0] rfl ?_
  rw [fX12_nearestToWholes] at hf
  refine z_aload_n C dX12_nearestToWholes_0 rfl 0 rfl ?_
  obtain ⟨q1, h2, hf⟩ := z_bind hf
  refine z_callVv C (rest := []) (tX12_findWholes (ze_l E) (ze_D E) t a h2) gX12_nearestToWholes_X12_findWholes rfl hdX12_findWholes ⟨(Nat.le_of_ble_eq_true rfl), (Nat.le_of_ble_eq_true rfl)⟩ ⟨Nat.zero_le _, Nat.zero_le _⟩ 0 mw_at_0 rfl rfl rfl (Nat.le_of_ble_eq_true rfl) dX12_nearestToWholes_1 ?_
  refine z_iconst C dX12_nearestToWholes_4 0 rfl ?_
  refine z_istore_n C [(1, .int 0), (0, .ref (a 0))] dX12_nearestToWholes_5 rfl (by decide) rfl ?_
  exact z_sub [1, 0] rfl (kX12_nearestToWholes_6 E t a out C R 200 _ _ hf)
theorem uX12_nearest_12 : ∀ w ∈ wsX120, w ∈ wsX12_nearest := by decide +kernel
theorem hdX12_nearest : yX12_nearest.cls = RX12 ∧ yX12_nearest.cls ≠ "java/lang/invoke/MethodHandle" ∧ yX12_nearest.cls ≠ "java/lang/invoke/VarHandle" ∧ (parseMethodDescriptor yX12_nearest.desc).map (fun d => d.parameters.length) = some 1 := by decide +kernel
set_option maxHeartbeats 4000000 in
set_option maxRecDepth 100000 in
theorem tX12_nearest (l : Launch) (D : va_G) (t : zTy) (a : Nat → Nat) {v1 : Int32} {x : ST} {out : Int32 × ST} (hf : fX12_nearest v1 x = some out) : zMi l yX12_nearest wsX12_nearest 8 183 D t [.ref (a 0), .int v1] (MW t a x) out.1 (MW t a out.2) := by
  refine z_entry_i (cc := cX12_nearest) (nL := 2) (by decide) rfl (Nat.le_of_ble_eq_true rfl) (fun E _ _ C R => ?_)
  refine z_sub (lv' := [(0, .ref (a 0)), (1, .int v1)]) [0, 1] rfl ?_
  rw [fX12_nearest] at hf
  refine z_aload_n C dX12_nearest_0 rfl 0 rfl ?_
  refine z_iload_n C dX12_nearest_1 rfl 1 rfl ?_
  obtain ⟨q1, h2, hf⟩ := z_bind hf
  refine z_callVi C (rest := []) (tX12_isPart (ze_l E) (ze_D E) t a h2) gX12_nearest_X12_isPart rfl hdX12_isPart ⟨(Nat.le_of_ble_eq_true rfl), (Nat.le_of_ble_eq_true rfl)⟩ ⟨Nat.zero_le _, Nat.zero_le _⟩ 0 mw_at_0 rfl rfl rfl (Nat.le_of_ble_eq_true rfl) dX12_nearest_2 ?_
  refine z_if_ne C 12 dX12_nearest_5 (by decide) (fun c3 => ?_) (fun c3 => ?_)
  · replace hf := z_iff c3 hf
    refine z_aload_n C dX12_nearest_12 rfl 0 rfl ?_
    obtain ⟨q4, h5, hf⟩ := z_bind hf
    refine z_callVl C (rest := []) (tX12_nearestToWholes (ze_l E) (ze_D E) t a h5) gX12_nearest_X12_nearestToWholes rfl hdX12_nearestToWholes ⟨(Nat.le_of_ble_eq_true rfl), (Nat.le_of_ble_eq_true rfl)⟩ ⟨Nat.zero_le _, Nat.zero_le _⟩ 0 mw_at_0 rfl rfl rfl (Nat.le_of_ble_eq_true rfl) dX12_nearest_13 ?_
    refine z_lconst C dX12_nearest_16 0 rfl ?_
    refine z_lcmp_ge C 25 dX12_nearest_17 dX12_nearest_18 (by decide) (fun c6 => ?_) (fun c6 => ?_)
    · replace hf := z_ift c6 hf
      refine z_aload_n C dX12_nearest_25 rfl 0 rfl ?_
      refine mg_StillStarsModel_row C uX12_nearest_12 (by decide +kernel) dX12_nearest_26 ?_
      refine z_iload_n C dX12_nearest_29 rfl 1 rfl ?_
      obtain ⟨h7, hf⟩ := z_some hf
      refine z_iald C 18 mw_at_18 h7 dX12_nearest_30 ?_
      cases hf
      exact R _ _ dX12_nearest_31
    · replace hf := z_iff c6 hf
      refine z_iconst C dX12_nearest_21 0 rfl ?_
      refine z_goto C 31 dX12_nearest_22 (by decide) ?_
      cases hf
      exact R _ _ dX12_nearest_31
  · replace hf := z_ift c3 hf
    refine z_sipush C dX12_nearest_8 (-10001) rfl ?_
    cases hf
    exact R _ _ dX12_nearest_11
theorem hdX12_off : yX12_off.cls = RX12 ∧ yX12_off.cls ≠ "java/lang/invoke/MethodHandle" ∧ yX12_off.cls ≠ "java/lang/invoke/VarHandle" ∧ (parseMethodDescriptor yX12_off.desc).map (fun d => d.parameters.length) = some 0 := by decide +kernel
set_option maxHeartbeats 4000000 in
set_option maxRecDepth 100000 in
theorem tX12_off (l : Launch) (D : va_G) (t : zTy) (a : Nat → Nat)  {x : ST} {out : Int64 × ST} (hf : fX12_off  x = some out) : zMl l yX12_off wsX12_off 8 183 D t [.ref (a 0)] (MW t a x) out.1 (MW t a out.2) := by
  refine z_entry_l (cc := cX12_off) (nL := 1) (by decide) rfl (Nat.le_of_ble_eq_true rfl) (fun E _ _ C R => ?_)
  refine z_sub (lv' := [(0, .ref (a 0))]) [0] rfl ?_
  rw [fX12_off] at hf
  refine z_aload_n C dX12_off_0 rfl 0 rfl ?_
  obtain ⟨q1, h2, hf⟩ := z_bind hf
  refine z_callVl C (rest := []) (tX12_nearestToWholes (ze_l E) (ze_D E) t a h2) gX12_off_X12_nearestToWholes rfl hdX12_nearestToWholes ⟨(Nat.le_of_ble_eq_true rfl), (Nat.le_of_ble_eq_true rfl)⟩ ⟨Nat.zero_le _, Nat.zero_le _⟩ 0 mw_at_0 rfl rfl rfl (Nat.le_of_ble_eq_true rfl) dX12_off_1 ?_
  cases hf
  exact R _ _ dX12_off_4
theorem uX12_become_12 : ∀ w ∈ wsX120, w ∈ wsX12_become := by decide +kernel
theorem hdX12_become : yX12_become.cls = RX12 ∧ yX12_become.cls ≠ "java/lang/invoke/MethodHandle" ∧ yX12_become.cls ≠ "java/lang/invoke/VarHandle" ∧ (parseMethodDescriptor yX12_become.desc).map (fun d => d.parameters.length) = some 1 := by decide +kernel
set_option maxHeartbeats 4000000 in
set_option maxRecDepth 100000 in
theorem tX12_become (l : Launch) (D : va_G) (t : zTy) (a : Nat → Nat) {v1 : Int32} {x : ST} {out : ST} (hf : fX12_become v1 x = some out) : zMv l yX12_become wsX12_become 0 0 D t [.ref (a 0), .int v1] (MW t a x) (MW t a out) := by
  refine z_entry_v (cc := cX12_become) (nL := 2) (by decide) rfl (Nat.le_of_ble_eq_true rfl) (fun E _ _ C R => ?_)
  refine z_sub (lv' := [(0, .ref (a 0)), (1, .int v1)]) [0, 1] rfl ?_
  rw [fX12_become] at hf
  refine z_aload_n C dX12_become_0 rfl 0 rfl ?_
  refine z_iload_n C dX12_become_1 rfl 1 rfl ?_
  refine mp_StillStarsModel_state C uX12_become_12 (by decide +kernel) dX12_become_2 ?_
  refine z_aload_n C dX12_become_5 rfl 0 rfl ?_
  refine z_iconst C dX12_become_6 0 rfl ?_
  refine mp_StillStarsModel_good C uX12_become_12 (by decide +kernel) dX12_become_7 ?_
  refine z_aload_n C dX12_become_10 rfl 0 rfl ?_
  refine z_iconst C dX12_become_11 0 rfl ?_
  refine mp_StillStarsModel_found C uX12_become_12 (by decide +kernel) dX12_become_12 ?_
  cases hf
  exact R _ _ dX12_become_15
theorem uX12_start_12 : ∀ w ∈ wsX120, w ∈ wsX12_start := by decide +kernel
theorem hdX12_start : yX12_start.cls = RX12 ∧ yX12_start.cls ≠ "java/lang/invoke/MethodHandle" ∧ yX12_start.cls ≠ "java/lang/invoke/VarHandle" ∧ (parseMethodDescriptor yX12_start.desc).map (fun d => d.parameters.length) = some 0 := by decide +kernel
set_option maxHeartbeats 4000000 in
set_option maxRecDepth 100000 in
theorem tX12_start (l : Launch) (D : va_G) (t : zTy) (a : Nat → Nat)  {x : ST} {out : Int32 × ST} (hf : fX12_start  x = some out) : zMi l yX12_start wsX12_start 1 21 D t [.ref (a 0)] (MW t a x) out.1 (MW t a out.2) := by
  refine z_entry_i (cc := cX12_start) (nL := 1) (by decide) rfl (Nat.le_of_ble_eq_true rfl) (fun E _ _ C R => ?_)
  refine z_sub (lv' := [(0, .ref (a 0))]) [0] rfl ?_
  rw [fX12_start] at hf
  refine z_aload_n C dX12_start_0 rfl 0 rfl ?_
  refine mg_StillStarsModel_state C uX12_start_12 (by decide +kernel) dX12_start_1 ?_
  refine z_if_eq C 10 dX12_start_4 (by decide) (fun c1 => ?_) (fun c1 => ?_)
  · replace hf := z_ift c1 hf
    refine z_aload_n C dX12_start_10 rfl 0 rfl ?_
    refine z_iconst C dX12_start_11 1 rfl ?_
    obtain ⟨q2, h3, hf⟩ := z_bind hf
    refine z_callVv C (rest := []) (tX12_become (ze_l E) (ze_D E) t a h3) gX12_start_X12_become rfl hdX12_become ⟨(Nat.le_of_ble_eq_true rfl), (Nat.le_of_ble_eq_true rfl)⟩ ⟨Nat.zero_le _, Nat.zero_le _⟩ 0 mw_at_0 rfl rfl rfl (Nat.le_of_ble_eq_true rfl) dX12_start_12 ?_
    refine z_iconst C dX12_start_15 1 rfl ?_
    cases hf
    exact R _ _ dX12_start_16
  · replace hf := z_iff c1 hf
    refine z_bipush C dX12_start_7 (-2) rfl ?_
    cases hf
    exact R _ _ dX12_start_9
theorem uX12_stop_12 : ∀ w ∈ wsX120, w ∈ wsX12_stop := by decide +kernel
theorem hdX12_stop : yX12_stop.cls = RX12 ∧ yX12_stop.cls ≠ "java/lang/invoke/MethodHandle" ∧ yX12_stop.cls ≠ "java/lang/invoke/VarHandle" ∧ (parseMethodDescriptor yX12_stop.desc).map (fun d => d.parameters.length) = some 0 := by decide +kernel
set_option maxHeartbeats 4000000 in
set_option maxRecDepth 100000 in
theorem tX12_stop (l : Launch) (D : va_G) (t : zTy) (a : Nat → Nat)  {x : ST} {out : Int32 × ST} (hf : fX12_stop  x = some out) : zMi l yX12_stop wsX12_stop 1 21 D t [.ref (a 0)] (MW t a x) out.1 (MW t a out.2) := by
  refine z_entry_i (cc := cX12_stop) (nL := 2) (by decide) rfl (Nat.le_of_ble_eq_true rfl) (fun E _ _ C R => ?_)
  refine z_sub (lv' := [(0, .ref (a 0))]) [0] rfl ?_
  rw [fX12_stop] at hf
  refine z_aload_n C dX12_stop_0 rfl 0 rfl ?_
  refine mg_StillStarsModel_state C uX12_stop_12 (by decide +kernel) dX12_stop_1 ?_
  refine z_istore_n C [(1, .int (gI x 5)), (0, .ref (a 0))] dX12_stop_4 rfl (by decide) rfl ?_
  refine z_aload_n C dX12_stop_5 rfl 1 rfl ?_
  refine z_iconst C dX12_stop_6 0 rfl ?_
  obtain ⟨q1, h2, hf⟩ := z_bind hf
  refine z_callVv C (rest := []) (tX12_become (ze_l E) (ze_D E) t a h2) gX12_stop_X12_become rfl hdX12_become ⟨(Nat.le_of_ble_eq_true rfl), (Nat.le_of_ble_eq_true rfl)⟩ ⟨Nat.zero_le _, Nat.zero_le _⟩ 0 mw_at_0 rfl rfl rfl (Nat.le_of_ble_eq_true rfl) dX12_stop_7 ?_
  refine z_iload_n C dX12_stop_10 rfl 0 rfl ?_
  cases hf
  exact R _ _ dX12_stop_11
theorem uX12_unitsAll_12 : ∀ w ∈ wsX120, w ∈ wsX12_unitsAll := by decide +kernel
set_option maxHeartbeats 4000000 in
set_option maxRecDepth 100000 in
theorem kX12_unitsAll_4 (E : zE) (t : zTy) (a : Nat → Nat) (out : Int32 × ST) (C : zC E cX12_unitsAll 3 RX12 wsX12_unitsAll (zrm 0 0) t) (R : zRi E cX12_unitsAll 3 out.1 (MW t a out.2)) : ∀ (n : Nat) (v1 : Int32) (v2 : Int32) (x : ST), fX12_unitsAll_4 n v1 v2 x = some out → zG E 3 0 0 (MW t a x) 4 [(0, .ref (a 0)), (1, .int v1), (2, .int v2)] [] := by
  intro n
  induction n with
  | zero =>
    intro v1 v2 x hf
    cases hf
  | succ n ih =>
    intro v1 v2 x hf
    rw [fX12_unitsAll_4] at hf
    refine z_iload_n C dX12_unitsAll_4 rfl 2 rfl ?_
    refine z_aload_n C dX12_unitsAll_5 rfl 0 rfl ?_
    refine mg_StillStarsModel_parts C uX12_unitsAll_12 (by decide +kernel) dX12_unitsAll_6 ?_
    refine z_icmp_ge C 27 dX12_unitsAll_9 (by decide) (fun c1 => ?_) (fun c1 => ?_)
    · replace hf := z_ift c1 hf
      refine z_iload_n C dX12_unitsAll_27 rfl 1 rfl ?_
      cases hf
      exact R _ _ dX12_unitsAll_28
    · replace hf := z_iff c1 hf
      refine z_iload_n C dX12_unitsAll_12 rfl 1 rfl ?_
      refine z_aload_n C dX12_unitsAll_13 rfl 0 rfl ?_
      refine mg_StillStarsModel_units C uX12_unitsAll_12 (by decide +kernel) dX12_unitsAll_14 ?_
      refine z_iload_n C dX12_unitsAll_17 rfl 2 rfl ?_
      obtain ⟨h2, hf⟩ := z_some hf
      refine z_iald C 19 mw_at_19 h2 dX12_unitsAll_18 ?_
      refine z_iadd C dX12_unitsAll_19 ?_
      refine z_istore_n C [(1, .int (v1 + (gA x 19 v2.toNatClampNeg))), (0, .ref (a 0)), (2, .int v2)] dX12_unitsAll_20 rfl (by decide) rfl ?_
      refine z_iinc C (v2 + 1) [(2, .int (v2 + 1)), (1, .int (v1 + (gA x 19 v2.toNatClampNeg))), (0, .ref (a 0))] dX12_unitsAll_21 2 rfl rfl (by decide) rfl ?_
      refine z_goto C 4 dX12_unitsAll_24 (by decide) ?_
      exact z_sub [2, 1, 0] rfl (ih _ _ _ hf)
theorem hdX12_unitsAll : yX12_unitsAll.cls = RX12 ∧ yX12_unitsAll.cls ≠ "java/lang/invoke/MethodHandle" ∧ yX12_unitsAll.cls ≠ "java/lang/invoke/VarHandle" ∧ (parseMethodDescriptor yX12_unitsAll.desc).map (fun d => d.parameters.length) = some 0 := by decide +kernel
set_option maxHeartbeats 4000000 in
set_option maxRecDepth 100000 in
theorem tX12_unitsAll (l : Launch) (D : va_G) (t : zTy) (a : Nat → Nat)  {x : ST} {out : Int32 × ST} (hf : fX12_unitsAll  x = some out) : zMi l yX12_unitsAll wsX12_unitsAll 0 0 D t [.ref (a 0)] (MW t a x) out.1 (MW t a out.2) := by
  refine z_entry_i (cc := cX12_unitsAll) (nL := 3) (by decide) rfl (Nat.le_of_ble_eq_true rfl) (fun E _ _ C R => ?_)
  refine z_sub (lv' := [(0, .ref (a 0))]) [0] rfl ?_
  rw [fX12_unitsAll] at hf
  refine z_iconst C dX12_unitsAll_0 0 rfl ?_
  refine z_istore_n C [(1, .int 0), (0, .ref (a 0))] dX12_unitsAll_1 rfl (by decide) rfl ?_
  refine z_iconst C dX12_unitsAll_2 0 rfl ?_
  refine z_istore_n C [(2, .int 0), (1, .int 0), (0, .ref (a 0))] dX12_unitsAll_3 rfl (by decide) rfl ?_
  exact z_sub [2, 1, 0] rfl (kX12_unitsAll_4 E t a out C R 200 _ _ _ hf)
theorem uX12_bendMore_12 : ∀ w ∈ wsX120, w ∈ wsX12_bendMore := by decide +kernel
set_option maxHeartbeats 4000000 in
set_option maxRecDepth 100000 in
theorem kX12_bendMore_60 (E : zE) (t : zTy) (a : Nat → Nat) (out : ST) (C : zC E cX12_bendMore 2 RX12 wsX12_bendMore (zrm 7 162) t) (R : zRv E cX12_bendMore 2 (MW t a out)) : ∀ (n : Nat) (v1 : Int32) (x : ST), fX12_bendMore_60 n v1 x = some out → zG E 2 0 0 (MW t a x) 60 [(0, .ref (a 0)), (1, .int v1)] [] := by
  intro n
  induction n with
  | zero =>
    intro v1 x hf
    cases hf
  | succ n ih =>
    intro v1 x hf
    rw [fX12_bendMore_60] at hf
    refine z_iload_n C dX12_bendMore_60 rfl 1 rfl ?_
    refine z_aload_n C dX12_bendMore_61 rfl 0 rfl ?_
    refine mg_StillStarsModel_parts C uX12_bendMore_12 (by decide +kernel) dX12_bendMore_62 ?_
    refine z_icmp_ge C 86 dX12_bendMore_65 (by decide) (fun c12 => ?_) (fun c12 => ?_)
    · replace hf := z_ift c12 hf
      cases hf
      exact R _ _ dX12_bendMore_86
    · replace hf := z_iff c12 hf
      refine z_aload_n C dX12_bendMore_68 rfl 0 rfl ?_
      refine mg_StillStarsModel_units C uX12_bendMore_12 (by decide +kernel) dX12_bendMore_69 ?_
      refine z_iload_n C dX12_bendMore_72 rfl 1 rfl ?_
      refine z_aload_n C dX12_bendMore_73 rfl 0 rfl ?_
      refine mg_StillStarsModel_row C uX12_bendMore_12 (by decide +kernel) dX12_bendMore_74 ?_
      refine z_iload_n C dX12_bendMore_77 rfl 1 rfl ?_
      obtain ⟨h13, hf⟩ := z_some hf
      refine z_iald C 18 mw_at_18 h13 dX12_bendMore_78 ?_
      obtain ⟨h14, hf⟩ := z_some hf
      refine z_iast C 19 mw_at_19 h14 (w' := MW t a (sA x 19 v1 (gA x 18 v1.toNatClampNeg))) mw_up_19 dX12_bendMore_79 ?_
      refine z_iinc C (v1 + 1) [(1, .int (v1 + 1)), (0, .ref (a 0))] dX12_bendMore_80 1 rfl rfl (by decide) rfl ?_
      refine z_goto C 60 dX12_bendMore_83 (by decide) ?_
      exact z_sub [1, 0] rfl (ih _ _ hf)
set_option maxHeartbeats 4000000 in
set_option maxRecDepth 100000 in
theorem kX12_bendMore_49 (E : zE) (t : zTy) (a : Nat → Nat) (out : ST) (C : zC E cX12_bendMore 2 RX12 wsX12_bendMore (zrm 7 162) t) (R : zRv E cX12_bendMore 2 (MW t a out)) : ∀ (x : ST), fX12_bendMore_49 x = some out → zG E 2 0 0 (MW t a x) 49 [(0, .ref (a 0))] [] := by
  intro x hf
  rw [fX12_bendMore_49] at hf
  refine z_aload_n C dX12_bendMore_49 rfl 0 rfl ?_
  obtain ⟨q9, h10, hf⟩ := z_bind hf
  refine z_callVl C (rest := []) (tX12_findNearest (ze_l E) (ze_D E) t a h10) gX12_bendMore_X12_findNearest rfl hdX12_findNearest ⟨(Nat.le_of_ble_eq_true rfl), (Nat.le_of_ble_eq_true rfl)⟩ ⟨Nat.zero_le _, Nat.zero_le _⟩ 0 mw_at_0 rfl rfl rfl (Nat.le_of_ble_eq_true rfl) dX12_bendMore_50 ?_
  refine z_lconst C dX12_bendMore_53 0 rfl ?_
  refine z_lcmp_lt C 86 dX12_bendMore_54 dX12_bendMore_55 (by decide) (fun c11 => ?_) (fun c11 => ?_)
  · replace hf := z_ift c11 hf
    cases hf
    exact R _ _ dX12_bendMore_86
  · replace hf := z_iff c11 hf
    refine z_iconst C dX12_bendMore_58 0 rfl ?_
    refine z_istore_n C [(1, .int 0), (0, .ref (a 0))] dX12_bendMore_59 rfl (by decide) rfl ?_
    exact z_sub [1, 0] rfl (kX12_bendMore_60 E t a out C R 200 _ _ hf)
set_option maxHeartbeats 4000000 in
set_option maxRecDepth 100000 in
theorem kX12_bendMore_6 (E : zE) (t : zTy) (a : Nat → Nat) (out : ST) (C : zC E cX12_bendMore 2 RX12 wsX12_bendMore (zrm 7 162) t) (R : zRv E cX12_bendMore 2 (MW t a out)) : ∀ (n : Nat) (v1 : Int32) (x : ST), fX12_bendMore_6 n v1 x = some out → zG E 2 0 0 (MW t a x) 6 [(0, .ref (a 0)), (1, .int v1)] [] := by
  intro n
  induction n with
  | zero =>
    intro v1 x hf
    cases hf
  | succ n ih =>
    intro v1 x hf
    rw [fX12_bendMore_6] at hf
    refine z_iload_n C dX12_bendMore_6 rfl 1 rfl ?_
    refine z_aload_n C dX12_bendMore_7 rfl 0 rfl ?_
    refine mg_StillStarsModel_parts C uX12_bendMore_12 (by decide +kernel) dX12_bendMore_8 ?_
    refine z_icmp_ge C 49 dX12_bendMore_11 (by decide) (fun c3 => ?_) (fun c3 => ?_)
    · replace hf := z_ift c3 hf
      exact z_sub [0] rfl (kX12_bendMore_49 E t a out C R _ hf)
    · replace hf := z_iff c3 hf
      refine z_aload_n C dX12_bendMore_14 rfl 0 rfl ?_
      refine mg_StillStarsModel_wished C uX12_bendMore_12 (by decide +kernel) dX12_bendMore_15 ?_
      refine z_iload_n C dX12_bendMore_18 rfl 1 rfl ?_
      refine z_aload_n C dX12_bendMore_19 rfl 0 rfl ?_
      refine mg_StillStarsModel_units C uX12_bendMore_12 (by decide +kernel) dX12_bendMore_20 ?_
      refine z_iload_n C dX12_bendMore_23 rfl 1 rfl ?_
      obtain ⟨h4, hf⟩ := z_some hf
      refine z_iald C 19 mw_at_19 h4 dX12_bendMore_24 ?_
      refine z_aload_n C dX12_bendMore_25 rfl 0 rfl ?_
      refine mg_StillStarsModel_sets C uX12_bendMore_12 (by decide +kernel) dX12_bendMore_26 ?_
      refine z_iconst C dX12_bendMore_29 3 rfl ?_
      obtain ⟨h5, hf⟩ := z_some hf
      refine z_iald C 4 mw_at_4 h5 dX12_bendMore_30 ?_
      refine z_aload_n C dX12_bendMore_31 rfl 0 rfl ?_
      refine mg_StillStarsModel_wholes C uX12_bendMore_12 (by decide +kernel) dX12_bendMore_32 ?_
      refine z_iload_n C dX12_bendMore_35 rfl 1 rfl ?_
      obtain ⟨h6, hf⟩ := z_some hf
      refine z_iald C 15 mw_at_15 h6 dX12_bendMore_36 ?_
      refine z_imul C dX12_bendMore_37 ?_
      refine z_bipush C dX12_bendMore_38 100 rfl ?_
      obtain ⟨h7, hf⟩ := z_div hf
      refine z_idiv C h7 dX12_bendMore_40 ?_
      refine z_isub C dX12_bendMore_41 ?_
      obtain ⟨h8, hf⟩ := z_some hf
      refine z_iast C 17 mw_at_17 h8 (w' := MW t a (sA x 17 v1 ((gA x 19 v1.toNatClampNeg) - (((gA x 4 (3 : Int32).toNatClampNeg) * (gA x 15 v1.toNatClampNeg)) / 100)))) mw_up_17 dX12_bendMore_42 ?_
      refine z_iinc C (v1 + 1) [(1, .int (v1 + 1)), (0, .ref (a 0))] dX12_bendMore_43 1 rfl rfl (by decide) rfl ?_
      refine z_goto C 6 dX12_bendMore_46 (by decide) ?_
      exact z_sub [1, 0] rfl (ih _ _ hf)
theorem hdX12_bendMore : yX12_bendMore.cls = RX12 ∧ yX12_bendMore.cls ≠ "java/lang/invoke/MethodHandle" ∧ yX12_bendMore.cls ≠ "java/lang/invoke/VarHandle" ∧ (parseMethodDescriptor yX12_bendMore.desc).map (fun d => d.parameters.length) = some 0 := by decide +kernel
set_option maxHeartbeats 4000000 in
set_option maxRecDepth 100000 in
theorem tX12_bendMore (l : Launch) (D : va_G) (t : zTy) (a : Nat → Nat)  {x : ST} {out : ST} (hf : fX12_bendMore  x = some out) : zMv l yX12_bendMore wsX12_bendMore 7 162 D t [.ref (a 0)] (MW t a x) (MW t a out) := by
  refine z_entry_v (cc := cX12_bendMore) (nL := 2) (by decide) rfl (Nat.le_of_ble_eq_true rfl) (fun E _ _ C R => ?_)
  refine z_sub (lv' := [(0, .ref (a 0))]) [0] rfl ?_
  rw [fX12_bendMore] at hf
  refine z_aload_n C dX12_bendMore_0 rfl 0 rfl ?_
  obtain ⟨q1, h2, hf⟩ := z_bind hf
  refine z_callVv C (rest := []) (tX12_findWholes (ze_l E) (ze_D E) t a h2) gX12_bendMore_X12_findWholes rfl hdX12_findWholes ⟨(Nat.le_of_ble_eq_true rfl), (Nat.le_of_ble_eq_true rfl)⟩ ⟨Nat.zero_le _, Nat.zero_le _⟩ 0 mw_at_0 rfl rfl rfl (Nat.le_of_ble_eq_true rfl) dX12_bendMore_1 ?_
  refine z_iconst C dX12_bendMore_4 0 rfl ?_
  refine z_istore_n C [(1, .int 0), (0, .ref (a 0))] dX12_bendMore_5 rfl (by decide) rfl ?_
  exact z_sub [1, 0] rfl (kX12_bendMore_6 E t a out C R 200 _ _ hf)
theorem uX12_frame_12 : ∀ w ∈ wsX120, w ∈ wsX12_frame := by decide +kernel
set_option maxHeartbeats 4000000 in
set_option maxRecDepth 100000 in
theorem kX12_frame_26 (E : zE) (t : zTy) (a : Nat → Nat) (out : ST) (C : zC E cX12_frame 4 RX12 wsX12_frame (zrm 8 183) t) (R : zRv E cX12_frame 4 (MW t a out)) (kb4 : Int32 → Int32 → ST → Option (ST)) (Kb4 : ∀ (v1 : Int32) (v2 : Int32) (x : ST), kb4 v1 v2 x = some out → zG E 4 0 0 (MW t a x) 4 [(0, .ref (a 0)), (1, .int v1), (2, .int v2)] []) : ∀ (v2 : Int32) (s0 : Int32) (s1 : Int32) (x : ST), fX12_frame_26 kb4 v2 s0 s1 x = some out → zG E 4 0 0 (MW t a x) 26 [(0, .ref (a 0)), (2, .int v2)] [.int s0, .int s1] := by
  intro v2 s0 s1 x hf
  rw [fX12_frame_26] at hf
  refine z_iadd C dX12_frame_26 ?_
  refine z_istore_n C [(1, .int (s1 + s0)), (0, .ref (a 0)), (2, .int v2)] dX12_frame_27 rfl (by decide) rfl ?_
  refine z_iinc C (v2 + 1) [(2, .int (v2 + 1)), (1, .int (s1 + s0)), (0, .ref (a 0))] dX12_frame_28 2 rfl rfl (by decide) rfl ?_
  refine z_goto C 4 dX12_frame_31 (by decide) ?_
  exact z_sub [2, 1, 0] rfl (Kb4 _ _ _ hf)
set_option maxHeartbeats 4000000 in
set_option maxRecDepth 100000 in
theorem kX12_frame_187 (E : zE) (t : zTy) (a : Nat → Nat) (out : ST) (C : zC E cX12_frame 4 RX12 wsX12_frame (zrm 8 183) t) (R : zRv E cX12_frame 4 (MW t a out)) : ∀ (v1 : Int32) (x : ST), fX12_frame_187 v1 x = some out → zG E 4 0 0 (MW t a x) 187 [(0, .ref (a 0)), (1, .int v1)] [] := by
  intro v1 x hf
  rw [fX12_frame_187] at hf
  refine z_aload_n C dX12_frame_187 rfl 0 rfl ?_
  refine mg_StillStarsModel_framesDone C uX12_frame_12 (by decide +kernel) dX12_frame_188 ?_
  refine z_bipush C dX12_frame_191 30 rfl ?_
  obtain ⟨h25, hf⟩ := z_div hf
  refine z_irem C h25 dX12_frame_193 ?_
  refine z_istore_n C [(3, .int ((gI x 8) - (gI x 8) / 30 * 30)), (0, .ref (a 0)), (1, .int v1)] dX12_frame_194 rfl (by decide) rfl ?_
  refine z_aload_n C dX12_frame_195 rfl 1 rfl ?_
  refine mg_StillStarsModel_logStates C uX12_frame_12 (by decide +kernel) dX12_frame_196 ?_
  refine z_iload_n C dX12_frame_199 rfl 0 rfl ?_
  refine z_aload_n C dX12_frame_200 rfl 1 rfl ?_
  refine mg_StillStarsModel_state C uX12_frame_12 (by decide +kernel) dX12_frame_201 ?_
  obtain ⟨h26, hf⟩ := z_some hf
  refine z_iast C 20 mw_at_20 h26 (w' := MW t a (sA x 20 ((gI x 8) - (gI x 8) / 30 * 30) (gI x 5))) mw_up_20 dX12_frame_204 ?_
  refine z_aload_n C dX12_frame_205 rfl 1 rfl ?_
  refine mg_StillStarsModel_logLost C uX12_frame_12 (by decide +kernel) dX12_frame_206 ?_
  refine z_iload_n C dX12_frame_209 rfl 0 rfl ?_
  refine z_iload_n C dX12_frame_210 rfl 2 rfl ?_
  obtain ⟨h27, hf⟩ := z_some hf
  refine z_iast C 21 mw_at_21 h27 (w' := MW t a (sA (sA x 20 ((gI x 8) - (gI x 8) / 30 * 30) (gI x 5)) 21 ((gI x 8) - (gI x 8) / 30 * 30) v1)) mw_up_21 dX12_frame_211 ?_
  refine z_aload_n C dX12_frame_212 rfl 1 rfl ?_
  refine mg_StillStarsModel_logSums C uX12_frame_12 (by decide +kernel) dX12_frame_213 ?_
  refine z_iload_n C dX12_frame_216 rfl 0 rfl ?_
  refine z_aload_n C dX12_frame_217 rfl 1 rfl ?_
  obtain ⟨q28, h29, hf⟩ := z_bind hf
  refine z_callVi C (rest := [.int ((gI x 8) - (gI x 8) / 30 * 30), .ref (a 22)]) (tX12_unitsAll (ze_l E) (ze_D E) t a h29) gX12_frame_X12_unitsAll rfl hdX12_unitsAll ⟨(Nat.le_of_ble_eq_true rfl), (Nat.le_of_ble_eq_true rfl)⟩ ⟨Nat.zero_le _, Nat.zero_le _⟩ 0 mw_at_0 rfl rfl rfl (Nat.le_of_ble_eq_true rfl) dX12_frame_218 ?_
  obtain ⟨h30, hf⟩ := z_some hf
  refine z_iast C 22 mw_at_22 h30 (w' := MW t a (sA q28.2 22 ((gI x 8) - (gI x 8) / 30 * 30) q28.1)) mw_up_22 dX12_frame_221 ?_
  refine z_aload_n C dX12_frame_222 rfl 1 rfl ?_
  refine z_dup C dX12_frame_223 rfl ?_
  refine mg_StillStarsModel_framesDone C uX12_frame_12 (by decide +kernel) dX12_frame_224 ?_
  refine z_iconst C dX12_frame_227 1 rfl ?_
  refine z_iadd C dX12_frame_228 ?_
  refine mp_StillStarsModel_framesDone C uX12_frame_12 (by decide +kernel) dX12_frame_229 ?_
  cases hf
  exact R _ _ dX12_frame_232
set_option maxHeartbeats 4000000 in
set_option maxRecDepth 100000 in
theorem kX12_frame_169 (E : zE) (t : zTy) (a : Nat → Nat) (out : ST) (C : zC E cX12_frame 4 RX12 wsX12_frame (zrm 8 183) t) (R : zRv E cX12_frame 4 (MW t a out)) : ∀ (n : Nat) (v1 : Int32) (v3 : Int32) (x : ST), fX12_frame_169 n v1 v3 x = some out → zG E 4 0 0 (MW t a x) 169 [(0, .ref (a 0)), (1, .int v1), (3, .int v3)] [] := by
  intro n
  induction n with
  | zero =>
    intro v1 v3 x hf
    cases hf
  | succ n ih =>
    intro v1 v3 x hf
    rw [fX12_frame_169] at hf
    refine z_iload_n C dX12_frame_169 rfl 2 rfl ?_
    refine z_iconst C dX12_frame_170 5 rfl ?_
    refine z_icmp_ge C 187 dX12_frame_171 (by decide) (fun c31 => ?_) (fun c31 => ?_)
    · replace hf := z_ift c31 hf
      exact z_sub [0, 1] rfl (kX12_frame_187 E t a out C R _ _ hf)
    · replace hf := z_iff c31 hf
      refine z_aload_n C dX12_frame_174 rfl 0 rfl ?_
      refine mg_StillStarsModel_units C uX12_frame_12 (by decide +kernel) dX12_frame_175 ?_
      refine z_iload_n C dX12_frame_178 rfl 2 rfl ?_
      refine z_iconst C dX12_frame_179 0 rfl ?_
      obtain ⟨h32, hf⟩ := z_some hf
      refine z_iast C 19 mw_at_19 h32 (w' := MW t a (sA x 19 v3 0)) mw_up_19 dX12_frame_180 ?_
      refine z_iinc C (v3 + 1) [(3, .int (v3 + 1)), (0, .ref (a 0)), (1, .int v1)] dX12_frame_181 2 rfl rfl (by decide) rfl ?_
      refine z_goto C 169 dX12_frame_184 (by decide) ?_
      exact z_sub [1, 2, 0] rfl (ih _ _ _ hf)
set_option maxHeartbeats 4000000 in
set_option maxRecDepth 100000 in
theorem kX12_frame_65 (E : zE) (t : zTy) (a : Nat → Nat) (out : ST) (C : zC E cX12_frame 4 RX12 wsX12_frame (zrm 8 183) t) (R : zRv E cX12_frame 4 (MW t a out)) : ∀ (v1 : Int32) (v2 : Int32) (s0 : Int32) (x : ST), fX12_frame_65 v1 v2 s0 x = some out → zG E 4 0 0 (MW t a x) 65 [(0, .ref (a 0)), (1, .int v1), (2, .int v2)] [.int s0, .ref (a 0)] := by
  intro v1 v2 s0 x hf
  rw [fX12_frame_65] at hf
  refine mp_StillStarsModel_good C uX12_frame_12 (by decide +kernel) dX12_frame_65 ?_
  refine z_aload_n C dX12_frame_68 rfl 0 rfl ?_
  refine z_dup C dX12_frame_69 rfl ?_
  refine mg_StillStarsModel_found C uX12_frame_12 (by decide +kernel) dX12_frame_70 ?_
  refine z_iconst C dX12_frame_73 1 rfl ?_
  refine z_iadd C dX12_frame_74 ?_
  refine mp_StillStarsModel_found C uX12_frame_12 (by decide +kernel) dX12_frame_75 ?_
  refine z_aload_n C dX12_frame_78 rfl 0 rfl ?_
  refine mg_StillStarsModel_state C uX12_frame_12 (by decide +kernel) dX12_frame_79 ?_
  refine z_iconst C dX12_frame_82 1 rfl ?_
  refine z_icmp_ne C 102 dX12_frame_83 (by decide) (fun c8 => ?_) (fun c8 => ?_)
  · replace hf := z_iff c8 hf
    refine z_aload_n C dX12_frame_102 rfl 0 rfl ?_
    refine mg_StillStarsModel_state C uX12_frame_12 (by decide +kernel) dX12_frame_103 ?_
    refine z_iconst C dX12_frame_106 2 rfl ?_
    refine z_icmp_ne C 129 dX12_frame_107 (by decide) (fun c9 => ?_) (fun c9 => ?_)
    · replace hf := z_iff c9 hf
      refine z_aload_n C dX12_frame_129 rfl 0 rfl ?_
      refine mg_StillStarsModel_state C uX12_frame_12 (by decide +kernel) dX12_frame_130 ?_
      refine z_iconst C dX12_frame_133 3 rfl ?_
      refine z_icmp_ne C 187 dX12_frame_134 (by decide) (fun c10 => ?_) (fun c10 => ?_)
      · replace hf := z_iff c10 hf
        exact z_sub [0, 1] rfl (kX12_frame_187 E t a out C R _ _ hf)
      · replace hf := z_ift c10 hf
        refine z_aload_n C dX12_frame_137 rfl 0 rfl ?_
        refine mg_StillStarsModel_good C uX12_frame_12 (by decide +kernel) dX12_frame_138 ?_
        refine z_iconst C dX12_frame_141 5 rfl ?_
        refine z_icmp_ne C 153 dX12_frame_142 (by decide) (fun c11 => ?_) (fun c11 => ?_)
        · replace hf := z_iff c11 hf
          refine z_aload_n C dX12_frame_153 rfl 0 rfl ?_
          refine mg_StillStarsModel_found C uX12_frame_12 (by decide +kernel) dX12_frame_154 ?_
          refine z_bipush C dX12_frame_157 20 rfl ?_
          refine z_icmp_ne C 187 dX12_frame_159 (by decide) (fun c12 => ?_) (fun c12 => ?_)
          · replace hf := z_iff c12 hf
            exact z_sub [0, 1] rfl (kX12_frame_187 E t a out C R _ _ hf)
          · replace hf := z_ift c12 hf
            refine z_aload_n C dX12_frame_162 rfl 0 rfl ?_
            refine z_iconst C dX12_frame_163 0 rfl ?_
            obtain ⟨q13, h14, hf⟩ := z_bind hf
            refine z_callVv C (rest := []) (tX12_become (ze_l E) (ze_D E) t a h14) gX12_frame_X12_become rfl hdX12_become ⟨(Nat.le_of_ble_eq_true rfl), (Nat.le_of_ble_eq_true rfl)⟩ ⟨Nat.zero_le _, Nat.zero_le _⟩ 0 mw_at_0 rfl rfl rfl (Nat.le_of_ble_eq_true rfl) dX12_frame_164 ?_
            refine z_iconst C dX12_frame_167 0 rfl ?_
            refine z_istore_n C [(3, .int 0), (0, .ref (a 0)), (1, .int v1), (2, .int v2)] dX12_frame_168 rfl (by decide) rfl ?_
            exact z_sub [1, 2, 0] rfl (kX12_frame_169 E t a out C R 200 _ _ _ hf)
        · replace hf := z_ift c11 hf
          refine z_aload_n C dX12_frame_145 rfl 0 rfl ?_
          refine z_iconst C dX12_frame_146 2 rfl ?_
          obtain ⟨q15, h16, hf⟩ := z_bind hf
          refine z_callVv C (rest := []) (tX12_become (ze_l E) (ze_D E) t a h16) gX12_frame_X12_become rfl hdX12_become ⟨(Nat.le_of_ble_eq_true rfl), (Nat.le_of_ble_eq_true rfl)⟩ ⟨Nat.zero_le _, Nat.zero_le _⟩ 0 mw_at_0 rfl rfl rfl (Nat.le_of_ble_eq_true rfl) dX12_frame_147 ?_
          refine z_goto C 187 dX12_frame_150 (by decide) ?_
          exact z_sub [0, 1] rfl (kX12_frame_187 E t a out C R _ _ hf)
    · replace hf := z_ift c9 hf
      refine z_iload_n C dX12_frame_110 rfl 2 rfl ?_
      refine z_if_eq C 121 dX12_frame_111 (by decide) (fun c17 => ?_) (fun c17 => ?_)
      · replace hf := z_ift c17 hf
        refine z_aload_n C dX12_frame_121 rfl 0 rfl ?_
        refine z_iconst C dX12_frame_122 3 rfl ?_
        obtain ⟨q18, h19, hf⟩ := z_bind hf
        refine z_callVv C (rest := []) (tX12_become (ze_l E) (ze_D E) t a h19) gX12_frame_X12_become rfl hdX12_become ⟨(Nat.le_of_ble_eq_true rfl), (Nat.le_of_ble_eq_true rfl)⟩ ⟨Nat.zero_le _, Nat.zero_le _⟩ 0 mw_at_0 rfl rfl rfl (Nat.le_of_ble_eq_true rfl) dX12_frame_123 ?_
        refine z_goto C 187 dX12_frame_126 (by decide) ?_
        exact z_sub [0, 1] rfl (kX12_frame_187 E t a out C R _ _ hf)
      · replace hf := z_iff c17 hf
        refine z_aload_n C dX12_frame_114 rfl 0 rfl ?_
        obtain ⟨q20, h21, hf⟩ := z_bind hf
        refine z_callVv C (rest := []) (tX12_bendMore (ze_l E) (ze_D E) t a h21) gX12_frame_X12_bendMore rfl hdX12_bendMore ⟨(Nat.le_of_ble_eq_true rfl), (Nat.le_of_ble_eq_true rfl)⟩ ⟨Nat.zero_le _, Nat.zero_le _⟩ 0 mw_at_0 rfl rfl rfl (Nat.le_of_ble_eq_true rfl) dX12_frame_115 ?_
        refine z_goto C 187 dX12_frame_118 (by decide) ?_
        exact z_sub [0, 1] rfl (kX12_frame_187 E t a out C R _ _ hf)
  · replace hf := z_ift c8 hf
    refine z_aload_n C dX12_frame_86 rfl 0 rfl ?_
    refine mg_StillStarsModel_good C uX12_frame_12 (by decide +kernel) dX12_frame_87 ?_
    refine z_iconst C dX12_frame_90 3 rfl ?_
    refine z_icmp_ne C 187 dX12_frame_91 (by decide) (fun c22 => ?_) (fun c22 => ?_)
    · replace hf := z_iff c22 hf
      exact z_sub [0, 1] rfl (kX12_frame_187 E t a out C R _ _ hf)
    · replace hf := z_ift c22 hf
      refine z_aload_n C dX12_frame_94 rfl 0 rfl ?_
      refine z_iconst C dX12_frame_95 2 rfl ?_
      obtain ⟨q23, h24, hf⟩ := z_bind hf
      refine z_callVv C (rest := []) (tX12_become (ze_l E) (ze_D E) t a h24) gX12_frame_X12_become rfl hdX12_become ⟨(Nat.le_of_ble_eq_true rfl), (Nat.le_of_ble_eq_true rfl)⟩ ⟨Nat.zero_le _, Nat.zero_le _⟩ 0 mw_at_0 rfl rfl rfl (Nat.le_of_ble_eq_true rfl) dX12_frame_96 ?_
      refine z_goto C 187 dX12_frame_99 (by decide) ?_
      exact z_sub [0, 1] rfl (kX12_frame_187 E t a out C R _ _ hf)
set_option maxHeartbeats 4000000 in
set_option maxRecDepth 100000 in
theorem kX12_frame_49 (E : zE) (t : zTy) (a : Nat → Nat) (out : ST) (C : zC E cX12_frame 4 RX12 wsX12_frame (zrm 8 183) t) (R : zRv E cX12_frame 4 (MW t a out)) : ∀ (v1 : Int32) (s0 : Int32) (x : ST), fX12_frame_49 v1 s0 x = some out → zG E 4 0 0 (MW t a x) 49 [(0, .ref (a 0)), (1, .int v1)] [.int s0] := by
  intro v1 s0 x hf
  rw [fX12_frame_49] at hf
  refine z_istore_n C [(2, .int s0), (0, .ref (a 0)), (1, .int v1)] dX12_frame_49 rfl (by decide) rfl ?_
  refine z_aload_n C dX12_frame_50 rfl 1 rfl ?_
  refine z_iload_n C dX12_frame_51 rfl 0 rfl ?_
  refine z_if_eq C 64 dX12_frame_52 (by decide) (fun c7 => ?_) (fun c7 => ?_)
  · replace hf := z_ift c7 hf
    refine z_iconst C dX12_frame_64 0 rfl ?_
    exact z_sub [1, 2, 0] rfl (kX12_frame_65 E t a out C R _ _ _ _ hf)
  · replace hf := z_iff c7 hf
    refine z_aload_n C dX12_frame_55 rfl 1 rfl ?_
    refine mg_StillStarsModel_good C uX12_frame_12 (by decide +kernel) dX12_frame_56 ?_
    refine z_iconst C dX12_frame_59 1 rfl ?_
    refine z_iadd C dX12_frame_60 ?_
    refine z_goto C 65 dX12_frame_61 (by decide) ?_
    exact z_sub [1, 2, 0] rfl (kX12_frame_65 E t a out C R _ _ _ _ hf)
set_option maxHeartbeats 4000000 in
set_option maxRecDepth 100000 in
theorem kX12_frame_34 (E : zE) (t : zTy) (a : Nat → Nat) (out : ST) (C : zC E cX12_frame 4 RX12 wsX12_frame (zrm 8 183) t) (R : zRv E cX12_frame 4 (MW t a out)) : ∀ (v1 : Int32) (x : ST), fX12_frame_34 v1 x = some out → zG E 4 0 0 (MW t a x) 34 [(0, .ref (a 0)), (1, .int v1)] [] := by
  intro v1 x hf
  rw [fX12_frame_34] at hf
  refine z_iload_n C dX12_frame_34 rfl 1 rfl ?_
  refine z_aload_n C dX12_frame_35 rfl 0 rfl ?_
  refine mg_StillStarsModel_sets C uX12_frame_12 (by decide +kernel) dX12_frame_36 ?_
  refine z_iconst C dX12_frame_39 2 rfl ?_
  obtain ⟨h5, hf⟩ := z_some hf
  refine z_iald C 4 mw_at_4 h5 dX12_frame_40 ?_
  refine z_icmp_gt C 48 dX12_frame_41 (by decide) (fun c6 => ?_) (fun c6 => ?_)
  · replace hf := z_ift c6 hf
    refine z_iconst C dX12_frame_48 0 rfl ?_
    exact z_sub [0, 1] rfl (kX12_frame_49 E t a out C R _ _ _ hf)
  · replace hf := z_iff c6 hf
    refine z_iconst C dX12_frame_44 1 rfl ?_
    refine z_goto C 49 dX12_frame_45 (by decide) ?_
    exact z_sub [0, 1] rfl (kX12_frame_49 E t a out C R _ _ _ hf)
set_option maxHeartbeats 4000000 in
set_option maxRecDepth 100000 in
theorem kX12_frame_4 (E : zE) (t : zTy) (a : Nat → Nat) (out : ST) (C : zC E cX12_frame 4 RX12 wsX12_frame (zrm 8 183) t) (R : zRv E cX12_frame 4 (MW t a out)) : ∀ (n : Nat) (v1 : Int32) (v2 : Int32) (x : ST), fX12_frame_4 n v1 v2 x = some out → zG E 4 0 0 (MW t a x) 4 [(0, .ref (a 0)), (1, .int v1), (2, .int v2)] [] := by
  intro n
  induction n with
  | zero =>
    intro v1 v2 x hf
    cases hf
  | succ n ih =>
    intro v1 v2 x hf
    rw [fX12_frame_4] at hf
    refine z_iload_n C dX12_frame_4 rfl 2 rfl ?_
    refine z_aload_n C dX12_frame_5 rfl 0 rfl ?_
    refine mg_StillStarsModel_spots C uX12_frame_12 (by decide +kernel) dX12_frame_6 ?_
    refine z_icmp_ge C 34 dX12_frame_9 (by decide) (fun c1 => ?_) (fun c1 => ?_)
    · replace hf := z_ift c1 hf
      exact z_sub [0, 1] rfl (kX12_frame_34 E t a out C R _ _ hf)
    · replace hf := z_iff c1 hf
      refine z_iload_n C dX12_frame_12 rfl 1 rfl ?_
      refine z_aload_n C dX12_frame_13 rfl 0 rfl ?_
      refine z_iload_n C dX12_frame_14 rfl 2 rfl ?_
      obtain ⟨q2, h3, hf⟩ := z_bind hf
      refine z_callVi C (rest := [.int v1]) (tX12_isLost (ze_l E) (ze_D E) t a h3) gX12_frame_X12_isLost rfl hdX12_isLost ⟨(Nat.le_of_ble_eq_true rfl), (Nat.le_of_ble_eq_true rfl)⟩ ⟨Nat.zero_le _, Nat.zero_le _⟩ 0 mw_at_0 rfl rfl rfl (Nat.le_of_ble_eq_true rfl) dX12_frame_15 ?_
      refine z_if_eq C 25 dX12_frame_18 (by decide) (fun c4 => ?_) (fun c4 => ?_)
      · replace hf := z_ift c4 hf
        refine z_iconst C dX12_frame_25 0 rfl ?_
        exact z_sub [0, 2] rfl (kX12_frame_26 E t a out C R (fX12_frame_4 n) (ih) _ _ _ _ hf)
      · replace hf := z_iff c4 hf
        refine z_iconst C dX12_frame_21 1 rfl ?_
        refine z_goto C 26 dX12_frame_22 (by decide) ?_
        exact z_sub [0, 2] rfl (kX12_frame_26 E t a out C R (fX12_frame_4 n) (ih) _ _ _ _ hf)
theorem hdX12_frame : yX12_frame.cls = RX12 ∧ yX12_frame.cls ≠ "java/lang/invoke/MethodHandle" ∧ yX12_frame.cls ≠ "java/lang/invoke/VarHandle" ∧ (parseMethodDescriptor yX12_frame.desc).map (fun d => d.parameters.length) = some 0 := by decide +kernel
set_option maxHeartbeats 4000000 in
set_option maxRecDepth 100000 in
theorem tX12_frame (l : Launch) (D : va_G) (t : zTy) (a : Nat → Nat)  {x : ST} {out : ST} (hf : fX12_frame  x = some out) : zMv l yX12_frame wsX12_frame 8 183 D t [.ref (a 0)] (MW t a x) (MW t a out) := by
  refine z_entry_v (cc := cX12_frame) (nL := 4) (by decide) rfl (Nat.le_of_ble_eq_true rfl) (fun E _ _ C R => ?_)
  refine z_sub (lv' := [(0, .ref (a 0))]) [0] rfl ?_
  rw [fX12_frame] at hf
  refine z_iconst C dX12_frame_0 0 rfl ?_
  refine z_istore_n C [(1, .int 0), (0, .ref (a 0))] dX12_frame_1 rfl (by decide) rfl ?_
  refine z_iconst C dX12_frame_2 0 rfl ?_
  refine z_istore_n C [(2, .int 0), (1, .int 0), (0, .ref (a 0))] dX12_frame_3 rfl (by decide) rfl ?_
  exact z_sub [2, 1, 0] rfl (kX12_frame_4 E t a out C R 200 _ _ _ hf)
theorem uX12_frames_12 : ∀ w ∈ wsX120, w ∈ wsX12_frames := by decide +kernel
set_option maxHeartbeats 4000000 in
set_option maxRecDepth 100000 in
theorem kX12_frames_16 (E : zE) (t : zTy) (a : Nat → Nat) (out : Int32 × ST) (C : zC E cX12_frames 3 RX12 wsX12_frames (zrm 9 206) t) (R : zRi E cX12_frames 3 out.1 (MW t a out.2)) : ∀ (n : Nat) (v1 : Int32) (v2 : Int32) (x : ST), fX12_frames_16 n v1 v2 x = some out → zG E 3 0 0 (MW t a x) 16 [(0, .ref (a 0)), (1, .int v1), (2, .int v2)] [] := by
  intro n
  induction n with
  | zero =>
    intro v1 v2 x hf
    cases hf
  | succ n ih =>
    intro v1 v2 x hf
    rw [fX12_frames_16] at hf
    refine z_iload_n C dX12_frames_16 rfl 2 rfl ?_
    refine z_iload_n C dX12_frames_17 rfl 1 rfl ?_
    refine z_icmp_ge C 31 dX12_frames_18 (by decide) (fun c4 => ?_) (fun c4 => ?_)
    · replace hf := z_ift c4 hf
      refine z_aload_n C dX12_frames_31 rfl 0 rfl ?_
      refine mg_StillStarsModel_state C uX12_frames_12 (by decide +kernel) dX12_frames_32 ?_
      cases hf
      exact R _ _ dX12_frames_35
    · replace hf := z_iff c4 hf
      refine z_aload_n C dX12_frames_21 rfl 0 rfl ?_
      obtain ⟨q5, h6, hf⟩ := z_bind hf
      refine z_callVv C (rest := []) (tX12_frame (ze_l E) (ze_D E) t a h6) gX12_frames_X12_frame rfl hdX12_frame ⟨(Nat.le_of_ble_eq_true rfl), (Nat.le_of_ble_eq_true rfl)⟩ ⟨Nat.zero_le _, Nat.zero_le _⟩ 0 mw_at_0 rfl rfl rfl (Nat.le_of_ble_eq_true rfl) dX12_frames_22 ?_
      refine z_iinc C (v2 + 1) [(2, .int (v2 + 1)), (0, .ref (a 0)), (1, .int v1)] dX12_frames_25 2 rfl rfl (by decide) rfl ?_
      refine z_goto C 16 dX12_frames_28 (by decide) ?_
      exact z_sub [1, 2, 0] rfl (ih _ _ _ hf)
theorem hdX12_frames : yX12_frames.cls = RX12 ∧ yX12_frames.cls ≠ "java/lang/invoke/MethodHandle" ∧ yX12_frames.cls ≠ "java/lang/invoke/VarHandle" ∧ (parseMethodDescriptor yX12_frames.desc).map (fun d => d.parameters.length) = some 1 := by decide +kernel
set_option maxHeartbeats 4000000 in
set_option maxRecDepth 100000 in
theorem tX12_frames (l : Launch) (D : va_G) (t : zTy) (a : Nat → Nat) {v1 : Int32} {x : ST} {out : Int32 × ST} (hf : fX12_frames v1 x = some out) : zMi l yX12_frames wsX12_frames 9 206 D t [.ref (a 0), .int v1] (MW t a x) out.1 (MW t a out.2) := by
  refine z_entry_i (cc := cX12_frames) (nL := 3) (by decide) rfl (Nat.le_of_ble_eq_true rfl) (fun E _ _ C R => ?_)
  refine z_sub (lv' := [(0, .ref (a 0)), (1, .int v1)]) [0, 1] rfl ?_
  rw [fX12_frames] at hf
  refine z_iload_n C dX12_frames_0 rfl 1 rfl ?_
  refine z_i2l C dX12_frames_1 ?_
  refine z_lconst C dX12_frames_2 1 rfl ?_
  refine z_ldc2 C 100 (by decide +kernel) dX12_frames_3 ?_
  obtain ⟨q1, h2, hf⟩ := z_bind hf
  refine z_callSi C (rest := []) (tX12_in (ze_l E) (ze_D E) t _ h2) gX12_frames_X12_in rfl hdX12_in ⟨(Nat.le_of_ble_eq_true rfl), (Nat.le_of_ble_eq_true rfl)⟩ ⟨Nat.zero_le _, Nat.zero_le _⟩ rfl rfl (Nat.le_of_ble_eq_true rfl) dX12_frames_6 ?_
  refine z_if_ne C 14 dX12_frames_9 (by decide) (fun c3 => ?_) (fun c3 => ?_)
  · replace hf := z_iff c3 hf
    refine z_iconst C dX12_frames_14 0 rfl ?_
    refine z_istore_n C [(2, .int 0), (0, .ref (a 0)), (1, .int v1)] dX12_frames_15 rfl (by decide) rfl ?_
    exact z_sub [1, 2, 0] rfl (kX12_frames_16 E t a out C R 200 _ _ _ hf)
  · replace hf := z_ift c3 hf
    refine z_iconst C dX12_frames_12 (-1) rfl ?_
    cases hf
    exact R _ _ dX12_frames_13
theorem uX12_state_12 : ∀ w ∈ wsX120, w ∈ wsX12_state := by decide +kernel
theorem hdX12_state : yX12_state.cls = RX12 ∧ yX12_state.cls ≠ "java/lang/invoke/MethodHandle" ∧ yX12_state.cls ≠ "java/lang/invoke/VarHandle" ∧ (parseMethodDescriptor yX12_state.desc).map (fun d => d.parameters.length) = some 1 := by decide +kernel
set_option maxHeartbeats 4000000 in
set_option maxRecDepth 100000 in
theorem tX12_state (l : Launch) (D : va_G) (t : zTy) (a : Nat → Nat) {v1 : Int32} {x : ST} {out : Int32 × ST} (hf : fX12_state v1 x = some out) : zMi l yX12_state wsX12_state 1 25 D t [.ref (a 0), .int v1] (MW t a x) out.1 (MW t a out.2) := by
  refine z_entry_i (cc := cX12_state) (nL := 2) (by decide) rfl (Nat.le_of_ble_eq_true rfl) (fun E _ _ C R => ?_)
  refine z_sub (lv' := [(0, .ref (a 0)), (1, .int v1)]) [0, 1] rfl ?_
  rw [fX12_state] at hf
  refine z_iload_n C dX12_state_0 rfl 1 rfl ?_
  refine z_i2l C dX12_state_1 ?_
  refine z_lconst C dX12_state_2 0 rfl ?_
  refine z_aload_n C dX12_state_3 rfl 0 rfl ?_
  refine mg_StillStarsModel_parts C uX12_state_12 (by decide +kernel) dX12_state_4 ?_
  refine z_iconst C dX12_state_7 2 rfl ?_
  refine z_iadd C dX12_state_8 ?_
  refine z_i2l C dX12_state_9 ?_
  obtain ⟨q1, h2, hf⟩ := z_bind hf
  refine z_callSi C (rest := []) (tX12_in (ze_l E) (ze_D E) t _ h2) gX12_state_X12_in rfl hdX12_in ⟨(Nat.le_of_ble_eq_true rfl), (Nat.le_of_ble_eq_true rfl)⟩ ⟨Nat.zero_le _, Nat.zero_le _⟩ rfl rfl (Nat.le_of_ble_eq_true rfl) dX12_state_10 ?_
  refine z_if_ne C 20 dX12_state_13 (by decide) (fun c3 => ?_) (fun c3 => ?_)
  · replace hf := z_iff c3 hf
    refine z_iload_n C dX12_state_20 rfl 1 rfl ?_
    refine z_aload_n C dX12_state_21 rfl 0 rfl ?_
    refine mg_StillStarsModel_parts C uX12_state_12 (by decide +kernel) dX12_state_22 ?_
    refine z_icmp_ge C 37 dX12_state_25 (by decide) (fun c4 => ?_) (fun c4 => ?_)
    · replace hf := z_ift c4 hf
      refine z_iload_n C dX12_state_37 rfl 1 rfl ?_
      refine z_aload_n C dX12_state_38 rfl 0 rfl ?_
      refine mg_StillStarsModel_parts C uX12_state_12 (by decide +kernel) dX12_state_39 ?_
      refine z_icmp_ne C 52 dX12_state_42 (by decide) (fun c5 => ?_) (fun c5 => ?_)
      · replace hf := z_iff c5 hf
        refine z_iload_n C dX12_state_52 rfl 1 rfl ?_
        refine z_aload_n C dX12_state_53 rfl 0 rfl ?_
        refine mg_StillStarsModel_parts C uX12_state_12 (by decide +kernel) dX12_state_54 ?_
        refine z_iconst C dX12_state_57 1 rfl ?_
        refine z_iadd C dX12_state_58 ?_
        refine z_icmp_ne C 69 dX12_state_59 (by decide) (fun c6 => ?_) (fun c6 => ?_)
        · replace hf := z_iff c6 hf
          refine z_aload_n C dX12_state_69 rfl 0 rfl ?_
          refine mg_StillStarsModel_framesDone C uX12_state_12 (by decide +kernel) dX12_state_70 ?_
          cases hf
          exact R _ _ dX12_state_73
        · replace hf := z_ift c6 hf
          refine z_aload_n C dX12_state_62 rfl 0 rfl ?_
          refine mg_StillStarsModel_state C uX12_state_12 (by decide +kernel) dX12_state_63 ?_
          refine z_goto C 73 dX12_state_66 (by decide) ?_
          cases hf
          exact R _ _ dX12_state_73
      · replace hf := z_ift c5 hf
        refine z_aload_n C dX12_state_45 rfl 0 rfl ?_
        refine mg_StillStarsModel_tip C uX12_state_12 (by decide +kernel) dX12_state_46 ?_
        refine z_goto C 73 dX12_state_49 (by decide) ?_
        cases hf
        exact R _ _ dX12_state_73
    · replace hf := z_iff c4 hf
      refine z_aload_n C dX12_state_28 rfl 0 rfl ?_
      refine mg_StillStarsModel_units C uX12_state_12 (by decide +kernel) dX12_state_29 ?_
      refine z_iload_n C dX12_state_32 rfl 1 rfl ?_
      obtain ⟨h7, hf⟩ := z_some hf
      refine z_iald C 19 mw_at_19 h7 dX12_state_33 ?_
      refine z_goto C 73 dX12_state_34 (by decide) ?_
      cases hf
      exact R _ _ dX12_state_73
  · replace hf := z_ift c3 hf
    refine z_sipush C dX12_state_16 (-10001) rfl ?_
    cases hf
    exact R _ _ dX12_state_19
theorem uX12_units_12 : ∀ w ∈ wsX120, w ∈ wsX12_units := by decide +kernel
theorem hdX12_units : yX12_units.cls = RX12 ∧ yX12_units.cls ≠ "java/lang/invoke/MethodHandle" ∧ yX12_units.cls ≠ "java/lang/invoke/VarHandle" ∧ (parseMethodDescriptor yX12_units.desc).map (fun d => d.parameters.length) = some 2 := by decide +kernel
set_option maxHeartbeats 4000000 in
set_option maxRecDepth 100000 in
theorem tX12_units (l : Launch) (D : va_G) (t : zTy) (a : Nat → Nat) {v1 : Int32} {v2 : Int32} {x : ST} {out : Int32 × ST} (hf : fX12_units v1 v2 x = some out) : zMi l yX12_units wsX12_units 2 46 D t [.ref (a 0), .int v1, .int v2] (MW t a x) out.1 (MW t a out.2) := by
  refine z_entry_i (cc := cX12_units) (nL := 4) (by decide) rfl (Nat.le_of_ble_eq_true rfl) (fun E _ _ C R => ?_)
  refine z_sub (lv' := [(0, .ref (a 0)), (1, .int v1), (2, .int v2)]) [0, 1, 2] rfl ?_
  rw [fX12_units] at hf
  refine z_aload_n C dX12_units_0 rfl 0 rfl ?_
  refine z_iload_n C dX12_units_1 rfl 1 rfl ?_
  obtain ⟨q1, h2, hf⟩ := z_bind hf
  refine z_callVi C (rest := []) (tX12_isPart (ze_l E) (ze_D E) t a h2) gX12_units_X12_isPart rfl hdX12_isPart ⟨(Nat.le_of_ble_eq_true rfl), (Nat.le_of_ble_eq_true rfl)⟩ ⟨Nat.zero_le _, Nat.zero_le _⟩ 0 mw_at_0 rfl rfl rfl (Nat.le_of_ble_eq_true rfl) dX12_units_2 ?_
  refine z_if_eq C 31 dX12_units_5 (by decide) (fun c3 => ?_) (fun c3 => ?_)
  · replace hf := z_ift c3 hf
    refine z_sipush C dX12_units_31 (-10001) rfl ?_
    cases hf
    exact R _ _ dX12_units_34
  · replace hf := z_iff c3 hf
    refine z_iload_n C dX12_units_8 rfl 2 rfl ?_
    refine z_i2l C dX12_units_9 ?_
    refine z_aload_n C dX12_units_10 rfl 0 rfl ?_
    refine mg_StillStarsModel_sets C uX12_units_12 (by decide +kernel) dX12_units_11 ?_
    refine z_iconst C dX12_units_14 4 rfl ?_
    obtain ⟨h4, hf⟩ := z_some hf
    refine z_iald C 4 mw_at_4 h4 dX12_units_15 ?_
    refine z_ineg C dX12_units_16 ?_
    refine z_i2l C dX12_units_17 ?_
    refine z_aload_n C dX12_units_18 rfl 0 rfl ?_
    refine mg_StillStarsModel_sets C uX12_units_12 (by decide +kernel) dX12_units_19 ?_
    refine z_iconst C dX12_units_22 4 rfl ?_
    obtain ⟨h5, hf⟩ := z_some hf
    refine z_iald C 4 mw_at_4 h5 dX12_units_23 ?_
    refine z_i2l C dX12_units_24 ?_
    obtain ⟨q6, h7, hf⟩ := z_bind hf
    refine z_callSi C (rest := []) (tX12_in (ze_l E) (ze_D E) t _ h7) gX12_units_X12_in rfl hdX12_in ⟨(Nat.le_of_ble_eq_true rfl), (Nat.le_of_ble_eq_true rfl)⟩ ⟨Nat.zero_le _, Nat.zero_le _⟩ rfl rfl (Nat.le_of_ble_eq_true rfl) dX12_units_25 ?_
    refine z_if_ne C 35 dX12_units_28 (by decide) (fun c8 => ?_) (fun c8 => ?_)
    · replace hf := z_iff c8 hf
      refine z_aload_n C dX12_units_35 rfl 0 rfl ?_
      refine mg_StillStarsModel_units C uX12_units_12 (by decide +kernel) dX12_units_36 ?_
      refine z_iload_n C dX12_units_39 rfl 1 rfl ?_
      obtain ⟨h9, hf⟩ := z_some hf
      refine z_iald C 19 mw_at_19 h9 dX12_units_40 ?_
      refine z_istore_n C [(3, .int (gA q1.2 19 v1.toNatClampNeg)), (0, .ref (a 0)), (1, .int v1), (2, .int v2)] dX12_units_41 rfl (by decide) rfl ?_
      refine z_aload_n C dX12_units_42 rfl 1 rfl ?_
      refine mg_StillStarsModel_units C uX12_units_12 (by decide +kernel) dX12_units_43 ?_
      refine z_iload_n C dX12_units_46 rfl 2 rfl ?_
      refine z_iload_n C dX12_units_47 rfl 3 rfl ?_
      obtain ⟨h10, hf⟩ := z_some hf
      refine z_iast C 19 mw_at_19 h10 (w' := MW t a (sA q1.2 19 v1 v2)) mw_up_19 dX12_units_48 ?_
      refine z_iload_n C dX12_units_49 rfl 0 rfl ?_
      cases hf
      exact R _ _ dX12_units_50
    · replace hf := z_ift c8 hf
      refine z_sipush C dX12_units_31 (-10001) rfl ?_
      cases hf
      exact R _ _ dX12_units_34
theorem uX12_shed_12 : ∀ w ∈ wsX120, w ∈ wsX12_shed := by decide +kernel
set_option maxHeartbeats 4000000 in
set_option maxRecDepth 100000 in
theorem kX12_shed_22 (E : zE) (t : zTy) (a : Nat → Nat) (out : Int32 × ST) (C : zC E cX12_shed 3 RX12 wsX12_shed (zrm 1 22) t) (R : zRi E cX12_shed 3 out.1 (MW t a out.2)) : ∀ (n : Nat) (v1 : Int32) (v2 : Int32) (x : ST), fX12_shed_22 n v1 v2 x = some out → zG E 3 0 0 (MW t a x) 22 [(0, .ref (a 0)), (1, .int v1), (2, .int v2)] [] := by
  intro n
  induction n with
  | zero =>
    intro v1 v2 x hf
    cases hf
  | succ n ih =>
    intro v1 v2 x hf
    rw [fX12_shed_22] at hf
    refine z_iload_n C dX12_shed_22 rfl 2 rfl ?_
    refine z_aload_n C dX12_shed_23 rfl 0 rfl ?_
    refine mg_StillStarsModel_parts C uX12_shed_12 (by decide +kernel) dX12_shed_24 ?_
    refine z_icmp_ge C 46 dX12_shed_27 (by decide) (fun c4 => ?_) (fun c4 => ?_)
    · replace hf := z_ift c4 hf
      refine z_iload_n C dX12_shed_46 rfl 1 rfl ?_
      cases hf
      exact R _ _ dX12_shed_47
    · replace hf := z_iff c4 hf
      refine z_aload_n C dX12_shed_30 rfl 0 rfl ?_
      refine mg_StillStarsModel_units C uX12_shed_12 (by decide +kernel) dX12_shed_31 ?_
      refine z_iload_n C dX12_shed_34 rfl 2 rfl ?_
      refine z_dup2 C dX12_shed_35 rfl rfl ?_
      obtain ⟨h5, hf⟩ := z_some hf
      refine z_iald C 19 mw_at_19 h5 dX12_shed_36 ?_
      refine z_iload_n C dX12_shed_37 rfl 1 rfl ?_
      refine z_isub C dX12_shed_38 ?_
      obtain ⟨h6, hf⟩ := z_some hf
      refine z_iast C 19 mw_at_19 h6 (w' := MW t a (sA x 19 v2 ((gA x 19 v2.toNatClampNeg) - v1))) mw_up_19 dX12_shed_39 ?_
      refine z_iinc C (v2 + 1) [(2, .int (v2 + 1)), (0, .ref (a 0)), (1, .int v1)] dX12_shed_40 2 rfl rfl (by decide) rfl ?_
      refine z_goto C 22 dX12_shed_43 (by decide) ?_
      exact z_sub [1, 2, 0] rfl (ih _ _ _ hf)
theorem hdX12_shed : yX12_shed.cls = RX12 ∧ yX12_shed.cls ≠ "java/lang/invoke/MethodHandle" ∧ yX12_shed.cls ≠ "java/lang/invoke/VarHandle" ∧ (parseMethodDescriptor yX12_shed.desc).map (fun d => d.parameters.length) = some 0 := by decide +kernel
set_option maxHeartbeats 4000000 in
set_option maxRecDepth 100000 in
theorem tX12_shed (l : Launch) (D : va_G) (t : zTy) (a : Nat → Nat)  {x : ST} {out : Int32 × ST} (hf : fX12_shed  x = some out) : zMi l yX12_shed wsX12_shed 1 22 D t [.ref (a 0)] (MW t a x) out.1 (MW t a out.2) := by
  refine z_entry_i (cc := cX12_shed) (nL := 3) (by decide) rfl (Nat.le_of_ble_eq_true rfl) (fun E _ _ C R => ?_)
  refine z_sub (lv' := [(0, .ref (a 0))]) [0] rfl ?_
  rw [fX12_shed] at hf
  refine z_aload_n C dX12_shed_0 rfl 0 rfl ?_
  obtain ⟨q1, h2, hf⟩ := z_bind hf
  refine z_callVi C (rest := []) (tX12_unitsAll (ze_l E) (ze_D E) t a h2) gX12_shed_X12_unitsAll rfl hdX12_unitsAll ⟨(Nat.le_of_ble_eq_true rfl), (Nat.le_of_ble_eq_true rfl)⟩ ⟨Nat.zero_le _, Nat.zero_le _⟩ 0 mw_at_0 rfl rfl rfl (Nat.le_of_ble_eq_true rfl) dX12_shed_1 ?_
  refine z_aload_n C dX12_shed_4 rfl 0 rfl ?_
  refine mg_StillStarsModel_parts C uX12_shed_12 (by decide +kernel) dX12_shed_5 ?_
  obtain ⟨h3, hf⟩ := z_div hf
  refine z_idiv C h3 dX12_shed_8 ?_
  refine z_istore_n C [(1, .int (q1.1 / (gI q1.2 1))), (0, .ref (a 0))] dX12_shed_9 rfl (by decide) rfl ?_
  refine z_aload_n C dX12_shed_10 rfl 1 rfl ?_
  refine z_dup C dX12_shed_11 rfl ?_
  refine mg_StillStarsModel_tip C uX12_shed_12 (by decide +kernel) dX12_shed_12 ?_
  refine z_iload_n C dX12_shed_15 rfl 0 rfl ?_
  refine z_iadd C dX12_shed_16 ?_
  refine mp_StillStarsModel_tip C uX12_shed_12 (by decide +kernel) dX12_shed_17 ?_
  refine z_iconst C dX12_shed_20 0 rfl ?_
  refine z_istore_n C [(2, .int 0), (1, .int (q1.1 / (gI q1.2 1))), (0, .ref (a 0))] dX12_shed_21 rfl (by decide) rfl ?_
  exact z_sub [2, 1, 0] rfl (kX12_shed_22 E t a out C R 200 _ _ _ hf)
theorem uX12_log_12 : ∀ w ∈ wsX120, w ∈ wsX12_log := by decide +kernel
set_option maxHeartbeats 4000000 in
set_option maxRecDepth 100000 in
theorem kX12_log_18 (E : zE) (t : zTy) (a : Nat → Nat) (out : Int32 × ST) (C : zC E cX12_log 5 RX12 wsX12_log (zrm 1 25) t) (R : zRi E cX12_log 5 out.1 (MW t a out.2)) : ∀ (v1 : Int32) (v2 : Int32) (s0 : Int32) (x : ST), fX12_log_18 v1 v2 s0 x = some out → zG E 5 0 0 (MW t a x) 18 [(0, .ref (a 0)), (1, .int v1), (2, .int v2)] [.int s0] := by
  intro v1 v2 s0 x hf
  rw [fX12_log_18] at hf
  refine z_istore_n C [(3, .int s0), (0, .ref (a 0)), (1, .int v1), (2, .int v2)] dX12_log_18 rfl (by decide) rfl ?_
  refine z_iload_n C dX12_log_19 rfl 2 rfl ?_
  refine z_i2l C dX12_log_20 ?_
  refine z_lconst C dX12_log_21 0 rfl ?_
  refine z_iload_n C dX12_log_22 rfl 0 rfl ?_
  refine z_iconst C dX12_log_23 1 rfl ?_
  refine z_isub C dX12_log_24 ?_
  refine z_i2l C dX12_log_25 ?_
  obtain ⟨q2, h3, hf⟩ := z_bind hf
  refine z_callSi C (rest := []) (tX12_in (ze_l E) (ze_D E) t _ h3) gX12_log_X12_in rfl hdX12_in ⟨(Nat.le_of_ble_eq_true rfl), (Nat.le_of_ble_eq_true rfl)⟩ ⟨Nat.zero_le _, Nat.zero_le _⟩ rfl rfl (Nat.le_of_ble_eq_true rfl) dX12_log_26 ?_
  refine z_if_eq C 44 dX12_log_29 (by decide) (fun c4 => ?_) (fun c4 => ?_)
  · replace hf := z_ift c4 hf
    refine z_sipush C dX12_log_44 (-10001) rfl ?_
    cases hf
    exact R _ _ dX12_log_47
  · replace hf := z_iff c4 hf
    refine z_iload_n C dX12_log_32 rfl 3 rfl ?_
    refine z_i2l C dX12_log_33 ?_
    refine z_lconst C dX12_log_34 0 rfl ?_
    refine z_ldc2 C 2 (by decide +kernel) dX12_log_35 ?_
    obtain ⟨q5, h6, hf⟩ := z_bind hf
    refine z_callSi C (rest := []) (tX12_in (ze_l E) (ze_D E) t _ h6) gX12_log_X12_in rfl hdX12_in ⟨(Nat.le_of_ble_eq_true rfl), (Nat.le_of_ble_eq_true rfl)⟩ ⟨Nat.zero_le _, Nat.zero_le _⟩ rfl rfl (Nat.le_of_ble_eq_true rfl) dX12_log_38 ?_
    refine z_if_ne C 48 dX12_log_41 (by decide) (fun c7 => ?_) (fun c7 => ?_)
    · replace hf := z_iff c7 hf
      refine z_aload_n C dX12_log_48 rfl 1 rfl ?_
      refine mg_StillStarsModel_framesDone C uX12_log_12 (by decide +kernel) dX12_log_49 ?_
      refine z_iconst C dX12_log_52 1 rfl ?_
      refine z_isub C dX12_log_53 ?_
      refine z_iload_n C dX12_log_54 rfl 2 rfl ?_
      refine z_isub C dX12_log_55 ?_
      refine z_bipush C dX12_log_56 30 rfl ?_
      obtain ⟨h8, hf⟩ := z_div hf
      refine z_irem C h8 dX12_log_58 ?_
      refine z_istore C [(4, .int ((((gI x 8) - 1) - v1) - (((gI x 8) - 1) - v1) / 30 * 30)), (3, .int s0), (0, .ref (a 0)), (1, .int v1), (2, .int v2)] dX12_log_59 (by decide) rfl ?_
      refine z_iload_n C dX12_log_61 rfl 4 rfl ?_
      refine z_if_ne C 75 dX12_log_62 (by decide) (fun c9 => ?_) (fun c9 => ?_)
      · replace hf := z_iff c9 hf
        refine z_iload_n C dX12_log_75 rfl 4 rfl ?_
        refine z_iconst C dX12_log_76 1 rfl ?_
        refine z_icmp_ne C 90 dX12_log_77 (by decide) (fun c10 => ?_) (fun c10 => ?_)
        · replace hf := z_iff c10 hf
          refine z_aload_n C dX12_log_90 rfl 2 rfl ?_
          refine mg_StillStarsModel_logSums C uX12_log_12 (by decide +kernel) dX12_log_91 ?_
          refine z_iload C dX12_log_94 0 rfl ?_
          obtain ⟨h11, hf⟩ := z_some hf
          refine z_iald C 22 mw_at_22 h11 dX12_log_96 ?_
          cases hf
          exact R _ _ dX12_log_97
        · replace hf := z_ift c10 hf
          refine z_aload_n C dX12_log_80 rfl 2 rfl ?_
          refine mg_StillStarsModel_logLost C uX12_log_12 (by decide +kernel) dX12_log_81 ?_
          refine z_iload C dX12_log_84 0 rfl ?_
          obtain ⟨h12, hf⟩ := z_some hf
          refine z_iald C 21 mw_at_21 h12 dX12_log_86 ?_
          refine z_goto C 97 dX12_log_87 (by decide) ?_
          cases hf
          exact R _ _ dX12_log_97
      · replace hf := z_ift c9 hf
        refine z_aload_n C dX12_log_65 rfl 2 rfl ?_
        refine mg_StillStarsModel_logStates C uX12_log_12 (by decide +kernel) dX12_log_66 ?_
        refine z_iload C dX12_log_69 0 rfl ?_
        obtain ⟨h13, hf⟩ := z_some hf
        refine z_iald C 20 mw_at_20 h13 dX12_log_71 ?_
        refine z_goto C 97 dX12_log_72 (by decide) ?_
        cases hf
        exact R _ _ dX12_log_97
    · replace hf := z_ift c7 hf
      refine z_sipush C dX12_log_44 (-10001) rfl ?_
      cases hf
      exact R _ _ dX12_log_47
theorem hdX12_log : yX12_log.cls = RX12 ∧ yX12_log.cls ≠ "java/lang/invoke/MethodHandle" ∧ yX12_log.cls ≠ "java/lang/invoke/VarHandle" ∧ (parseMethodDescriptor yX12_log.desc).map (fun d => d.parameters.length) = some 2 := by decide +kernel
set_option maxHeartbeats 4000000 in
set_option maxRecDepth 100000 in
theorem tX12_log (l : Launch) (D : va_G) (t : zTy) (a : Nat → Nat) {v1 : Int32} {v2 : Int32} {x : ST} {out : Int32 × ST} (hf : fX12_log v1 v2 x = some out) : zMi l yX12_log wsX12_log 1 25 D t [.ref (a 0), .int v1, .int v2] (MW t a x) out.1 (MW t a out.2) := by
  refine z_entry_i (cc := cX12_log) (nL := 5) (by decide) rfl (Nat.le_of_ble_eq_true rfl) (fun E _ _ C R => ?_)
  refine z_sub (lv' := [(0, .ref (a 0)), (1, .int v1), (2, .int v2)]) [0, 1, 2] rfl ?_
  rw [fX12_log] at hf
  refine z_aload_n C dX12_log_0 rfl 0 rfl ?_
  refine mg_StillStarsModel_framesDone C uX12_log_12 (by decide +kernel) dX12_log_1 ?_
  refine z_bipush C dX12_log_4 30 rfl ?_
  refine z_icmp_ge C 16 dX12_log_6 (by decide) (fun c1 => ?_) (fun c1 => ?_)
  · replace hf := z_ift c1 hf
    refine z_bipush C dX12_log_16 30 rfl ?_
    exact z_sub [0, 1, 2] rfl (kX12_log_18 E t a out C R _ _ _ _ hf)
  · replace hf := z_iff c1 hf
    refine z_aload_n C dX12_log_9 rfl 0 rfl ?_
    refine mg_StillStarsModel_framesDone C uX12_log_12 (by decide +kernel) dX12_log_10 ?_
    refine z_goto C 18 dX12_log_13 (by decide) ?_
    exact z_sub [0, 1, 2] rfl (kX12_log_18 E t a out C R _ _ _ _ hf)

theorem uX6_count_6 : ∀ w ∈ wsX60, w ∈ wsX6_count := by decide +kernel
theorem hdX6_count : yX6_count.cls = RX6 ∧ yX6_count.cls ≠ "java/lang/invoke/MethodHandle" ∧ yX6_count.cls ≠ "java/lang/invoke/VarHandle" ∧ (parseMethodDescriptor yX6_count.desc).map (fun d => d.parameters.length) = some 0 := by decide +kernel
set_option maxHeartbeats 4000000 in
set_option maxRecDepth 100000 in
theorem tX6_count (l : Launch) (D : va_G) (t : zTy) (a : Nat → Nat)  {x : ST} {out : Int32 × ST} (hf : fX6_count  x = some out) : zMi l yX6_count wsX6_count 0 0 D t [.ref (a 7)] (CW t a x) out.1 (CW t a out.2) := by
  refine z_entry_i (cc := cX6_count) (nL := 1) (by decide) rfl (Nat.le_of_ble_eq_true rfl) (fun E _ _ C R => ?_)
  refine z_sub (lv' := [(0, .ref (a 7))]) [0] rfl ?_
  rw [fX6_count] at hf
  refine z_aload_n C dX6_count_0 rfl 0 rfl ?_
  refine cg_Parts_count C uX6_count_6 (by decide +kernel) dX6_count_1 ?_
  cases hf
  exact R _ _ dX6_count_4
theorem uX6_isDead_6 : ∀ w ∈ wsX60, w ∈ wsX6_isDead := by decide +kernel
theorem hdX6_isDead : yX6_isDead.cls = RX6 ∧ yX6_isDead.cls ≠ "java/lang/invoke/MethodHandle" ∧ yX6_isDead.cls ≠ "java/lang/invoke/VarHandle" ∧ (parseMethodDescriptor yX6_isDead.desc).map (fun d => d.parameters.length) = some 1 := by decide +kernel
set_option maxHeartbeats 4000000 in
set_option maxRecDepth 100000 in
theorem tX6_isDead (l : Launch) (D : va_G) (t : zTy) (a : Nat → Nat) {v1 : Int32} {x : ST} {out : Int32 × ST} (hf : fX6_isDead v1 x = some out) : zMi l yX6_isDead wsX6_isDead 0 0 D t [.ref (a 7), .int v1] (CW t a x) out.1 (CW t a out.2) := by
  refine z_entry_z (cc := cX6_isDead) (nL := 2) (by decide) rfl (Nat.le_of_ble_eq_true rfl) (fun E _ _ C R => ?_)
  refine z_sub (lv' := [(0, .ref (a 7)), (1, .int v1)]) [0, 1] rfl ?_
  rw [fX6_isDead] at hf
  refine z_aload_n C dX6_isDead_0 rfl 0 rfl ?_
  refine cg_Parts_dead C uX6_isDead_6 (by decide +kernel) dX6_isDead_1 ?_
  refine z_iload_n C dX6_isDead_4 rfl 1 rfl ?_
  obtain ⟨h1, hf⟩ := z_some hf
  refine z_zald C 30 cw_at_30 h1 dX6_isDead_5 ?_
  obtain ⟨h2, hf⟩ := z_some hf
  cases hf
  exact R _ _ dX6_isDead_6 h2
theorem uX9_count_9 : ∀ w ∈ wsX90, w ∈ wsX9_count := by decide +kernel
theorem hdX9_count : yX9_count.cls = RX9 ∧ yX9_count.cls ≠ "java/lang/invoke/MethodHandle" ∧ yX9_count.cls ≠ "java/lang/invoke/VarHandle" ∧ (parseMethodDescriptor yX9_count.desc).map (fun d => d.parameters.length) = some 0 := by decide +kernel
set_option maxHeartbeats 4000000 in
set_option maxRecDepth 100000 in
theorem tX9_count (l : Launch) (D : va_G) (t : zTy) (a : Nat → Nat)  {x : ST} {out : Int32 × ST} (hf : fX9_count  x = some out) : zMi l yX9_count wsX9_count 0 0 D t [.ref (a 10)] (CW t a x) out.1 (CW t a out.2) := by
  refine z_entry_i (cc := cX9_count) (nL := 1) (by decide) rfl (Nat.le_of_ble_eq_true rfl) (fun E _ _ C R => ?_)
  refine z_sub (lv' := [(0, .ref (a 10))]) [0] rfl ?_
  rw [fX9_count] at hf
  refine z_aload_n C dX9_count_0 rfl 0 rfl ?_
  refine cg_Spots_count C uX9_count_9 (by decide +kernel) dX9_count_1 ?_
  cases hf
  exact R _ _ dX9_count_4
theorem uX9_isLost_9 : ∀ w ∈ wsX90, w ∈ wsX9_isLost := by decide +kernel
theorem hdX9_isLost : yX9_isLost.cls = RX9 ∧ yX9_isLost.cls ≠ "java/lang/invoke/MethodHandle" ∧ yX9_isLost.cls ≠ "java/lang/invoke/VarHandle" ∧ (parseMethodDescriptor yX9_isLost.desc).map (fun d => d.parameters.length) = some 1 := by decide +kernel
set_option maxHeartbeats 4000000 in
set_option maxRecDepth 100000 in
theorem tX9_isLost (l : Launch) (D : va_G) (t : zTy) (a : Nat → Nat) {v1 : Int32} {x : ST} {out : Int32 × ST} (hf : fX9_isLost v1 x = some out) : zMi l yX9_isLost wsX9_isLost 0 0 D t [.ref (a 10), .int v1] (CW t a x) out.1 (CW t a out.2) := by
  refine z_entry_z (cc := cX9_isLost) (nL := 2) (by decide) rfl (Nat.le_of_ble_eq_true rfl) (fun E _ _ C R => ?_)
  refine z_sub (lv' := [(0, .ref (a 10)), (1, .int v1)]) [0, 1] rfl ?_
  rw [fX9_isLost] at hf
  refine z_aload_n C dX9_isLost_0 rfl 0 rfl ?_
  refine cg_Spots_lost C uX9_isLost_9 (by decide +kernel) dX9_isLost_1 ?_
  refine z_iload_n C dX9_isLost_4 rfl 1 rfl ?_
  obtain ⟨h1, hf⟩ := z_some hf
  refine z_zald C 40 cw_at_40 h1 dX9_isLost_5 ?_
  obtain ⟨h2, hf⟩ := z_some hf
  cases hf
  exact R _ _ dX9_isLost_6 h2
theorem uX10_number_10 : ∀ w ∈ wsX100, w ∈ wsX10_number := by decide +kernel
theorem hdX10_number : yX10_number.cls = RX10 ∧ yX10_number.cls ≠ "java/lang/invoke/MethodHandle" ∧ yX10_number.cls ≠ "java/lang/invoke/VarHandle" ∧ (parseMethodDescriptor yX10_number.desc).map (fun d => d.parameters.length) = some 2 := by decide +kernel
set_option maxHeartbeats 4000000 in
set_option maxRecDepth 100000 in
theorem tX10_number (l : Launch) (D : va_G) (t : zTy) (a : Nat → Nat) {v1 : Int32} {v2 : Int32} {x : ST} {out : Int32 × ST} (hf : fX10_number v1 v2 x = some out) : zMi l yX10_number wsX10_number 0 0 D t [.ref (a 11), .int v1, .int v2] (CW t a x) out.1 (CW t a out.2) := by
  refine z_entry_i (cc := cX10_number) (nL := 3) (by decide) rfl (Nat.le_of_ble_eq_true rfl) (fun E _ _ C R => ?_)
  refine z_sub (lv' := [(0, .ref (a 11)), (1, .int v1), (2, .int v2)]) [0, 1, 2] rfl ?_
  rw [fX10_number] at hf
  refine z_aload_n C dX10_number_0 rfl 0 rfl ?_
  refine cg_Table_numbers C uX10_number_10 (by decide +kernel) dX10_number_1 ?_
  refine z_iload_n C dX10_number_4 rfl 1 rfl ?_
  refine z_iconst C dX10_number_5 5 rfl ?_
  refine z_imul C dX10_number_6 ?_
  refine z_iload_n C dX10_number_7 rfl 2 rfl ?_
  refine z_iadd C dX10_number_8 ?_
  obtain ⟨h1, hf⟩ := z_some hf
  refine z_iald C 41 cw_at_41 h1 dX10_number_9 ?_
  cases hf
  exact R _ _ dX10_number_10
theorem uX9_slopeOf_9 : ∀ w ∈ wsX90, w ∈ wsX9_slopeOf := by decide +kernel
theorem hdX9_slopeOf : yX9_slopeOf.cls = RX9 ∧ yX9_slopeOf.cls ≠ "java/lang/invoke/MethodHandle" ∧ yX9_slopeOf.cls ≠ "java/lang/invoke/VarHandle" ∧ (parseMethodDescriptor yX9_slopeOf.desc).map (fun d => d.parameters.length) = some 1 := by decide +kernel
set_option maxHeartbeats 4000000 in
set_option maxRecDepth 100000 in
theorem tX9_slopeOf (l : Launch) (D : va_G) (t : zTy) (a : Nat → Nat) {v1 : Int32} {x : ST} {out : Int32 × ST} (hf : fX9_slopeOf v1 x = some out) : zMi l yX9_slopeOf wsX9_slopeOf 0 0 D t [.ref (a 10), .int v1] (CW t a x) out.1 (CW t a out.2) := by
  refine z_entry_i (cc := cX9_slopeOf) (nL := 2) (by decide) rfl (Nat.le_of_ble_eq_true rfl) (fun E _ _ C R => ?_)
  refine z_sub (lv' := [(0, .ref (a 10)), (1, .int v1)]) [0, 1] rfl ?_
  rw [fX9_slopeOf] at hf
  refine z_aload_n C dX9_slopeOf_0 rfl 0 rfl ?_
  refine cg_Spots_middles C uX9_slopeOf_9 (by decide +kernel) dX9_slopeOf_1 ?_
  refine z_iload_n C dX9_slopeOf_4 rfl 1 rfl ?_
  obtain ⟨h1, hf⟩ := z_some hf
  refine z_iald C 39 cw_at_39 h1 dX9_slopeOf_5 ?_
  refine z_aload_n C dX9_slopeOf_6 rfl 0 rfl ?_
  refine cg_Spots_rests C uX9_slopeOf_9 (by decide +kernel) dX9_slopeOf_7 ?_
  refine z_iload_n C dX9_slopeOf_10 rfl 1 rfl ?_
  obtain ⟨h2, hf⟩ := z_some hf
  refine z_iald C 37 cw_at_37 h2 dX9_slopeOf_11 ?_
  refine z_isub C dX9_slopeOf_12 ?_
  cases hf
  exact R _ _ dX9_slopeOf_13
theorem uX1_renew_1 : ∀ w ∈ wsX10, w ∈ wsX1_renew := by decide +kernel
theorem hdX1_renew : yX1_renew.cls = RX1 ∧ yX1_renew.cls ≠ "java/lang/invoke/MethodHandle" ∧ yX1_renew.cls ≠ "java/lang/invoke/VarHandle" ∧ (parseMethodDescriptor yX1_renew.desc).map (fun d => d.parameters.length) = some 0 := by decide +kernel
set_option maxHeartbeats 4000000 in
set_option maxRecDepth 100000 in
theorem tX1_renew (l : Launch) (D : va_G) (t : zTy) (a : Nat → Nat)  {x : ST} {out : ST} (hf : fX1_renew  x = some out) : zMv l yX1_renew wsX1_renew 0 0 D t [.ref (a 2)] (CW t a x) (CW t a out) := by
  refine z_entry_v (cc := cX1_renew) (nL := 1) (by decide) rfl (Nat.le_of_ble_eq_true rfl) (fun E _ _ C R => ?_)
  refine z_sub (lv' := [(0, .ref (a 2))]) [0] rfl ?_
  rw [fX1_renew] at hf
  refine z_aload_n C dX1_renew_0 rfl 0 rfl ?_
  refine z_iconst C dX1_renew_1 0 rfl ?_
  refine cp_Book_kept C uX1_renew_1 (by decide +kernel) dX1_renew_2 ?_
  refine z_aload_n C dX1_renew_5 rfl 0 rfl ?_
  refine z_iconst C dX1_renew_6 0 rfl ?_
  refine cp_Book_next C uX1_renew_1 (by decide +kernel) dX1_renew_7 ?_
  cases hf
  exact R _ _ dX1_renew_10
theorem uX1_note_1 : ∀ w ∈ wsX10, w ∈ wsX1_note := by decide +kernel
theorem hdX1_note : yX1_note.cls = RX1 ∧ yX1_note.cls ≠ "java/lang/invoke/MethodHandle" ∧ yX1_note.cls ≠ "java/lang/invoke/VarHandle" ∧ (parseMethodDescriptor yX1_note.desc).map (fun d => d.parameters.length) = some 3 := by decide +kernel
set_option maxHeartbeats 4000000 in
set_option maxRecDepth 100000 in
theorem tX1_note (l : Launch) (D : va_G) (t : zTy) (a : Nat → Nat) {v1 : Int32} {v2 : Int32} {v3 : Int32} {x : ST} {out : ST} (hf : fX1_note v1 v2 v3 x = some out) : zMv l yX1_note wsX1_note 1 14 D t [.ref (a 2), .int v1, .int v2, .int v3] (CW t a x) (CW t a out) := by
  refine z_entry_v (cc := cX1_note) (nL := 4) (by decide) rfl (Nat.le_of_ble_eq_true rfl) (fun E _ _ C R => ?_)
  refine z_sub (lv' := [(0, .ref (a 2)), (1, .int v1), (2, .int v2), (3, .int v3)]) [0, 1, 2, 3] rfl ?_
  rw [fX1_note] at hf
  refine z_aload_n C dX1_note_0 rfl 0 rfl ?_
  refine cg_Book_lines C uX1_note_1 (by decide +kernel) dX1_note_1 ?_
  refine z_aload_n C dX1_note_4 rfl 0 rfl ?_
  refine cg_Book_next C uX1_note_1 (by decide +kernel) dX1_note_5 ?_
  refine z_iconst C dX1_note_8 3 rfl ?_
  refine z_imul C dX1_note_9 ?_
  refine z_iload_n C dX1_note_10 rfl 1 rfl ?_
  obtain ⟨h1, hf⟩ := z_some hf
  refine z_iast C 20 cw_at_20 h1 (w' := CW t a (sA x 20 ((gI x 2) * 3) v1)) cw_up_20 dX1_note_11 ?_
  refine z_aload_n C dX1_note_12 rfl 0 rfl ?_
  refine cg_Book_lines C uX1_note_1 (by decide +kernel) dX1_note_13 ?_
  refine z_aload_n C dX1_note_16 rfl 0 rfl ?_
  refine cg_Book_next C uX1_note_1 (by decide +kernel) dX1_note_17 ?_
  refine z_iconst C dX1_note_20 3 rfl ?_
  refine z_imul C dX1_note_21 ?_
  refine z_iconst C dX1_note_22 1 rfl ?_
  refine z_iadd C dX1_note_23 ?_
  refine z_iload_n C dX1_note_24 rfl 2 rfl ?_
  obtain ⟨h2, hf⟩ := z_some hf
  refine z_iast C 20 cw_at_20 h2 (w' := CW t a (sA (sA x 20 ((gI x 2) * 3) v1) 20 (((gI (sA x 20 ((gI x 2) * 3) v1) 2) * 3) + 1) v2)) cw_up_20 dX1_note_25 ?_
  refine z_aload_n C dX1_note_26 rfl 0 rfl ?_
  refine cg_Book_lines C uX1_note_1 (by decide +kernel) dX1_note_27 ?_
  refine z_aload_n C dX1_note_30 rfl 0 rfl ?_
  refine cg_Book_next C uX1_note_1 (by decide +kernel) dX1_note_31 ?_
  refine z_iconst C dX1_note_34 3 rfl ?_
  refine z_imul C dX1_note_35 ?_
  refine z_iconst C dX1_note_36 2 rfl ?_
  refine z_iadd C dX1_note_37 ?_
  refine z_iload_n C dX1_note_38 rfl 3 rfl ?_
  obtain ⟨h3, hf⟩ := z_some hf
  refine z_iast C 20 cw_at_20 h3 (w' := CW t a (sA (sA (sA x 20 ((gI x 2) * 3) v1) 20 (((gI (sA x 20 ((gI x 2) * 3) v1) 2) * 3) + 1) v2) 20 (((gI (sA (sA x 20 ((gI x 2) * 3) v1) 20 (((gI (sA x 20 ((gI x 2) * 3) v1) 2) * 3) + 1) v2) 2) * 3) + 2) v3)) cw_up_20 dX1_note_39 ?_
  refine z_aload_n C dX1_note_40 rfl 0 rfl ?_
  refine z_aload_n C dX1_note_41 rfl 0 rfl ?_
  refine cg_Book_next C uX1_note_1 (by decide +kernel) dX1_note_42 ?_
  refine z_iconst C dX1_note_45 1 rfl ?_
  refine z_iadd C dX1_note_46 ?_
  refine z_bipush C dX1_note_47 30 rfl ?_
  obtain ⟨h4, hf⟩ := z_div hf
  refine z_irem C h4 dX1_note_49 ?_
  refine cp_Book_next C uX1_note_1 (by decide +kernel) dX1_note_50 ?_
  obtain ⟨x5, e6, hf⟩ := z_bind hf
  refine z_w (congrArg (CW t a) (Option.some.inj e6)) ?_
  refine z_aload_n C dX1_note_53 rfl 0 rfl ?_
  refine z_aload_n C dX1_note_54 rfl 0 rfl ?_
  refine cg_Book_kept C uX1_note_1 (by decide +kernel) dX1_note_55 ?_
  refine z_iconst C dX1_note_58 1 rfl ?_
  refine z_iadd C dX1_note_59 ?_
  refine z_bipush C dX1_note_60 30 rfl ?_
  refine z_mmin C (by decide +kernel) (by decide +kernel) (by decide +kernel) (by decide +kernel) (Nat.le_of_ble_eq_true rfl) (Nat.le_of_ble_eq_true rfl) (Nat.zero_le _) (Nat.zero_le _) dX1_note_62 ?_
  refine cp_Book_kept C uX1_note_1 (by decide +kernel) dX1_note_65 ?_
  cases hf
  exact R _ _ dX1_note_68
theorem uX1_has_1 : ∀ w ∈ wsX10, w ∈ wsX1_has := by decide +kernel
theorem hdX1_has : yX1_has.cls = RX1 ∧ yX1_has.cls ≠ "java/lang/invoke/MethodHandle" ∧ yX1_has.cls ≠ "java/lang/invoke/VarHandle" ∧ (parseMethodDescriptor yX1_has.desc).map (fun d => d.parameters.length) = some 1 := by decide +kernel
set_option maxHeartbeats 4000000 in
set_option maxRecDepth 100000 in
theorem tX1_has (l : Launch) (D : va_G) (t : zTy) (a : Nat → Nat) {v1 : Int32} {x : ST} {out : Int32 × ST} (hf : fX1_has v1 x = some out) : zMi l yX1_has wsX1_has 1 22 D t [.ref (a 2), .int v1] (CW t a x) out.1 (CW t a out.2) := by
  refine z_entry_z (cc := cX1_has) (nL := 2) (by decide) rfl (Nat.le_of_ble_eq_true rfl) (fun E _ _ C R => ?_)
  refine z_sub (lv' := [(0, .ref (a 2)), (1, .int v1)]) [0, 1] rfl ?_
  rw [fX1_has] at hf
  refine z_iload_n C dX1_has_0 rfl 1 rfl ?_
  refine z_iconst C dX1_has_1 0 rfl ?_
  refine z_aload_n C dX1_has_2 rfl 0 rfl ?_
  refine cg_Book_kept C uX1_has_1 (by decide +kernel) dX1_has_3 ?_
  refine z_iconst C dX1_has_6 1 rfl ?_
  refine z_isub C dX1_has_7 ?_
  obtain ⟨q1, h2, hf⟩ := z_bind hf
  refine z_callNi C (rest := []) (tX11_within (ze_l E) (ze_D E) t _ h2) gX1_has_X11_within_n28 (host := RX11) (by decide +kernel) (by decide +kernel) (by decide +kernel) rfl hdX11_within ⟨(Nat.le_of_ble_eq_true rfl), (Nat.le_of_ble_eq_true rfl)⟩ ⟨Nat.zero_le _, Nat.zero_le _⟩ rfl rfl (Nat.le_of_ble_eq_true rfl) dX1_has_8 ?_
  obtain ⟨h3, hf⟩ := z_some hf
  cases hf
  exact R _ _ dX1_has_11 h3
theorem uX1_read_1 : ∀ w ∈ wsX10, w ∈ wsX1_read := by decide +kernel
theorem hdX1_read : yX1_read.cls = RX1 ∧ yX1_read.cls ≠ "java/lang/invoke/MethodHandle" ∧ yX1_read.cls ≠ "java/lang/invoke/VarHandle" ∧ (parseMethodDescriptor yX1_read.desc).map (fun d => d.parameters.length) = some 2 := by decide +kernel
set_option maxHeartbeats 4000000 in
set_option maxRecDepth 100000 in
theorem tX1_read (l : Launch) (D : va_G) (t : zTy) (a : Nat → Nat) {v1 : Int32} {v2 : Int32} {x : ST} {out : Int32 × ST} (hf : fX1_read v1 v2 x = some out) : zMi l yX1_read wsX1_read 1 22 D t [.ref (a 2), .int v1, .int v2] (CW t a x) out.1 (CW t a out.2) := by
  refine z_entry_i (cc := cX1_read) (nL := 3) (by decide) rfl (Nat.le_of_ble_eq_true rfl) (fun E _ _ C R => ?_)
  refine z_sub (lv' := [(0, .ref (a 2)), (1, .int v1), (2, .int v2)]) [0, 1, 2] rfl ?_
  rw [fX1_read] at hf
  refine z_aload_n C dX1_read_0 rfl 0 rfl ?_
  refine cg_Book_lines C uX1_read_1 (by decide +kernel) dX1_read_1 ?_
  refine z_aload_n C dX1_read_4 rfl 0 rfl ?_
  refine cg_Book_next C uX1_read_1 (by decide +kernel) dX1_read_5 ?_
  refine z_iconst C dX1_read_8 1 rfl ?_
  refine z_isub C dX1_read_9 ?_
  refine z_iload_n C dX1_read_10 rfl 1 rfl ?_
  refine z_isub C dX1_read_11 ?_
  refine z_bipush C dX1_read_12 30 rfl ?_
  obtain ⟨q1, h2, hf⟩ := z_bind hf
  refine z_callSi C (rest := [.ref (a 20)]) (tJ9_floorMod_7cf53 (ze_l E) (ze_D E) t _ h2) gX1_read_J9_floorMod_7cf53 rfl hdJ9_floorMod_7cf53 ⟨(Nat.le_of_ble_eq_true rfl), (Nat.le_of_ble_eq_true rfl)⟩ ⟨Nat.zero_le _, Nat.zero_le _⟩ rfl rfl (Nat.le_of_ble_eq_true rfl) dX1_read_14 ?_
  refine z_iconst C dX1_read_17 3 rfl ?_
  refine z_imul C dX1_read_18 ?_
  refine z_iload_n C dX1_read_19 rfl 2 rfl ?_
  refine z_iadd C dX1_read_20 ?_
  obtain ⟨h3, hf⟩ := z_some hf
  refine z_iald C 20 cw_at_20 h3 dX1_read_21 ?_
  cases hf
  exact R _ _ dX1_read_22
theorem uX3_enter_3 : ∀ w ∈ wsX30, w ∈ wsX3_enter := by decide +kernel
theorem hdX3_enter : yX3_enter.cls = RX3 ∧ yX3_enter.cls ≠ "java/lang/invoke/MethodHandle" ∧ yX3_enter.cls ≠ "java/lang/invoke/VarHandle" ∧ (parseMethodDescriptor yX3_enter.desc).map (fun d => d.parameters.length) = some 1 := by decide +kernel
set_option maxHeartbeats 4000000 in
set_option maxRecDepth 100000 in
theorem tX3_enter (l : Launch) (D : va_G) (t : zTy) (a : Nat → Nat) {v1 : Int32} {x : ST} {out : ST} (hf : fX3_enter v1 x = some out) : zMv l yX3_enter wsX3_enter 0 0 D t [.ref (a 4), .int v1] (CW t a x) (CW t a out) := by
  refine z_entry_v (cc := cX3_enter) (nL := 2) (by decide) rfl (Nat.le_of_ble_eq_true rfl) (fun E _ _ C R => ?_)
  refine z_sub (lv' := [(0, .ref (a 4)), (1, .int v1)]) [0, 1] rfl ?_
  rw [fX3_enter] at hf
  refine z_aload_n C dX3_enter_0 rfl 0 rfl ?_
  refine z_iload_n C dX3_enter_1 rfl 1 rfl ?_
  refine cp_Keeper_state C uX3_enter_3 (by decide +kernel) dX3_enter_2 ?_
  refine z_aload_n C dX3_enter_5 rfl 0 rfl ?_
  refine z_iconst C dX3_enter_6 0 rfl ?_
  refine cp_Keeper_good C uX3_enter_3 (by decide +kernel) dX3_enter_7 ?_
  refine z_aload_n C dX3_enter_10 rfl 0 rfl ?_
  refine z_iconst C dX3_enter_11 0 rfl ?_
  refine cp_Keeper_foundLost C uX3_enter_3 (by decide +kernel) dX3_enter_12 ?_
  cases hf
  exact R _ _ dX3_enter_15
theorem uX3_renew_3 : ∀ w ∈ wsX30, w ∈ wsX3_renew := by decide +kernel
theorem hdX3_renew : yX3_renew.cls = RX3 ∧ yX3_renew.cls ≠ "java/lang/invoke/MethodHandle" ∧ yX3_renew.cls ≠ "java/lang/invoke/VarHandle" ∧ (parseMethodDescriptor yX3_renew.desc).map (fun d => d.parameters.length) = some 0 := by decide +kernel
set_option maxHeartbeats 4000000 in
set_option maxRecDepth 100000 in
theorem tX3_renew (l : Launch) (D : va_G) (t : zTy) (a : Nat → Nat)  {x : ST} {out : ST} (hf : fX3_renew  x = some out) : zMv l yX3_renew wsX3_renew 1 21 D t [.ref (a 4)] (CW t a x) (CW t a out) := by
  refine z_entry_v (cc := cX3_renew) (nL := 1) (by decide) rfl (Nat.le_of_ble_eq_true rfl) (fun E _ _ C R => ?_)
  refine z_sub (lv' := [(0, .ref (a 4))]) [0] rfl ?_
  rw [fX3_renew] at hf
  refine z_aload_n C dX3_renew_0 rfl 0 rfl ?_
  refine z_iconst C dX3_renew_1 0 rfl ?_
  obtain ⟨q1, h2, hf⟩ := z_bind hf
  refine z_callVv C (rest := []) (tX3_enter (ze_l E) (ze_D E) t a h2) gX3_renew_X3_enter rfl hdX3_enter ⟨(Nat.le_of_ble_eq_true rfl), (Nat.le_of_ble_eq_true rfl)⟩ ⟨Nat.zero_le _, Nat.zero_le _⟩ 4 cw_at_4 rfl rfl rfl (Nat.le_of_ble_eq_true rfl) dX3_renew_2 ?_
  refine z_aload_n C dX3_renew_5 rfl 0 rfl ?_
  refine z_iconst C dX3_renew_6 0 rfl ?_
  refine cp_Keeper_done C uX3_renew_3 (by decide +kernel) dX3_renew_7 ?_
  cases hf
  exact R _ _ dX3_renew_10
theorem uX3_now_3 : ∀ w ∈ wsX30, w ∈ wsX3_now := by decide +kernel
theorem hdX3_now : yX3_now.cls = RX3 ∧ yX3_now.cls ≠ "java/lang/invoke/MethodHandle" ∧ yX3_now.cls ≠ "java/lang/invoke/VarHandle" ∧ (parseMethodDescriptor yX3_now.desc).map (fun d => d.parameters.length) = some 0 := by decide +kernel
set_option maxHeartbeats 4000000 in
set_option maxRecDepth 100000 in
theorem tX3_now (l : Launch) (D : va_G) (t : zTy) (a : Nat → Nat)  {x : ST} {out : Int32 × ST} (hf : fX3_now  x = some out) : zMi l yX3_now wsX3_now 0 0 D t [.ref (a 4)] (CW t a x) out.1 (CW t a out.2) := by
  refine z_entry_i (cc := cX3_now) (nL := 1) (by decide) rfl (Nat.le_of_ble_eq_true rfl) (fun E _ _ C R => ?_)
  refine z_sub (lv' := [(0, .ref (a 4))]) [0] rfl ?_
  rw [fX3_now] at hf
  refine z_aload_n C dX3_now_0 rfl 0 rfl ?_
  refine cg_Keeper_state C uX3_now_3 (by decide +kernel) dX3_now_1 ?_
  cases hf
  exact R _ _ dX3_now_4
theorem uX3_done_3 : ∀ w ∈ wsX30, w ∈ wsX3_done := by decide +kernel
theorem hdX3_done : yX3_done.cls = RX3 ∧ yX3_done.cls ≠ "java/lang/invoke/MethodHandle" ∧ yX3_done.cls ≠ "java/lang/invoke/VarHandle" ∧ (parseMethodDescriptor yX3_done.desc).map (fun d => d.parameters.length) = some 0 := by decide +kernel
set_option maxHeartbeats 4000000 in
set_option maxRecDepth 100000 in
theorem tX3_done (l : Launch) (D : va_G) (t : zTy) (a : Nat → Nat)  {x : ST} {out : Int32 × ST} (hf : fX3_done  x = some out) : zMi l yX3_done wsX3_done 0 0 D t [.ref (a 4)] (CW t a x) out.1 (CW t a out.2) := by
  refine z_entry_i (cc := cX3_done) (nL := 1) (by decide) rfl (Nat.le_of_ble_eq_true rfl) (fun E _ _ C R => ?_)
  refine z_sub (lv' := [(0, .ref (a 4))]) [0] rfl ?_
  rw [fX3_done] at hf
  refine z_aload_n C dX3_done_0 rfl 0 rfl ?_
  refine cg_Keeper_done C uX3_done_3 (by decide +kernel) dX3_done_1 ?_
  cases hf
  exact R _ _ dX3_done_4
theorem uX3_search_3 : ∀ w ∈ wsX30, w ∈ wsX3_search := by decide +kernel
theorem hdX3_search : yX3_search.cls = RX3 ∧ yX3_search.cls ≠ "java/lang/invoke/MethodHandle" ∧ yX3_search.cls ≠ "java/lang/invoke/VarHandle" ∧ (parseMethodDescriptor yX3_search.desc).map (fun d => d.parameters.length) = some 0 := by decide +kernel
set_option maxHeartbeats 4000000 in
set_option maxRecDepth 100000 in
theorem tX3_search (l : Launch) (D : va_G) (t : zTy) (a : Nat → Nat)  {x : ST} {out : Int32 × ST} (hf : fX3_search  x = some out) : zMi l yX3_search wsX3_search 1 21 D t [.ref (a 4)] (CW t a x) out.1 (CW t a out.2) := by
  refine z_entry_z (cc := cX3_search) (nL := 1) (by decide) rfl (Nat.le_of_ble_eq_true rfl) (fun E _ _ C R => ?_)
  refine z_sub (lv' := [(0, .ref (a 4))]) [0] rfl ?_
  rw [fX3_search] at hf
  refine z_aload_n C dX3_search_0 rfl 0 rfl ?_
  refine z_dup C dX3_search_1 rfl ?_
  refine cg_Keeper_foundLost C uX3_search_3 (by decide +kernel) dX3_search_2 ?_
  refine z_iconst C dX3_search_5 1 rfl ?_
  refine z_iadd C dX3_search_6 ?_
  refine cp_Keeper_foundLost C uX3_search_3 (by decide +kernel) dX3_search_7 ?_
  refine z_aload_n C dX3_search_10 rfl 0 rfl ?_
  refine cg_Keeper_good C uX3_search_3 (by decide +kernel) dX3_search_11 ?_
  refine z_iconst C dX3_search_14 5 rfl ?_
  refine z_icmp_lt C 25 dX3_search_15 (by decide) (fun c1 => ?_) (fun c1 => ?_)
  · replace hf := z_ift c1 hf
    refine z_aload_n C dX3_search_25 rfl 0 rfl ?_
    refine cg_Keeper_foundLost C uX3_search_3 (by decide +kernel) dX3_search_26 ?_
    refine z_bipush C dX3_search_29 20 rfl ?_
    refine z_icmp_ge C 36 dX3_search_31 (by decide) (fun c2 => ?_) (fun c2 => ?_)
    · replace hf := z_ift c2 hf
      refine z_aload_n C dX3_search_36 rfl 0 rfl ?_
      refine z_iconst C dX3_search_37 0 rfl ?_
      obtain ⟨q3, h4, hf⟩ := z_bind hf
      refine z_callVv C (rest := []) (tX3_enter (ze_l E) (ze_D E) t a h4) gX3_search_X3_enter rfl hdX3_enter ⟨(Nat.le_of_ble_eq_true rfl), (Nat.le_of_ble_eq_true rfl)⟩ ⟨Nat.zero_le _, Nat.zero_le _⟩ 4 cw_at_4 rfl rfl rfl (Nat.le_of_ble_eq_true rfl) dX3_search_38 ?_
      refine z_iconst C dX3_search_41 1 rfl ?_
      obtain ⟨h5, hf⟩ := z_some hf
      cases hf
      exact R _ _ dX3_search_42 h5
    · replace hf := z_iff c2 hf
      refine z_iconst C dX3_search_34 0 rfl ?_
      obtain ⟨h6, hf⟩ := z_some hf
      cases hf
      exact R _ _ dX3_search_35 h6
  · replace hf := z_iff c1 hf
    refine z_aload_n C dX3_search_18 rfl 0 rfl ?_
    refine z_iconst C dX3_search_19 2 rfl ?_
    obtain ⟨q7, h8, hf⟩ := z_bind hf
    refine z_callVv C (rest := []) (tX3_enter (ze_l E) (ze_D E) t a h8) gX3_search_X3_enter rfl hdX3_enter ⟨(Nat.le_of_ble_eq_true rfl), (Nat.le_of_ble_eq_true rfl)⟩ ⟨Nat.zero_le _, Nat.zero_le _⟩ 4 cw_at_4 rfl rfl rfl (Nat.le_of_ble_eq_true rfl) dX3_search_20 ?_
    refine z_iconst C dX3_search_23 0 rfl ?_
    obtain ⟨h9, hf⟩ := z_some hf
    cases hf
    exact R _ _ dX3_search_24 h9
theorem uX3_pass_3 : ∀ w ∈ wsX30, w ∈ wsX3_pass := by decide +kernel
set_option maxHeartbeats 4000000 in
set_option maxRecDepth 100000 in
theorem kX3_pass_25 (E : zE) (t : zTy) (a : Nat → Nat) (out : Int32 × ST) (C : zC E cX3_pass 2 RX3 wsX3_pass (zrm 2 41) t) (R : zRz E cX3_pass 2 out.1 (CW t a out.2)) : ∀ (v1 : Int32) (s0 : Int32) (x : ST), fX3_pass_25 v1 s0 x = some out → zG E 2 0 0 (CW t a x) 25 [(0, .ref (a 4)), (1, .int v1)] [.int s0, .ref (a 4)] := by
  intro v1 s0 x hf
  rw [fX3_pass_25] at hf
  refine cp_Keeper_good C uX3_pass_3 (by decide +kernel) dX3_pass_25 ?_
  refine z_aload_n C dX3_pass_28 rfl 0 rfl ?_
  refine cg_Keeper_state C uX3_pass_3 (by decide +kernel) dX3_pass_29 ?_
  by_cases c2 : (gI (sI x 7 s0) 5) = 1
  · replace hf := z_ift c2 hf
    refine z_swIn C 1 60 dX3_pass_32 c2 (by decide) (by decide) rfl (by decide) ?_
    refine z_aload_n C dX3_pass_60 rfl 0 rfl ?_
    refine cg_Keeper_good C uX3_pass_3 (by decide +kernel) dX3_pass_61 ?_
    refine z_iconst C dX3_pass_64 3 rfl ?_
    refine z_icmp_lt C 73 dX3_pass_65 (by decide) (fun c3 => ?_) (fun c3 => ?_)
    · replace hf := z_ift c3 hf
      refine z_iconst C dX3_pass_73 0 rfl ?_
      obtain ⟨h4, hf⟩ := z_some hf
      cases hf
      exact R _ _ dX3_pass_74 h4
    · replace hf := z_iff c3 hf
      refine z_aload_n C dX3_pass_68 rfl 0 rfl ?_
      refine z_iconst C dX3_pass_69 2 rfl ?_
      obtain ⟨q5, h6, hf⟩ := z_bind hf
      refine z_callVv C (rest := []) (tX3_enter (ze_l E) (ze_D E) t a h6) gX3_pass_X3_enter rfl hdX3_enter ⟨(Nat.le_of_ble_eq_true rfl), (Nat.le_of_ble_eq_true rfl)⟩ ⟨Nat.zero_le _, Nat.zero_le _⟩ 4 cw_at_4 rfl rfl rfl (Nat.le_of_ble_eq_true rfl) dX3_pass_70 ?_
      refine z_iconst C dX3_pass_73 0 rfl ?_
      obtain ⟨h7, hf⟩ := z_some hf
      cases hf
      exact R _ _ dX3_pass_74 h7
  replace hf := z_iff c2 hf
  by_cases c8 : (gI (sI x 7 s0) 5) = 2
  · replace hf := z_ift c8 hf
    refine z_swIn C 2 75 dX3_pass_32 c8 (by decide) (by decide) rfl (by decide) ?_
    refine z_iload_n C dX3_pass_75 rfl 1 rfl ?_
    refine z_if_ne C 84 dX3_pass_76 (by decide) (fun c9 => ?_) (fun c9 => ?_)
    · replace hf := z_iff c9 hf
      refine z_iconst C dX3_pass_84 0 rfl ?_
      obtain ⟨h10, hf⟩ := z_some hf
      cases hf
      exact R _ _ dX3_pass_85 h10
    · replace hf := z_ift c9 hf
      refine z_aload_n C dX3_pass_79 rfl 0 rfl ?_
      refine z_iconst C dX3_pass_80 3 rfl ?_
      obtain ⟨q11, h12, hf⟩ := z_bind hf
      refine z_callVv C (rest := []) (tX3_enter (ze_l E) (ze_D E) t a h12) gX3_pass_X3_enter rfl hdX3_enter ⟨(Nat.le_of_ble_eq_true rfl), (Nat.le_of_ble_eq_true rfl)⟩ ⟨Nat.zero_le _, Nat.zero_le _⟩ 4 cw_at_4 rfl rfl rfl (Nat.le_of_ble_eq_true rfl) dX3_pass_81 ?_
      refine z_iconst C dX3_pass_84 0 rfl ?_
      obtain ⟨h13, hf⟩ := z_some hf
      cases hf
      exact R _ _ dX3_pass_85 h13
  replace hf := z_iff c8 hf
  by_cases c14 : (gI (sI x 7 s0) 5) = 3
  · replace hf := z_ift c14 hf
    refine z_swIn C 3 86 dX3_pass_32 c14 (by decide) (by decide) rfl (by decide) ?_
    refine z_aload_n C dX3_pass_86 rfl 0 rfl ?_
    obtain ⟨q15, h16, hf⟩ := z_bind hf
    refine z_callVi C (rest := []) (tX3_search (ze_l E) (ze_D E) t a h16) gX3_pass_X3_search rfl hdX3_search ⟨(Nat.le_of_ble_eq_true rfl), (Nat.le_of_ble_eq_true rfl)⟩ ⟨Nat.zero_le _, Nat.zero_le _⟩ 4 cw_at_4 rfl rfl rfl (Nat.le_of_ble_eq_true rfl) dX3_pass_87 ?_
    obtain ⟨h17, hf⟩ := z_some hf
    cases hf
    exact R _ _ dX3_pass_90 h17
  replace hf := z_iff c14 hf
  refine z_swOut C 91 dX3_pass_32 (fun k h1 h2 => by rcases (show k = 1 ∨ k = 2 ∨ k = 3 by omega) with rfl | rfl | rfl <;> assumption) (by decide) ?_
  refine z_iconst C dX3_pass_91 0 rfl ?_
  obtain ⟨h18, hf⟩ := z_some hf
  cases hf
  exact R _ _ dX3_pass_92 h18
theorem hdX3_pass : yX3_pass.cls = RX3 ∧ yX3_pass.cls ≠ "java/lang/invoke/MethodHandle" ∧ yX3_pass.cls ≠ "java/lang/invoke/VarHandle" ∧ (parseMethodDescriptor yX3_pass.desc).map (fun d => d.parameters.length) = some 1 := by decide +kernel
set_option maxHeartbeats 4000000 in
set_option maxRecDepth 100000 in
theorem tX3_pass (l : Launch) (D : va_G) (t : zTy) (a : Nat → Nat) {v1 : Int32} {x : ST} {out : Int32 × ST} (hf : fX3_pass v1 x = some out) : zMi l yX3_pass wsX3_pass 2 41 D t [.ref (a 4), .int v1] (CW t a x) out.1 (CW t a out.2) := by
  refine z_entry_z (cc := cX3_pass) (nL := 2) (by decide) rfl (Nat.le_of_ble_eq_true rfl) (fun E _ _ C R => ?_)
  refine z_sub (lv' := [(0, .ref (a 4)), (1, .int v1)]) [0, 1] rfl ?_
  rw [fX3_pass] at hf
  refine z_aload_n C dX3_pass_0 rfl 0 rfl ?_
  refine z_dup C dX3_pass_1 rfl ?_
  refine cg_Keeper_done C uX3_pass_3 (by decide +kernel) dX3_pass_2 ?_
  refine z_iconst C dX3_pass_5 1 rfl ?_
  refine z_iadd C dX3_pass_6 ?_
  refine cp_Keeper_done C uX3_pass_3 (by decide +kernel) dX3_pass_7 ?_
  refine z_aload_n C dX3_pass_10 rfl 0 rfl ?_
  refine z_iload_n C dX3_pass_11 rfl 1 rfl ?_
  refine z_if_eq C 24 dX3_pass_12 (by decide) (fun c1 => ?_) (fun c1 => ?_)
  · replace hf := z_ift c1 hf
    refine z_iconst C dX3_pass_24 0 rfl ?_
    exact z_sub [0, 1] rfl (kX3_pass_25 E t a out C R _ _ _ hf)
  · replace hf := z_iff c1 hf
    refine z_aload_n C dX3_pass_15 rfl 0 rfl ?_
    refine cg_Keeper_good C uX3_pass_3 (by decide +kernel) dX3_pass_16 ?_
    refine z_iconst C dX3_pass_19 1 rfl ?_
    refine z_iadd C dX3_pass_20 ?_
    refine z_goto C 25 dX3_pass_21 (by decide) ?_
    exact z_sub [0, 1] rfl (kX3_pass_25 E t a out C R _ _ _ hf)
theorem uX4_swapCell_4 : ∀ w ∈ wsX40, w ∈ wsX4_swapCell := by decide +kernel
theorem hdX4_swapCell : yX4_swapCell.cls = RX4 ∧ yX4_swapCell.cls ≠ "java/lang/invoke/MethodHandle" ∧ yX4_swapCell.cls ≠ "java/lang/invoke/VarHandle" ∧ (parseMethodDescriptor yX4_swapCell.desc).map (fun d => d.parameters.length) = some 3 := by decide +kernel
set_option maxHeartbeats 4000000 in
set_option maxRecDepth 100000 in
theorem tX4_swapCell (l : Launch) (D : va_G) (t : zTy) (a : Nat → Nat) {v1 : Int32} {v2 : Int32} {v3 : Int32} {x : ST} {out : Int32 × ST} (hf : fX4_swapCell v1 v2 v3 x = some out) : zMi l yX4_swapCell wsX4_swapCell 0 0 D t [.ref (a 5), .int v1, .int v2, .int v3] (CW t a x) out.1 (CW t a out.2) := by
  refine z_entry_i (cc := cX4_swapCell) (nL := 5) (by decide) rfl (Nat.le_of_ble_eq_true rfl) (fun E _ _ C R => ?_)
  refine z_sub (lv' := [(0, .ref (a 5)), (1, .int v1), (2, .int v2), (3, .int v3)]) [0, 1, 2, 3] rfl ?_
  rw [fX4_swapCell] at hf
  refine z_aload_n C dX4_swapCell_0 rfl 0 rfl ?_
  refine cg_Layers_cells C uX4_swapCell_4 (by decide +kernel) dX4_swapCell_1 ?_
  refine z_iload_n C dX4_swapCell_4 rfl 1 rfl ?_
  refine z_bipush C dX4_swapCell_5 32 rfl ?_
  refine z_imul C dX4_swapCell_7 ?_
  refine z_iload_n C dX4_swapCell_8 rfl 2 rfl ?_
  refine z_iadd C dX4_swapCell_9 ?_
  obtain ⟨h1, hf⟩ := z_some hf
  refine z_iald C 25 cw_at_25 h1 dX4_swapCell_10 ?_
  refine z_istore C [(4, .int (gA x 25 ((v1 * 32) + v2).toNatClampNeg)), (0, .ref (a 5)), (1, .int v1), (2, .int v2), (3, .int v3)] dX4_swapCell_11 (by decide) rfl ?_
  refine z_aload_n C dX4_swapCell_13 rfl 1 rfl ?_
  refine cg_Layers_cells C uX4_swapCell_4 (by decide +kernel) dX4_swapCell_14 ?_
  refine z_iload_n C dX4_swapCell_17 rfl 2 rfl ?_
  refine z_bipush C dX4_swapCell_18 32 rfl ?_
  refine z_imul C dX4_swapCell_20 ?_
  refine z_iload_n C dX4_swapCell_21 rfl 3 rfl ?_
  refine z_iadd C dX4_swapCell_22 ?_
  refine z_iload_n C dX4_swapCell_23 rfl 4 rfl ?_
  obtain ⟨h2, hf⟩ := z_some hf
  refine z_iast C 25 cw_at_25 h2 (w' := CW t a (sA x 25 ((v1 * 32) + v2) v3)) cw_up_25 dX4_swapCell_24 ?_
  refine z_iload C dX4_swapCell_25 0 rfl ?_
  cases hf
  exact R _ _ dX4_swapCell_27
theorem uX4_swapWind_4 : ∀ w ∈ wsX40, w ∈ wsX4_swapWind := by decide +kernel
theorem hdX4_swapWind : yX4_swapWind.cls = RX4 ∧ yX4_swapWind.cls ≠ "java/lang/invoke/MethodHandle" ∧ yX4_swapWind.cls ≠ "java/lang/invoke/VarHandle" ∧ (parseMethodDescriptor yX4_swapWind.desc).map (fun d => d.parameters.length) = some 2 := by decide +kernel
set_option maxHeartbeats 4000000 in
set_option maxRecDepth 100000 in
theorem tX4_swapWind (l : Launch) (D : va_G) (t : zTy) (a : Nat → Nat) {v1 : Int32} {v2 : Int32} {x : ST} {out : Int32 × ST} (hf : fX4_swapWind v1 v2 x = some out) : zMi l yX4_swapWind wsX4_swapWind 0 0 D t [.ref (a 5), .int v1, .int v2] (CW t a x) out.1 (CW t a out.2) := by
  refine z_entry_i (cc := cX4_swapWind) (nL := 4) (by decide) rfl (Nat.le_of_ble_eq_true rfl) (fun E _ _ C R => ?_)
  refine z_sub (lv' := [(0, .ref (a 5)), (1, .int v1), (2, .int v2)]) [0, 1, 2] rfl ?_
  rw [fX4_swapWind] at hf
  refine z_aload_n C dX4_swapWind_0 rfl 0 rfl ?_
  refine cg_Layers_winds C uX4_swapWind_4 (by decide +kernel) dX4_swapWind_1 ?_
  refine z_iload_n C dX4_swapWind_4 rfl 1 rfl ?_
  obtain ⟨h1, hf⟩ := z_some hf
  refine z_iald C 26 cw_at_26 h1 dX4_swapWind_5 ?_
  refine z_istore_n C [(3, .int (gA x 26 v1.toNatClampNeg)), (0, .ref (a 5)), (1, .int v1), (2, .int v2)] dX4_swapWind_6 rfl (by decide) rfl ?_
  refine z_aload_n C dX4_swapWind_7 rfl 1 rfl ?_
  refine cg_Layers_winds C uX4_swapWind_4 (by decide +kernel) dX4_swapWind_8 ?_
  refine z_iload_n C dX4_swapWind_11 rfl 2 rfl ?_
  refine z_iload_n C dX4_swapWind_12 rfl 3 rfl ?_
  obtain ⟨h2, hf⟩ := z_some hf
  refine z_iast C 26 cw_at_26 h2 (w' := CW t a (sA x 26 v1 v2)) cw_up_26 dX4_swapWind_13 ?_
  refine z_iload_n C dX4_swapWind_14 rfl 0 rfl ?_
  cases hf
  exact R _ _ dX4_swapWind_15
theorem uX4_foretold_4 : ∀ w ∈ wsX40, w ∈ wsX4_foretold := by decide +kernel
set_option maxHeartbeats 4000000 in
set_option maxRecDepth 100000 in
theorem kX4_foretold_5 (E : zE) (t : zTy) (a : Nat → Nat) (out : Int32 × ST) (C : zC E cX4_foretold 6 RX4 wsX4_foretold (zrm 1 22) t) (R : zRi E cX4_foretold 6 out.1 (CW t a out.2)) : ∀ (n : Nat) (v1 : Int32) (v2 : Int32) (v3 : Int32) (v4 : Int32) (x : ST), fX4_foretold_5 n v1 v2 v3 v4 x = some out → zG E 6 0 0 (CW t a x) 5 [(0, .ref (a 5)), (1, .int v1), (2, .int v2), (3, .int v3), (4, .int v4)] [] := by
  intro n
  induction n with
  | zero =>
    intro v1 v2 v3 v4 x hf
    cases hf
  | succ n ih =>
    intro v1 v2 v3 v4 x hf
    rw [fX4_foretold_5] at hf
    refine z_iload C dX4_foretold_5 4 rfl ?_
    refine z_iconst C dX4_foretold_7 3 rfl ?_
    refine z_icmp_ge C 70 dX4_foretold_8 (by decide) (fun c1 => ?_) (fun c1 => ?_)
    · replace hf := z_ift c1 hf
      refine z_iload_n C dX4_foretold_70 rfl 3 rfl ?_
      cases hf
      exact R _ _ dX4_foretold_71
    · replace hf := z_iff c1 hf
      refine z_iload_n C dX4_foretold_11 rfl 1 rfl ?_
      refine z_aload_n C dX4_foretold_12 rfl 0 rfl ?_
      refine cg_Layers_winds C uX4_foretold_4 (by decide +kernel) dX4_foretold_13 ?_
      refine z_iload C dX4_foretold_16 4 rfl ?_
      obtain ⟨h2, hf⟩ := z_some hf
      refine z_iald C 26 cw_at_26 h2 dX4_foretold_18 ?_
      refine z_iload_n C dX4_foretold_19 rfl 2 rfl ?_
      refine z_imul C dX4_foretold_20 ?_
      refine z_iadd C dX4_foretold_21 ?_
      refine z_bipush C dX4_foretold_22 32 rfl ?_
      obtain ⟨q3, h4, hf⟩ := z_bind hf
      refine z_callSi C (rest := []) (tJ9_floorMod_7cf53 (ze_l E) (ze_D E) t _ h4) gX4_foretold_J9_floorMod_7cf53 rfl hdJ9_floorMod_7cf53 ⟨(Nat.le_of_ble_eq_true rfl), (Nat.le_of_ble_eq_true rfl)⟩ ⟨Nat.zero_le _, Nat.zero_le _⟩ rfl rfl (Nat.le_of_ble_eq_true rfl) dX4_foretold_24 ?_
      refine z_istore C [(5, .int q3), (0, .ref (a 5)), (1, .int v1), (2, .int v2), (3, .int v3), (4, .int v4)] dX4_foretold_27 (by decide) rfl ?_
      refine z_iload_n C dX4_foretold_29 rfl 4 rfl ?_
      refine z_aload_n C dX4_foretold_30 rfl 1 rfl ?_
      refine cg_Layers_cells C uX4_foretold_4 (by decide +kernel) dX4_foretold_31 ?_
      refine z_iload C dX4_foretold_34 5 rfl ?_
      refine z_bipush C dX4_foretold_36 32 rfl ?_
      refine z_imul C dX4_foretold_38 ?_
      refine z_iload C dX4_foretold_39 0 rfl ?_
      refine z_iconst C dX4_foretold_41 1 rfl ?_
      refine z_iadd C dX4_foretold_42 ?_
      refine z_bipush C dX4_foretold_43 32 rfl ?_
      obtain ⟨h5, hf⟩ := z_div hf
      refine z_irem C h5 dX4_foretold_45 ?_
      refine z_iadd C dX4_foretold_46 ?_
      obtain ⟨h6, hf⟩ := z_some hf
      refine z_iald C 25 cw_at_25 h6 dX4_foretold_47 ?_
      refine z_aload_n C dX4_foretold_48 rfl 1 rfl ?_
      refine cg_Layers_cells C uX4_foretold_4 (by decide +kernel) dX4_foretold_49 ?_
      refine z_iload C dX4_foretold_52 5 rfl ?_
      refine z_bipush C dX4_foretold_54 32 rfl ?_
      refine z_imul C dX4_foretold_56 ?_
      refine z_iload C dX4_foretold_57 0 rfl ?_
      refine z_iadd C dX4_foretold_59 ?_
      obtain ⟨h7, hf⟩ := z_some hf
      refine z_iald C 25 cw_at_25 h7 dX4_foretold_60 ?_
      refine z_isub C dX4_foretold_61 ?_
      refine z_iadd C dX4_foretold_62 ?_
      refine z_istore_n C [(3, .int (v3 + ((gA x 25 ((v4 * 32) + ((q3 + 1) - (q3 + 1) / 32 * 32)).toNatClampNeg) - (gA x 25 ((v4 * 32) + q3).toNatClampNeg)))), (5, .int q3), (0, .ref (a 5)), (1, .int v1), (2, .int v2), (4, .int v4)] dX4_foretold_63 rfl (by decide) rfl ?_
      refine z_iinc C (v4 + 1) [(4, .int (v4 + 1)), (3, .int (v3 + ((gA x 25 ((v4 * 32) + ((q3 + 1) - (q3 + 1) / 32 * 32)).toNatClampNeg) - (gA x 25 ((v4 * 32) + q3).toNatClampNeg)))), (5, .int q3), (0, .ref (a 5)), (1, .int v1), (2, .int v2)] dX4_foretold_64 5 rfl rfl (by decide) rfl ?_
      refine z_goto C 5 dX4_foretold_67 (by decide) ?_
      exact z_sub [3, 4, 5, 1, 0] rfl (ih _ _ _ _ _ hf)
theorem hdX4_foretold : yX4_foretold.cls = RX4 ∧ yX4_foretold.cls ≠ "java/lang/invoke/MethodHandle" ∧ yX4_foretold.cls ≠ "java/lang/invoke/VarHandle" ∧ (parseMethodDescriptor yX4_foretold.desc).map (fun d => d.parameters.length) = some 2 := by decide +kernel
set_option maxHeartbeats 4000000 in
set_option maxRecDepth 100000 in
theorem tX4_foretold (l : Launch) (D : va_G) (t : zTy) (a : Nat → Nat) {v1 : Int32} {v2 : Int32} {x : ST} {out : Int32 × ST} (hf : fX4_foretold v1 v2 x = some out) : zMi l yX4_foretold wsX4_foretold 1 22 D t [.ref (a 5), .int v1, .int v2] (CW t a x) out.1 (CW t a out.2) := by
  refine z_entry_i (cc := cX4_foretold) (nL := 6) (by decide) rfl (Nat.le_of_ble_eq_true rfl) (fun E _ _ C R => ?_)
  refine z_sub (lv' := [(0, .ref (a 5)), (1, .int v1), (2, .int v2)]) [0, 1, 2] rfl ?_
  rw [fX4_foretold] at hf
  refine z_iconst C dX4_foretold_0 0 rfl ?_
  refine z_istore_n C [(3, .int 0), (0, .ref (a 5)), (1, .int v1), (2, .int v2)] dX4_foretold_1 rfl (by decide) rfl ?_
  refine z_iconst C dX4_foretold_2 0 rfl ?_
  refine z_istore C [(4, .int 0), (3, .int 0), (0, .ref (a 5)), (1, .int v1), (2, .int v2)] dX4_foretold_3 (by decide) rfl ?_
  exact z_sub [2, 3, 4, 1, 0] rfl (kX4_foretold_5 E t a out C R 200 _ _ _ _ _ hf)
theorem uX5_setTerm_5 : ∀ w ∈ wsX50, w ∈ wsX5_setTerm := by decide +kernel
theorem hdX5_setTerm : yX5_setTerm.cls = RX5 ∧ yX5_setTerm.cls ≠ "java/lang/invoke/MethodHandle" ∧ yX5_setTerm.cls ≠ "java/lang/invoke/VarHandle" ∧ (parseMethodDescriptor yX5_setTerm.desc).map (fun d => d.parameters.length) = some 3 := by decide +kernel
set_option maxHeartbeats 4000000 in
set_option maxRecDepth 100000 in
theorem tX5_setTerm (l : Launch) (D : va_G) (t : zTy) (a : Nat → Nat) {v1 : Int32} {v2 : Int32} {v3 : Int32} {x : ST} {out : ST} (hf : fX5_setTerm v1 v2 v3 x = some out) : zMv l yX5_setTerm wsX5_setTerm 0 0 D t [.ref (a 6), .int v1, .int v2, .int v3] (CW t a x) (CW t a out) := by
  refine z_entry_v (cc := cX5_setTerm) (nL := 4) (by decide) rfl (Nat.le_of_ble_eq_true rfl) (fun E _ _ C R => ?_)
  refine z_sub (lv' := [(0, .ref (a 6)), (1, .int v1), (2, .int v2), (3, .int v3)]) [0, 1, 2, 3] rfl ?_
  rw [fX5_setTerm] at hf
  refine z_aload_n C dX5_setTerm_0 rfl 0 rfl ?_
  refine cg_Loop_terms C uX5_setTerm_5 (by decide +kernel) dX5_setTerm_1 ?_
  refine z_iload_n C dX5_setTerm_4 rfl 1 rfl ?_
  refine z_iconst C dX5_setTerm_5 5 rfl ?_
  refine z_imul C dX5_setTerm_6 ?_
  refine z_iload_n C dX5_setTerm_7 rfl 2 rfl ?_
  refine z_iadd C dX5_setTerm_8 ?_
  refine z_iload_n C dX5_setTerm_9 rfl 3 rfl ?_
  obtain ⟨h1, hf⟩ := z_some hf
  refine z_iast C 27 cw_at_27 h1 (w' := CW t a (sA x 27 ((v1 * 5) + v2) v3)) cw_up_27 dX5_setTerm_10 ?_
  cases hf
  exact R _ _ dX5_setTerm_11
theorem uX5_lastIsLess_5 : ∀ w ∈ wsX50, w ∈ wsX5_lastIsLess := by decide +kernel
theorem hdX5_lastIsLess : yX5_lastIsLess.cls = RX5 ∧ yX5_lastIsLess.cls ≠ "java/lang/invoke/MethodHandle" ∧ yX5_lastIsLess.cls ≠ "java/lang/invoke/VarHandle" ∧ (parseMethodDescriptor yX5_lastIsLess.desc).map (fun d => d.parameters.length) = some 1 := by decide +kernel
set_option maxHeartbeats 4000000 in
set_option maxRecDepth 100000 in
theorem tX5_lastIsLess (l : Launch) (D : va_G) (t : zTy) (a : Nat → Nat) {v1 : Int32} {x : ST} {out : Int32 × ST} (hf : fX5_lastIsLess v1 x = some out) : zMi l yX5_lastIsLess wsX5_lastIsLess 1 15 D t [.ref (a 6), .int v1] (CW t a x) out.1 (CW t a out.2) := by
  refine z_entry_z (cc := cX5_lastIsLess) (nL := 2) (by decide) rfl (Nat.le_of_ble_eq_true rfl) (fun E _ _ C R => ?_)
  refine z_sub (lv' := [(0, .ref (a 6)), (1, .int v1)]) [0, 1] rfl ?_
  rw [fX5_lastIsLess] at hf
  refine z_aload_n C dX5_lastIsLess_0 rfl 0 rfl ?_
  refine cg_Loop_mixed C uX5_lastIsLess_5 (by decide +kernel) dX5_lastIsLess_1 ?_
  refine z_iconst C dX5_lastIsLess_4 0 rfl ?_
  obtain ⟨h1, hf⟩ := z_some hf
  refine z_lald C 28 cw_at_28 h1 dX5_lastIsLess_5 ?_
  refine z_mabsl C (by decide +kernel) (by decide +kernel) (by decide +kernel) (by decide +kernel) (Nat.le_of_ble_eq_true rfl) (Nat.le_of_ble_eq_true rfl) (Nat.zero_le _) (Nat.zero_le _) dX5_lastIsLess_6 ?_
  refine z_aload_n C dX5_lastIsLess_9 rfl 0 rfl ?_
  refine cg_Loop_mixed C uX5_lastIsLess_5 (by decide +kernel) dX5_lastIsLess_10 ?_
  refine z_iload_n C dX5_lastIsLess_13 rfl 1 rfl ?_
  obtain ⟨h2, hf⟩ := z_some hf
  refine z_lald C 28 cw_at_28 h2 dX5_lastIsLess_14 ?_
  refine z_mabsl C (by decide +kernel) (by decide +kernel) (by decide +kernel) (by decide +kernel) (Nat.le_of_ble_eq_true rfl) (Nat.le_of_ble_eq_true rfl) (Nat.zero_le _) (Nat.zero_le _) dX5_lastIsLess_15 ?_
  refine z_lcmp_ge C 26 dX5_lastIsLess_18 dX5_lastIsLess_19 (by decide) (fun c3 => ?_) (fun c3 => ?_)
  · replace hf := z_ift c3 hf
    refine z_iconst C dX5_lastIsLess_26 0 rfl ?_
    obtain ⟨h4, hf⟩ := z_some hf
    cases hf
    exact R _ _ dX5_lastIsLess_27 h4
  · replace hf := z_iff c3 hf
    refine z_iconst C dX5_lastIsLess_22 1 rfl ?_
    refine z_goto C 27 dX5_lastIsLess_23 (by decide) ?_
    obtain ⟨h5, hf⟩ := z_some hf
    cases hf
    exact R _ _ dX5_lastIsLess_27 h5
theorem uX5_lower_5 : ∀ w ∈ wsX50, w ∈ wsX5_lower := by decide +kernel
set_option maxHeartbeats 4000000 in
set_option maxRecDepth 100000 in
theorem kX5_lower_52 (E : zE) (t : zTy) (a : Nat → Nat) (out : ST) (C : zC E cX5_lower 3 RX5 wsX5_lower (zrm 1 18) t) (R : zRv E cX5_lower 3 (CW t a out)) : ∀ (v1 : Int32) (x : ST), fX5_lower_52 v1 x = some out → zG E 3 0 0 (CW t a x) 52 [(0, .ref (a 6)), (1, .int v1)] [] := by
  intro v1 x hf
  rw [fX5_lower_52] at hf
  refine z_aload_n C dX5_lower_52 rfl 0 rfl ?_
  refine cg_Loop_lowered C uX5_lower_5 (by decide +kernel) dX5_lower_53 ?_
  refine z_iconst C dX5_lower_56 0 rfl ?_
  refine z_aload_n C dX5_lower_57 rfl 0 rfl ?_
  refine cg_Loop_mixed C uX5_lower_5 (by decide +kernel) dX5_lower_58 ?_
  refine z_iconst C dX5_lower_61 0 rfl ?_
  refine z_iload_n C dX5_lower_62 rfl 1 rfl ?_
  obtain ⟨h7, hf⟩ := z_some hf
  refine z_copyl C (by decide +kernel) (by decide +kernel) (by decide +kernel) (by decide +kernel) 29 28 cw_at_29 cw_at_28 (cpok_1 h7) (cpok_2 h7) (cpok_3 h7) (cpok_4 h7) (cpok_5 h7) (Nat.le_of_ble_eq_true rfl) (by decide) (w' := CW t a (sH x 28 (va_cpy (gB x 29) (gB x 28) (0 : Int32).toNatClampNeg (0 : Int32).toNatClampNeg (v1 : Int32).toNatClampNeg))) cw_up_28 dX5_lower_63 ?_
  cases hf
  exact R _ _ dX5_lower_66
set_option maxHeartbeats 4000000 in
set_option maxRecDepth 100000 in
theorem kX5_lower_2 (E : zE) (t : zTy) (a : Nat → Nat) (out : ST) (C : zC E cX5_lower 3 RX5 wsX5_lower (zrm 1 18) t) (R : zRv E cX5_lower 3 (CW t a out)) : ∀ (n : Nat) (v1 : Int32) (v2 : Int32) (x : ST), fX5_lower_2 n v1 v2 x = some out → zG E 3 0 0 (CW t a x) 2 [(0, .ref (a 6)), (1, .int v1), (2, .int v2)] [] := by
  intro n
  induction n with
  | zero =>
    intro v1 v2 x hf
    cases hf
  | succ n ih =>
    intro v1 v2 x hf
    rw [fX5_lower_2] at hf
    refine z_iload_n C dX5_lower_2 rfl 2 rfl ?_
    refine z_iload_n C dX5_lower_3 rfl 1 rfl ?_
    refine z_icmp_ge C 52 dX5_lower_4 (by decide) (fun c1 => ?_) (fun c1 => ?_)
    · replace hf := z_ift c1 hf
      exact z_sub [0, 1] rfl (kX5_lower_52 E t a out C R _ _ hf)
    · replace hf := z_iff c1 hf
      refine z_aload_n C dX5_lower_7 rfl 0 rfl ?_
      refine cg_Loop_lowered C uX5_lower_5 (by decide +kernel) dX5_lower_8 ?_
      refine z_iload_n C dX5_lower_11 rfl 2 rfl ?_
      refine z_aload_n C dX5_lower_12 rfl 0 rfl ?_
      refine cg_Loop_mixed C uX5_lower_5 (by decide +kernel) dX5_lower_13 ?_
      refine z_iload_n C dX5_lower_16 rfl 1 rfl ?_
      obtain ⟨h2, hf⟩ := z_some hf
      refine z_lald C 28 cw_at_28 h2 dX5_lower_17 ?_
      refine z_aload_n C dX5_lower_18 rfl 0 rfl ?_
      refine cg_Loop_mixed C uX5_lower_5 (by decide +kernel) dX5_lower_19 ?_
      refine z_iload_n C dX5_lower_22 rfl 2 rfl ?_
      refine z_iconst C dX5_lower_23 1 rfl ?_
      refine z_iadd C dX5_lower_24 ?_
      obtain ⟨h3, hf⟩ := z_some hf
      refine z_lald C 28 cw_at_28 h3 dX5_lower_25 ?_
      refine z_lmul C dX5_lower_26 ?_
      refine z_aload_n C dX5_lower_27 rfl 0 rfl ?_
      refine cg_Loop_mixed C uX5_lower_5 (by decide +kernel) dX5_lower_28 ?_
      refine z_iconst C dX5_lower_31 0 rfl ?_
      obtain ⟨h4, hf⟩ := z_some hf
      refine z_lald C 28 cw_at_28 h4 dX5_lower_32 ?_
      refine z_aload_n C dX5_lower_33 rfl 0 rfl ?_
      refine cg_Loop_mixed C uX5_lower_5 (by decide +kernel) dX5_lower_34 ?_
      refine z_iload_n C dX5_lower_37 rfl 1 rfl ?_
      refine z_iconst C dX5_lower_38 1 rfl ?_
      refine z_isub C dX5_lower_39 ?_
      refine z_iload_n C dX5_lower_40 rfl 2 rfl ?_
      refine z_isub C dX5_lower_41 ?_
      obtain ⟨h5, hf⟩ := z_some hf
      refine z_lald C 28 cw_at_28 h5 dX5_lower_42 ?_
      refine z_lmul C dX5_lower_43 ?_
      refine z_lsub C dX5_lower_44 ?_
      obtain ⟨h6, hf⟩ := z_some hf
      refine z_last C 29 cw_at_29 h6 (w' := CW t a (sB x 29 v2 (((gB x 28 v1.toNatClampNeg) * (gB x 28 (v2 + 1).toNatClampNeg)) - ((gB x 28 (0 : Int32).toNatClampNeg) * (gB x 28 ((v1 - 1) - v2).toNatClampNeg))))) cw_up_29 dX5_lower_45 ?_
      refine z_iinc C (v2 + 1) [(2, .int (v2 + 1)), (0, .ref (a 6)), (1, .int v1)] dX5_lower_46 2 rfl rfl (by decide) rfl ?_
      refine z_goto C 2 dX5_lower_49 (by decide) ?_
      exact z_sub [1, 2, 0] rfl (ih _ _ _ hf)
theorem hdX5_lower : yX5_lower.cls = RX5 ∧ yX5_lower.cls ≠ "java/lang/invoke/MethodHandle" ∧ yX5_lower.cls ≠ "java/lang/invoke/VarHandle" ∧ (parseMethodDescriptor yX5_lower.desc).map (fun d => d.parameters.length) = some 1 := by decide +kernel
set_option maxHeartbeats 4000000 in
set_option maxRecDepth 100000 in
theorem tX5_lower (l : Launch) (D : va_G) (t : zTy) (a : Nat → Nat) {v1 : Int32} {x : ST} {out : ST} (hf : fX5_lower v1 x = some out) : zMv l yX5_lower wsX5_lower 1 18 D t [.ref (a 6), .int v1] (CW t a x) (CW t a out) := by
  refine z_entry_v (cc := cX5_lower) (nL := 3) (by decide) rfl (Nat.le_of_ble_eq_true rfl) (fun E _ _ C R => ?_)
  refine z_sub (lv' := [(0, .ref (a 6)), (1, .int v1)]) [0, 1] rfl ?_
  rw [fX5_lower] at hf
  refine z_iconst C dX5_lower_0 0 rfl ?_
  refine z_istore_n C [(2, .int 0), (0, .ref (a 6)), (1, .int v1)] dX5_lower_1 rfl (by decide) rfl ?_
  exact z_sub [1, 2, 0] rfl (kX5_lower_2 E t a out C R 200 _ _ _ hf)
theorem uX5_zerosWithin_5 : ∀ w ∈ wsX50, w ∈ wsX5_zerosWithin := by decide +kernel
set_option maxHeartbeats 4000000 in
set_option maxRecDepth 100000 in
theorem kX5_zerosWithin_88 (E : zE) (t : zTy) (a : Nat → Nat) (out : Int32 × ST) (C : zC E cX5_zerosWithin 3 RX5 wsX5_zerosWithin (zrm 2 40) t) (R : zRz E cX5_zerosWithin 3 out.1 (CW t a out.2)) : ∀ (x : ST), fX5_zerosWithin_88 x = some out → zG E 3 0 0 (CW t a x) 88 [] [] := by
  intro x hf
  rw [fX5_zerosWithin_88] at hf
  refine z_iconst C dX5_zerosWithin_88 1 rfl ?_
  refine z_goto C 93 dX5_zerosWithin_89 (by decide) ?_
  obtain ⟨h24, hf⟩ := z_some hf
  cases hf
  exact R _ _ dX5_zerosWithin_93 h24
set_option maxHeartbeats 4000000 in
set_option maxRecDepth 100000 in
theorem kX5_zerosWithin_28 (E : zE) (t : zTy) (a : Nat → Nat) (out : Int32 × ST) (C : zC E cX5_zerosWithin 3 RX5 wsX5_zerosWithin (zrm 2 40) t) (R : zRz E cX5_zerosWithin 3 out.1 (CW t a out.2)) : ∀ (v2 : Int32) (x : ST), fX5_zerosWithin_28 v2 x = some out → zG E 3 0 0 (CW t a x) 28 [(0, .ref (a 6)), (2, .int v2)] [] := by
  intro v2 x hf
  rw [fX5_zerosWithin_28] at hf
  refine z_iload_n C dX5_zerosWithin_28 rfl 1 rfl ?_
  refine z_iconst C dX5_zerosWithin_29 2 rfl ?_
  refine z_icmp_ne C 76 dX5_zerosWithin_30 (by decide) (fun c8 => ?_) (fun c8 => ?_)
  · replace hf := z_iff c8 hf
    refine z_iload_n C dX5_zerosWithin_76 rfl 1 rfl ?_
    refine z_if_eq C 88 dX5_zerosWithin_77 (by decide) (fun c9 => ?_) (fun c9 => ?_)
    · replace hf := z_ift c9 hf
      exact z_sub [] rfl (kX5_zerosWithin_88 E t a out C R _ hf)
    · replace hf := z_iff c9 hf
      refine z_aload_n C dX5_zerosWithin_80 rfl 0 rfl ?_
      refine z_iload_n C dX5_zerosWithin_81 rfl 1 rfl ?_
      obtain ⟨q10, h11, hf⟩ := z_bind hf
      refine z_callVi C (rest := []) (tX5_lastIsLess (ze_l E) (ze_D E) t a h11) gX5_zerosWithin_X5_lastIsLess rfl hdX5_lastIsLess ⟨(Nat.le_of_ble_eq_true rfl), (Nat.le_of_ble_eq_true rfl)⟩ ⟨Nat.zero_le _, Nat.zero_le _⟩ 6 cw_at_6 rfl rfl rfl (Nat.le_of_ble_eq_true rfl) dX5_zerosWithin_82 ?_
      refine z_if_eq C 92 dX5_zerosWithin_85 (by decide) (fun c12 => ?_) (fun c12 => ?_)
      · replace hf := z_ift c12 hf
        refine z_iconst C dX5_zerosWithin_92 0 rfl ?_
        obtain ⟨h13, hf⟩ := z_some hf
        cases hf
        exact R _ _ dX5_zerosWithin_93 h13
      · replace hf := z_iff c12 hf
        exact z_sub [] rfl (kX5_zerosWithin_88 E t a out C R _ hf)
  · replace hf := z_ift c8 hf
    refine z_aload_n C dX5_zerosWithin_33 rfl 0 rfl ?_
    refine z_iconst C dX5_zerosWithin_34 2 rfl ?_
    obtain ⟨q14, h15, hf⟩ := z_bind hf
    refine z_callVi C (rest := []) (tX5_lastIsLess (ze_l E) (ze_D E) t a h15) gX5_zerosWithin_X5_lastIsLess rfl hdX5_lastIsLess ⟨(Nat.le_of_ble_eq_true rfl), (Nat.le_of_ble_eq_true rfl)⟩ ⟨Nat.zero_le _, Nat.zero_le _⟩ 6 cw_at_6 rfl rfl rfl (Nat.le_of_ble_eq_true rfl) dX5_zerosWithin_35 ?_
    refine z_if_eq C 74 dX5_zerosWithin_38 (by decide) (fun c16 => ?_) (fun c16 => ?_)
    · replace hf := z_ift c16 hf
      refine z_iconst C dX5_zerosWithin_74 0 rfl ?_
      obtain ⟨h17, hf⟩ := z_some hf
      cases hf
      exact R _ _ dX5_zerosWithin_75 h17
    · replace hf := z_iff c16 hf
      refine z_aload_n C dX5_zerosWithin_41 rfl 0 rfl ?_
      refine cg_Loop_mixed C uX5_zerosWithin_5 (by decide +kernel) dX5_zerosWithin_42 ?_
      refine z_iconst C dX5_zerosWithin_45 1 rfl ?_
      obtain ⟨h18, hf⟩ := z_some hf
      refine z_lald C 28 cw_at_28 h18 dX5_zerosWithin_46 ?_
      refine z_mabsl C (by decide +kernel) (by decide +kernel) (by decide +kernel) (by decide +kernel) (Nat.le_of_ble_eq_true rfl) (Nat.le_of_ble_eq_true rfl) (Nat.zero_le _) (Nat.zero_le _) dX5_zerosWithin_47 ?_
      refine z_aload_n C dX5_zerosWithin_50 rfl 0 rfl ?_
      refine cg_Loop_mixed C uX5_zerosWithin_5 (by decide +kernel) dX5_zerosWithin_51 ?_
      refine z_iconst C dX5_zerosWithin_54 2 rfl ?_
      obtain ⟨h19, hf⟩ := z_some hf
      refine z_lald C 28 cw_at_28 h19 dX5_zerosWithin_55 ?_
      refine z_aload_n C dX5_zerosWithin_56 rfl 0 rfl ?_
      refine cg_Loop_mixed C uX5_zerosWithin_5 (by decide +kernel) dX5_zerosWithin_57 ?_
      refine z_iconst C dX5_zerosWithin_60 0 rfl ?_
      obtain ⟨h20, hf⟩ := z_some hf
      refine z_lald C 28 cw_at_28 h20 dX5_zerosWithin_61 ?_
      refine z_ladd C dX5_zerosWithin_62 ?_
      refine z_mabsl C (by decide +kernel) (by decide +kernel) (by decide +kernel) (by decide +kernel) (Nat.le_of_ble_eq_true rfl) (Nat.le_of_ble_eq_true rfl) (Nat.zero_le _) (Nat.zero_le _) dX5_zerosWithin_63 ?_
      refine z_lcmp_ge C 74 dX5_zerosWithin_66 dX5_zerosWithin_67 (by decide) (fun c21 => ?_) (fun c21 => ?_)
      · replace hf := z_ift c21 hf
        refine z_iconst C dX5_zerosWithin_74 0 rfl ?_
        obtain ⟨h22, hf⟩ := z_some hf
        cases hf
        exact R _ _ dX5_zerosWithin_75 h22
      · replace hf := z_iff c21 hf
        refine z_iconst C dX5_zerosWithin_70 1 rfl ?_
        refine z_goto C 75 dX5_zerosWithin_71 (by decide) ?_
        obtain ⟨h23, hf⟩ := z_some hf
        cases hf
        exact R _ _ dX5_zerosWithin_75 h23
set_option maxHeartbeats 4000000 in
set_option maxRecDepth 100000 in
theorem kX5_zerosWithin_2 (E : zE) (t : zTy) (a : Nat → Nat) (out : Int32 × ST) (C : zC E cX5_zerosWithin 3 RX5 wsX5_zerosWithin (zrm 2 40) t) (R : zRz E cX5_zerosWithin 3 out.1 (CW t a out.2)) : ∀ (n : Nat) (v2 : Int32) (x : ST), fX5_zerosWithin_2 n v2 x = some out → zG E 3 0 0 (CW t a x) 2 [(0, .ref (a 6)), (2, .int v2)] [] := by
  intro n
  induction n with
  | zero =>
    intro v2 x hf
    cases hf
  | succ n ih =>
    intro v2 x hf
    rw [fX5_zerosWithin_2] at hf
    refine z_iload_n C dX5_zerosWithin_2 rfl 1 rfl ?_
    refine z_iconst C dX5_zerosWithin_3 2 rfl ?_
    refine z_icmp_le C 28 dX5_zerosWithin_4 (by decide) (fun c1 => ?_) (fun c1 => ?_)
    · replace hf := z_ift c1 hf
      exact z_sub [0, 1] rfl (kX5_zerosWithin_28 E t a out C R _ _ hf)
    · replace hf := z_iff c1 hf
      refine z_aload_n C dX5_zerosWithin_7 rfl 0 rfl ?_
      refine z_iload_n C dX5_zerosWithin_8 rfl 1 rfl ?_
      obtain ⟨q2, h3, hf⟩ := z_bind hf
      refine z_callVi C (rest := []) (tX5_lastIsLess (ze_l E) (ze_D E) t a h3) gX5_zerosWithin_X5_lastIsLess rfl hdX5_lastIsLess ⟨(Nat.le_of_ble_eq_true rfl), (Nat.le_of_ble_eq_true rfl)⟩ ⟨Nat.zero_le _, Nat.zero_le _⟩ 6 cw_at_6 rfl rfl rfl (Nat.le_of_ble_eq_true rfl) dX5_zerosWithin_9 ?_
      refine z_if_ne C 17 dX5_zerosWithin_12 (by decide) (fun c4 => ?_) (fun c4 => ?_)
      · replace hf := z_iff c4 hf
        refine z_aload_n C dX5_zerosWithin_17 rfl 0 rfl ?_
        refine z_iload_n C dX5_zerosWithin_18 rfl 1 rfl ?_
        obtain ⟨q5, h6, hf⟩ := z_bind hf
        refine z_callVv C (rest := []) (tX5_lower (ze_l E) (ze_D E) t a h6) gX5_zerosWithin_X5_lower rfl hdX5_lower ⟨(Nat.le_of_ble_eq_true rfl), (Nat.le_of_ble_eq_true rfl)⟩ ⟨Nat.zero_le _, Nat.zero_le _⟩ 6 cw_at_6 rfl rfl rfl (Nat.le_of_ble_eq_true rfl) dX5_zerosWithin_19 ?_
        refine z_iinc C (v2 + (-1)) [(2, .int (v2 + (-1))), (0, .ref (a 6))] dX5_zerosWithin_22 1 rfl rfl (by decide) rfl ?_
        refine z_goto C 2 dX5_zerosWithin_25 (by decide) ?_
        exact z_sub [1, 0] rfl (ih _ _ hf)
      · replace hf := z_ift c4 hf
        refine z_iconst C dX5_zerosWithin_15 0 rfl ?_
        obtain ⟨h7, hf⟩ := z_some hf
        cases hf
        exact R _ _ dX5_zerosWithin_16 h7
theorem hdX5_zerosWithin : yX5_zerosWithin.cls = RX5 ∧ yX5_zerosWithin.cls ≠ "java/lang/invoke/MethodHandle" ∧ yX5_zerosWithin.cls ≠ "java/lang/invoke/VarHandle" ∧ (parseMethodDescriptor yX5_zerosWithin.desc).map (fun d => d.parameters.length) = some 1 := by decide +kernel
set_option maxHeartbeats 4000000 in
set_option maxRecDepth 100000 in
theorem tX5_zerosWithin (l : Launch) (D : va_G) (t : zTy) (a : Nat → Nat) {v1 : Int32} {x : ST} {out : Int32 × ST} (hf : fX5_zerosWithin v1 x = some out) : zMi l yX5_zerosWithin wsX5_zerosWithin 2 40 D t [.ref (a 6), .int v1] (CW t a x) out.1 (CW t a out.2) := by
  refine z_entry_z (cc := cX5_zerosWithin) (nL := 3) (by decide) rfl (Nat.le_of_ble_eq_true rfl) (fun E _ _ C R => ?_)
  refine z_sub (lv' := [(0, .ref (a 6)), (1, .int v1)]) [0, 1] rfl ?_
  rw [fX5_zerosWithin] at hf
  refine z_iload_n C dX5_zerosWithin_0 rfl 1 rfl ?_
  refine z_istore_n C [(2, .int v1), (0, .ref (a 6)), (1, .int v1)] dX5_zerosWithin_1 rfl (by decide) rfl ?_
  exact z_sub [1, 0] rfl (kX5_zerosWithin_2 E t a out C R 200 _ _ hf)
theorem uX5_isSteady_5 : ∀ w ∈ wsX50, w ∈ wsX5_isSteady := by decide +kernel
set_option maxHeartbeats 4000000 in
set_option maxRecDepth 100000 in
theorem kX5_isSteady_66 (E : zE) (t : zTy) (a : Nat → Nat) (out : Int32 × ST) (C : zC E cX5_isSteady 3 RX5 wsX5_isSteady (zrm 3 62) t) (R : zRz E cX5_isSteady 3 out.1 (CW t a out.2)) : ∀ (v2 : Int32) (x : ST), fX5_isSteady_66 v2 x = some out → zG E 3 0 0 (CW t a x) 66 [(0, .ref (a 6)), (2, .int v2)] [] := by
  intro v2 x hf
  rw [fX5_isSteady_66] at hf
  refine z_iload_n C dX5_isSteady_66 rfl 1 rfl ?_
  refine z_if_lt C 82 dX5_isSteady_67 (by decide) (fun c8 => ?_) (fun c8 => ?_)
  · replace hf := z_ift c8 hf
    refine z_iconst C dX5_isSteady_82 0 rfl ?_
    obtain ⟨h9, hf⟩ := z_some hf
    cases hf
    exact R _ _ dX5_isSteady_83 h9
  · replace hf := z_iff c8 hf
    refine z_aload_n C dX5_isSteady_70 rfl 0 rfl ?_
    refine z_iload_n C dX5_isSteady_71 rfl 1 rfl ?_
    obtain ⟨q10, h11, hf⟩ := z_bind hf
    refine z_callVi C (rest := []) (tX5_zerosWithin (ze_l E) (ze_D E) t a h11) gX5_isSteady_X5_zerosWithin rfl hdX5_zerosWithin ⟨(Nat.le_of_ble_eq_true rfl), (Nat.le_of_ble_eq_true rfl)⟩ ⟨Nat.zero_le _, Nat.zero_le _⟩ 6 cw_at_6 rfl rfl rfl (Nat.le_of_ble_eq_true rfl) dX5_isSteady_72 ?_
    refine z_if_eq C 82 dX5_isSteady_75 (by decide) (fun c12 => ?_) (fun c12 => ?_)
    · replace hf := z_ift c12 hf
      refine z_iconst C dX5_isSteady_82 0 rfl ?_
      obtain ⟨h13, hf⟩ := z_some hf
      cases hf
      exact R _ _ dX5_isSteady_83 h13
    · replace hf := z_iff c12 hf
      refine z_iconst C dX5_isSteady_78 1 rfl ?_
      refine z_goto C 83 dX5_isSteady_79 (by decide) ?_
      obtain ⟨h14, hf⟩ := z_some hf
      cases hf
      exact R _ _ dX5_isSteady_83 h14
set_option maxHeartbeats 4000000 in
set_option maxRecDepth 100000 in
theorem kX5_isSteady_45 (E : zE) (t : zTy) (a : Nat → Nat) (out : Int32 × ST) (C : zC E cX5_isSteady 3 RX5 wsX5_isSteady (zrm 3 62) t) (R : zRz E cX5_isSteady 3 out.1 (CW t a out.2)) : ∀ (n : Nat) (v2 : Int32) (x : ST), fX5_isSteady_45 n v2 x = some out → zG E 3 0 0 (CW t a x) 45 [(0, .ref (a 6)), (2, .int v2)] [] := by
  intro n
  induction n with
  | zero =>
    intro v2 x hf
    cases hf
  | succ n ih =>
    intro v2 x hf
    rw [fX5_isSteady_45] at hf
    refine z_iload_n C dX5_isSteady_45 rfl 1 rfl ?_
    refine z_if_lt C 66 dX5_isSteady_46 (by decide) (fun c5 => ?_) (fun c5 => ?_)
    · replace hf := z_ift c5 hf
      exact z_sub [0, 1] rfl (kX5_isSteady_66 E t a out C R _ _ hf)
    · replace hf := z_iff c5 hf
      refine z_aload_n C dX5_isSteady_49 rfl 0 rfl ?_
      refine cg_Loop_mixed C uX5_isSteady_5 (by decide +kernel) dX5_isSteady_50 ?_
      refine z_iload_n C dX5_isSteady_53 rfl 1 rfl ?_
      obtain ⟨h6, hf⟩ := z_some hf
      refine z_lald C 28 cw_at_28 h6 dX5_isSteady_54 ?_
      refine z_lconst C dX5_isSteady_55 0 rfl ?_
      refine z_lcmp_ne C 66 dX5_isSteady_56 dX5_isSteady_57 (by decide) (fun c7 => ?_) (fun c7 => ?_)
      · replace hf := z_iff c7 hf
        exact z_sub [0, 1] rfl (kX5_isSteady_66 E t a out C R _ _ hf)
      · replace hf := z_ift c7 hf
        refine z_iinc C (v2 + (-1)) [(2, .int (v2 + (-1))), (0, .ref (a 6))] dX5_isSteady_60 1 rfl rfl (by decide) rfl ?_
        refine z_goto C 45 dX5_isSteady_63 (by decide) ?_
        exact z_sub [1, 0] rfl (ih _ _ hf)
set_option maxHeartbeats 4000000 in
set_option maxRecDepth 100000 in
theorem kX5_isSteady_43 (E : zE) (t : zTy) (a : Nat → Nat) (out : Int32 × ST) (C : zC E cX5_isSteady 3 RX5 wsX5_isSteady (zrm 3 62) t) (R : zRz E cX5_isSteady 3 out.1 (CW t a out.2)) : ∀ (x : ST), fX5_isSteady_43 x = some out → zG E 3 0 0 (CW t a x) 43 [(0, .ref (a 6))] [] := by
  intro x hf
  rw [fX5_isSteady_43] at hf
  refine z_iconst C dX5_isSteady_43 4 rfl ?_
  refine z_istore_n C [(2, .int 4), (0, .ref (a 6))] dX5_isSteady_44 rfl (by decide) rfl ?_
  exact z_sub [1, 0] rfl (kX5_isSteady_45 E t a out C R 200 _ _ hf)
set_option maxHeartbeats 4000000 in
set_option maxRecDepth 100000 in
theorem kX5_isSteady_2 (E : zE) (t : zTy) (a : Nat → Nat) (out : Int32 × ST) (C : zC E cX5_isSteady 3 RX5 wsX5_isSteady (zrm 3 62) t) (R : zRz E cX5_isSteady 3 out.1 (CW t a out.2)) : ∀ (n : Nat) (v1 : Int32) (v2 : Int32) (x : ST), fX5_isSteady_2 n v1 v2 x = some out → zG E 3 0 0 (CW t a x) 2 [(0, .ref (a 6)), (1, .int v1), (2, .int v2)] [] := by
  intro n
  induction n with
  | zero =>
    intro v1 v2 x hf
    cases hf
  | succ n ih =>
    intro v1 v2 x hf
    rw [fX5_isSteady_2] at hf
    refine z_iload_n C dX5_isSteady_2 rfl 2 rfl ?_
    refine z_iconst C dX5_isSteady_3 5 rfl ?_
    refine z_icmp_ge C 43 dX5_isSteady_4 (by decide) (fun c1 => ?_) (fun c1 => ?_)
    · replace hf := z_ift c1 hf
      exact z_sub [0] rfl (kX5_isSteady_43 E t a out C R _ hf)
    · replace hf := z_iff c1 hf
      refine z_aload_n C dX5_isSteady_7 rfl 0 rfl ?_
      refine cg_Loop_mixed C uX5_isSteady_5 (by decide +kernel) dX5_isSteady_8 ?_
      refine z_iload_n C dX5_isSteady_11 rfl 2 rfl ?_
      refine z_ldc2 C 100 (by decide +kernel) dX5_isSteady_12 ?_
      refine z_aload_n C dX5_isSteady_15 rfl 0 rfl ?_
      refine cg_Loop_terms C uX5_isSteady_5 (by decide +kernel) dX5_isSteady_16 ?_
      refine z_iload_n C dX5_isSteady_19 rfl 2 rfl ?_
      obtain ⟨h2, hf⟩ := z_some hf
      refine z_iald C 27 cw_at_27 h2 dX5_isSteady_20 ?_
      refine z_i2l C dX5_isSteady_21 ?_
      refine z_lmul C dX5_isSteady_22 ?_
      refine z_iload_n C dX5_isSteady_23 rfl 1 rfl ?_
      refine z_i2l C dX5_isSteady_24 ?_
      refine z_aload_n C dX5_isSteady_25 rfl 0 rfl ?_
      refine cg_Loop_terms C uX5_isSteady_5 (by decide +kernel) dX5_isSteady_26 ?_
      refine z_iconst C dX5_isSteady_29 5 rfl ?_
      refine z_iload_n C dX5_isSteady_30 rfl 2 rfl ?_
      refine z_iadd C dX5_isSteady_31 ?_
      obtain ⟨h3, hf⟩ := z_some hf
      refine z_iald C 27 cw_at_27 h3 dX5_isSteady_32 ?_
      refine z_i2l C dX5_isSteady_33 ?_
      refine z_lmul C dX5_isSteady_34 ?_
      refine z_ladd C dX5_isSteady_35 ?_
      obtain ⟨h4, hf⟩ := z_some hf
      refine z_last C 28 cw_at_28 h4 (w' := CW t a (sB x 28 v2 ((100 * ((gA x 27 v2.toNatClampNeg).toInt64)) + (v1.toInt64 * ((gA x 27 (5 + v2).toNatClampNeg).toInt64))))) cw_up_28 dX5_isSteady_36 ?_
      refine z_iinc C (v2 + 1) [(2, .int (v2 + 1)), (0, .ref (a 6)), (1, .int v1)] dX5_isSteady_37 2 rfl rfl (by decide) rfl ?_
      refine z_goto C 2 dX5_isSteady_40 (by decide) ?_
      exact z_sub [1, 2, 0] rfl (ih _ _ _ hf)
theorem hdX5_isSteady : yX5_isSteady.cls = RX5 ∧ yX5_isSteady.cls ≠ "java/lang/invoke/MethodHandle" ∧ yX5_isSteady.cls ≠ "java/lang/invoke/VarHandle" ∧ (parseMethodDescriptor yX5_isSteady.desc).map (fun d => d.parameters.length) = some 1 := by decide +kernel
set_option maxHeartbeats 4000000 in
set_option maxRecDepth 100000 in
theorem tX5_isSteady (l : Launch) (D : va_G) (t : zTy) (a : Nat → Nat) {v1 : Int32} {x : ST} {out : Int32 × ST} (hf : fX5_isSteady v1 x = some out) : zMi l yX5_isSteady wsX5_isSteady 3 62 D t [.ref (a 6), .int v1] (CW t a x) out.1 (CW t a out.2) := by
  refine z_entry_z (cc := cX5_isSteady) (nL := 3) (by decide) rfl (Nat.le_of_ble_eq_true rfl) (fun E _ _ C R => ?_)
  refine z_sub (lv' := [(0, .ref (a 6)), (1, .int v1)]) [0, 1] rfl ?_
  rw [fX5_isSteady] at hf
  refine z_iconst C dX5_isSteady_0 0 rfl ?_
  refine z_istore_n C [(2, .int 0), (0, .ref (a 6)), (1, .int v1)] dX5_isSteady_1 rfl (by decide) rfl ?_
  exact z_sub [1, 2, 0] rfl (kX5_isSteady_2 E t a out C R 200 _ _ _ hf)
theorem uX6_level_6 : ∀ w ∈ wsX60, w ∈ wsX6_level := by decide +kernel
theorem hdX6_level : yX6_level.cls = RX6 ∧ yX6_level.cls ≠ "java/lang/invoke/MethodHandle" ∧ yX6_level.cls ≠ "java/lang/invoke/VarHandle" ∧ (parseMethodDescriptor yX6_level.desc).map (fun d => d.parameters.length) = some 0 := by decide +kernel
set_option maxHeartbeats 4000000 in
set_option maxRecDepth 100000 in
theorem tX6_level (l : Launch) (D : va_G) (t : zTy) (a : Nat → Nat)  {x : ST} {out : ST} (hf : fX6_level  x = some out) : zMv l yX6_level wsX6_level 1 23 D t [.ref (a 7)] (CW t a x) (CW t a out) := by
  refine z_entry_v (cc := cX6_level) (nL := 1) (by decide) rfl (Nat.le_of_ble_eq_true rfl) (fun E _ _ C R => ?_)
  refine z_sub (lv' := [(0, .ref (a 7))]) [0] rfl ?_
  rw [fX6_level] at hf
  refine z_aload_n C dX6_level_0 rfl 0 rfl ?_
  refine cg_Parts_units C uX6_level_6 (by decide +kernel) dX6_level_1 ?_
  refine z_iconst C dX6_level_4 0 rfl ?_
  refine z_callSv C (w' := CW t a (sF x 31 (zfill (gA x 31) 5 0))) (rest := []) (tJ7_fill_53178 (ze_l E) (ze_D E) t _ 31 cw_at_31 (by decide) cw_up_31) gX6_level_J7_fill_53178 rfl hdJ7_fill_53178 ⟨(Nat.le_of_ble_eq_true rfl), (Nat.le_of_ble_eq_true rfl)⟩ ⟨Nat.zero_le _, Nat.zero_le _⟩ rfl rfl (Nat.le_of_ble_eq_true rfl) dX6_level_5 ?_
  cases hf
  exact R _ _ dX6_level_8
theorem uX6_renew_6 : ∀ w ∈ wsX60, w ∈ wsX6_renew := by decide +kernel
set_option maxHeartbeats 4000000 in
set_option maxRecDepth 100000 in
theorem kX6_renew_30 (E : zE) (t : zTy) (a : Nat → Nat) (out : ST) (C : zC E cX6_renew 3 RX6 wsX6_renew (zrm 2 43) t) (R : zRv E cX6_renew 3 (CW t a out)) : ∀ (x : ST), fX6_renew_30 x = some out → zG E 3 0 0 (CW t a x) 30 [(0, .ref (a 7))] [] := by
  intro x hf
  rw [fX6_renew_30] at hf
  refine z_aload_n C dX6_renew_30 rfl 0 rfl ?_
  obtain ⟨q3, h4, hf⟩ := z_bind hf
  refine z_callVv C (rest := []) (tX6_level (ze_l E) (ze_D E) t a h4) gX6_renew_X6_level rfl hdX6_level ⟨(Nat.le_of_ble_eq_true rfl), (Nat.le_of_ble_eq_true rfl)⟩ ⟨Nat.zero_le _, Nat.zero_le _⟩ 7 cw_at_7 rfl rfl rfl (Nat.le_of_ble_eq_true rfl) dX6_renew_31 ?_
  cases hf
  exact R _ _ dX6_renew_34
set_option maxHeartbeats 4000000 in
set_option maxRecDepth 100000 in
theorem kX6_renew_12 (E : zE) (t : zTy) (a : Nat → Nat) (out : ST) (C : zC E cX6_renew 3 RX6 wsX6_renew (zrm 2 43) t) (R : zRv E cX6_renew 3 (CW t a out)) : ∀ (n : Nat) (v2 : Int32) (x : ST), fX6_renew_12 n v2 x = some out → zG E 3 0 0 (CW t a x) 12 [(0, .ref (a 7)), (2, .int v2)] [] := by
  intro n
  induction n with
  | zero =>
    intro v2 x hf
    cases hf
  | succ n ih =>
    intro v2 x hf
    rw [fX6_renew_12] at hf
    refine z_iload_n C dX6_renew_12 rfl 1 rfl ?_
    refine z_iconst C dX6_renew_13 5 rfl ?_
    refine z_icmp_ge C 30 dX6_renew_14 (by decide) (fun c1 => ?_) (fun c1 => ?_)
    · replace hf := z_ift c1 hf
      exact z_sub [0] rfl (kX6_renew_30 E t a out C R _ hf)
    · replace hf := z_iff c1 hf
      refine z_aload_n C dX6_renew_17 rfl 0 rfl ?_
      refine cg_Parts_dead C uX6_renew_6 (by decide +kernel) dX6_renew_18 ?_
      refine z_iload_n C dX6_renew_21 rfl 1 rfl ?_
      refine z_iconst C dX6_renew_22 0 rfl ?_
      obtain ⟨h2, hf⟩ := z_some hf
      refine z_zast C 30 cw_at_30 h2 (w' := CW t a (sA x 30 v2 (vp_nar .boolean 0))) cw_up_30 dX6_renew_23 ?_
      refine z_iinc C (v2 + 1) [(2, .int (v2 + 1)), (0, .ref (a 7))] dX6_renew_24 1 rfl rfl (by decide) rfl ?_
      refine z_goto C 12 dX6_renew_27 (by decide) ?_
      exact z_sub [1, 0] rfl (ih _ _ hf)
theorem hdX6_renew : yX6_renew.cls = RX6 ∧ yX6_renew.cls ≠ "java/lang/invoke/MethodHandle" ∧ yX6_renew.cls ≠ "java/lang/invoke/VarHandle" ∧ (parseMethodDescriptor yX6_renew.desc).map (fun d => d.parameters.length) = some 1 := by decide +kernel
set_option maxHeartbeats 4000000 in
set_option maxRecDepth 100000 in
theorem tX6_renew (l : Launch) (D : va_G) (t : zTy) (a : Nat → Nat) {v1 : Int32} {x : ST} {out : ST} (hf : fX6_renew v1 x = some out) : zMv l yX6_renew wsX6_renew 2 43 D t [.ref (a 7), .int v1] (CW t a x) (CW t a out) := by
  refine z_entry_v (cc := cX6_renew) (nL := 3) (by decide) rfl (Nat.le_of_ble_eq_true rfl) (fun E _ _ C R => ?_)
  refine z_sub (lv' := [(0, .ref (a 7)), (1, .int v1)]) [0, 1] rfl ?_
  rw [fX6_renew] at hf
  refine z_aload_n C dX6_renew_0 rfl 0 rfl ?_
  refine z_iload_n C dX6_renew_1 rfl 1 rfl ?_
  refine cp_Parts_count C uX6_renew_6 (by decide +kernel) dX6_renew_2 ?_
  refine z_aload_n C dX6_renew_5 rfl 0 rfl ?_
  refine z_iconst C dX6_renew_6 0 rfl ?_
  refine cp_Parts_tip C uX6_renew_6 (by decide +kernel) dX6_renew_7 ?_
  refine z_iconst C dX6_renew_10 0 rfl ?_
  refine z_istore_n C [(2, .int 0), (0, .ref (a 7)), (1, .int v1)] dX6_renew_11 rfl (by decide) rfl ?_
  exact z_sub [1, 0] rfl (kX6_renew_12 E t a out C R 200 _ _ hf)
theorem uX6_tip_6 : ∀ w ∈ wsX60, w ∈ wsX6_tip := by decide +kernel
theorem hdX6_tip : yX6_tip.cls = RX6 ∧ yX6_tip.cls ≠ "java/lang/invoke/MethodHandle" ∧ yX6_tip.cls ≠ "java/lang/invoke/VarHandle" ∧ (parseMethodDescriptor yX6_tip.desc).map (fun d => d.parameters.length) = some 0 := by decide +kernel
set_option maxHeartbeats 4000000 in
set_option maxRecDepth 100000 in
theorem tX6_tip (l : Launch) (D : va_G) (t : zTy) (a : Nat → Nat)  {x : ST} {out : Int32 × ST} (hf : fX6_tip  x = some out) : zMi l yX6_tip wsX6_tip 0 0 D t [.ref (a 7)] (CW t a x) out.1 (CW t a out.2) := by
  refine z_entry_i (cc := cX6_tip) (nL := 1) (by decide) rfl (Nat.le_of_ble_eq_true rfl) (fun E _ _ C R => ?_)
  refine z_sub (lv' := [(0, .ref (a 7))]) [0] rfl ?_
  rw [fX6_tip] at hf
  refine z_aload_n C dX6_tip_0 rfl 0 rfl ?_
  refine cg_Parts_tip C uX6_tip_6 (by decide +kernel) dX6_tip_1 ?_
  cases hf
  exact R _ _ dX6_tip_4
theorem uX6_swapDead_6 : ∀ w ∈ wsX60, w ∈ wsX6_swapDead := by decide +kernel
theorem hdX6_swapDead : yX6_swapDead.cls = RX6 ∧ yX6_swapDead.cls ≠ "java/lang/invoke/MethodHandle" ∧ yX6_swapDead.cls ≠ "java/lang/invoke/VarHandle" ∧ (parseMethodDescriptor yX6_swapDead.desc).map (fun d => d.parameters.length) = some 2 := by decide +kernel
set_option maxHeartbeats 4000000 in
set_option maxRecDepth 100000 in
theorem tX6_swapDead (l : Launch) (D : va_G) (t : zTy) (a : Nat → Nat) {v1 : Int32} {v2 : Int32} {x : ST} {out : Int32 × ST} (hf : fX6_swapDead v1 v2 x = some out) : zMi l yX6_swapDead wsX6_swapDead 0 0 D t [.ref (a 7), .int v1, .int v2] (CW t a x) out.1 (CW t a out.2) := by
  refine z_entry_z (cc := cX6_swapDead) (nL := 4) (by decide) rfl (Nat.le_of_ble_eq_true rfl) (fun E _ _ C R => ?_)
  refine z_sub (lv' := [(0, .ref (a 7)), (1, .int v1), (2, .int v2)]) [0, 1, 2] rfl ?_
  rw [fX6_swapDead] at hf
  refine z_aload_n C dX6_swapDead_0 rfl 0 rfl ?_
  refine cg_Parts_dead C uX6_swapDead_6 (by decide +kernel) dX6_swapDead_1 ?_
  refine z_iload_n C dX6_swapDead_4 rfl 1 rfl ?_
  obtain ⟨h1, hf⟩ := z_some hf
  refine z_zald C 30 cw_at_30 h1 dX6_swapDead_5 ?_
  refine z_istore_n C [(3, .int (gA x 30 v1.toNatClampNeg)), (0, .ref (a 7)), (1, .int v1), (2, .int v2)] dX6_swapDead_6 rfl (by decide) rfl ?_
  refine z_aload_n C dX6_swapDead_7 rfl 1 rfl ?_
  refine cg_Parts_dead C uX6_swapDead_6 (by decide +kernel) dX6_swapDead_8 ?_
  refine z_iload_n C dX6_swapDead_11 rfl 2 rfl ?_
  refine z_iload_n C dX6_swapDead_12 rfl 3 rfl ?_
  obtain ⟨h2, hf⟩ := z_some hf
  refine z_zast C 30 cw_at_30 h2 (w' := CW t a (sA x 30 v1 (vp_nar .boolean v2))) cw_up_30 dX6_swapDead_13 ?_
  refine z_iload_n C dX6_swapDead_14 rfl 0 rfl ?_
  obtain ⟨h3, hf⟩ := z_some hf
  cases hf
  exact R _ _ dX6_swapDead_15 h3
theorem uX6_unitsOf_6 : ∀ w ∈ wsX60, w ∈ wsX6_unitsOf := by decide +kernel
theorem hdX6_unitsOf : yX6_unitsOf.cls = RX6 ∧ yX6_unitsOf.cls ≠ "java/lang/invoke/MethodHandle" ∧ yX6_unitsOf.cls ≠ "java/lang/invoke/VarHandle" ∧ (parseMethodDescriptor yX6_unitsOf.desc).map (fun d => d.parameters.length) = some 1 := by decide +kernel
set_option maxHeartbeats 4000000 in
set_option maxRecDepth 100000 in
theorem tX6_unitsOf (l : Launch) (D : va_G) (t : zTy) (a : Nat → Nat) {v1 : Int32} {x : ST} {out : Int32 × ST} (hf : fX6_unitsOf v1 x = some out) : zMi l yX6_unitsOf wsX6_unitsOf 0 0 D t [.ref (a 7), .int v1] (CW t a x) out.1 (CW t a out.2) := by
  refine z_entry_i (cc := cX6_unitsOf) (nL := 2) (by decide) rfl (Nat.le_of_ble_eq_true rfl) (fun E _ _ C R => ?_)
  refine z_sub (lv' := [(0, .ref (a 7)), (1, .int v1)]) [0, 1] rfl ?_
  rw [fX6_unitsOf] at hf
  refine z_aload_n C dX6_unitsOf_0 rfl 0 rfl ?_
  refine cg_Parts_units C uX6_unitsOf_6 (by decide +kernel) dX6_unitsOf_1 ?_
  refine z_iload_n C dX6_unitsOf_4 rfl 1 rfl ?_
  obtain ⟨h1, hf⟩ := z_some hf
  refine z_iald C 31 cw_at_31 h1 dX6_unitsOf_5 ?_
  cases hf
  exact R _ _ dX6_unitsOf_6
theorem uX6_swapUnits_6 : ∀ w ∈ wsX60, w ∈ wsX6_swapUnits := by decide +kernel
theorem hdX6_swapUnits : yX6_swapUnits.cls = RX6 ∧ yX6_swapUnits.cls ≠ "java/lang/invoke/MethodHandle" ∧ yX6_swapUnits.cls ≠ "java/lang/invoke/VarHandle" ∧ (parseMethodDescriptor yX6_swapUnits.desc).map (fun d => d.parameters.length) = some 2 := by decide +kernel
set_option maxHeartbeats 4000000 in
set_option maxRecDepth 100000 in
theorem tX6_swapUnits (l : Launch) (D : va_G) (t : zTy) (a : Nat → Nat) {v1 : Int32} {v2 : Int32} {x : ST} {out : Int32 × ST} (hf : fX6_swapUnits v1 v2 x = some out) : zMi l yX6_swapUnits wsX6_swapUnits 0 0 D t [.ref (a 7), .int v1, .int v2] (CW t a x) out.1 (CW t a out.2) := by
  refine z_entry_i (cc := cX6_swapUnits) (nL := 4) (by decide) rfl (Nat.le_of_ble_eq_true rfl) (fun E _ _ C R => ?_)
  refine z_sub (lv' := [(0, .ref (a 7)), (1, .int v1), (2, .int v2)]) [0, 1, 2] rfl ?_
  rw [fX6_swapUnits] at hf
  refine z_aload_n C dX6_swapUnits_0 rfl 0 rfl ?_
  refine cg_Parts_units C uX6_swapUnits_6 (by decide +kernel) dX6_swapUnits_1 ?_
  refine z_iload_n C dX6_swapUnits_4 rfl 1 rfl ?_
  obtain ⟨h1, hf⟩ := z_some hf
  refine z_iald C 31 cw_at_31 h1 dX6_swapUnits_5 ?_
  refine z_istore_n C [(3, .int (gA x 31 v1.toNatClampNeg)), (0, .ref (a 7)), (1, .int v1), (2, .int v2)] dX6_swapUnits_6 rfl (by decide) rfl ?_
  refine z_aload_n C dX6_swapUnits_7 rfl 1 rfl ?_
  refine cg_Parts_units C uX6_swapUnits_6 (by decide +kernel) dX6_swapUnits_8 ?_
  refine z_iload_n C dX6_swapUnits_11 rfl 2 rfl ?_
  refine z_iload_n C dX6_swapUnits_12 rfl 3 rfl ?_
  obtain ⟨h2, hf⟩ := z_some hf
  refine z_iast C 31 cw_at_31 h2 (w' := CW t a (sA x 31 v1 v2)) cw_up_31 dX6_swapUnits_13 ?_
  refine z_iload_n C dX6_swapUnits_14 rfl 0 rfl ?_
  cases hf
  exact R _ _ dX6_swapUnits_15
theorem uX6_sum_6 : ∀ w ∈ wsX60, w ∈ wsX6_sum := by decide +kernel
set_option maxHeartbeats 4000000 in
set_option maxRecDepth 100000 in
theorem kX6_sum_4 (E : zE) (t : zTy) (a : Nat → Nat) (out : Int32 × ST) (C : zC E cX6_sum 3 RX6 wsX6_sum (zrm 0 0) t) (R : zRi E cX6_sum 3 out.1 (CW t a out.2)) : ∀ (n : Nat) (v1 : Int32) (v2 : Int32) (x : ST), fX6_sum_4 n v1 v2 x = some out → zG E 3 0 0 (CW t a x) 4 [(0, .ref (a 7)), (1, .int v1), (2, .int v2)] [] := by
  intro n
  induction n with
  | zero =>
    intro v1 v2 x hf
    cases hf
  | succ n ih =>
    intro v1 v2 x hf
    rw [fX6_sum_4] at hf
    refine z_iload_n C dX6_sum_4 rfl 2 rfl ?_
    refine z_aload_n C dX6_sum_5 rfl 0 rfl ?_
    refine cg_Parts_count C uX6_sum_6 (by decide +kernel) dX6_sum_6 ?_
    refine z_icmp_ge C 27 dX6_sum_9 (by decide) (fun c1 => ?_) (fun c1 => ?_)
    · replace hf := z_ift c1 hf
      refine z_iload_n C dX6_sum_27 rfl 1 rfl ?_
      cases hf
      exact R _ _ dX6_sum_28
    · replace hf := z_iff c1 hf
      refine z_iload_n C dX6_sum_12 rfl 1 rfl ?_
      refine z_aload_n C dX6_sum_13 rfl 0 rfl ?_
      refine cg_Parts_units C uX6_sum_6 (by decide +kernel) dX6_sum_14 ?_
      refine z_iload_n C dX6_sum_17 rfl 2 rfl ?_
      obtain ⟨h2, hf⟩ := z_some hf
      refine z_iald C 31 cw_at_31 h2 dX6_sum_18 ?_
      refine z_iadd C dX6_sum_19 ?_
      refine z_istore_n C [(1, .int (v1 + (gA x 31 v2.toNatClampNeg))), (0, .ref (a 7)), (2, .int v2)] dX6_sum_20 rfl (by decide) rfl ?_
      refine z_iinc C (v2 + 1) [(2, .int (v2 + 1)), (1, .int (v1 + (gA x 31 v2.toNatClampNeg))), (0, .ref (a 7))] dX6_sum_21 2 rfl rfl (by decide) rfl ?_
      refine z_goto C 4 dX6_sum_24 (by decide) ?_
      exact z_sub [2, 1, 0] rfl (ih _ _ _ hf)
theorem hdX6_sum : yX6_sum.cls = RX6 ∧ yX6_sum.cls ≠ "java/lang/invoke/MethodHandle" ∧ yX6_sum.cls ≠ "java/lang/invoke/VarHandle" ∧ (parseMethodDescriptor yX6_sum.desc).map (fun d => d.parameters.length) = some 0 := by decide +kernel
set_option maxHeartbeats 4000000 in
set_option maxRecDepth 100000 in
theorem tX6_sum (l : Launch) (D : va_G) (t : zTy) (a : Nat → Nat)  {x : ST} {out : Int32 × ST} (hf : fX6_sum  x = some out) : zMi l yX6_sum wsX6_sum 0 0 D t [.ref (a 7)] (CW t a x) out.1 (CW t a out.2) := by
  refine z_entry_i (cc := cX6_sum) (nL := 3) (by decide) rfl (Nat.le_of_ble_eq_true rfl) (fun E _ _ C R => ?_)
  refine z_sub (lv' := [(0, .ref (a 7))]) [0] rfl ?_
  rw [fX6_sum] at hf
  refine z_iconst C dX6_sum_0 0 rfl ?_
  refine z_istore_n C [(1, .int 0), (0, .ref (a 7))] dX6_sum_1 rfl (by decide) rfl ?_
  refine z_iconst C dX6_sum_2 0 rfl ?_
  refine z_istore_n C [(2, .int 0), (1, .int 0), (0, .ref (a 7))] dX6_sum_3 rfl (by decide) rfl ?_
  exact z_sub [2, 1, 0] rfl (kX6_sum_4 E t a out C R 200 _ _ _ hf)
theorem uX6_giveToTip_6 : ∀ w ∈ wsX60, w ∈ wsX6_giveToTip := by decide +kernel
set_option maxHeartbeats 4000000 in
set_option maxRecDepth 100000 in
theorem kX6_giveToTip_38 (E : zE) (t : zTy) (a : Nat → Nat) (out : Int32 × ST) (C : zC E cX6_giveToTip 3 RX6 wsX6_giveToTip (zrm 1 22) t) (R : zRi E cX6_giveToTip 3 out.1 (CW t a out.2)) : ∀ (v1 : Int32) (x : ST), fX6_giveToTip_38 v1 x = some out → zG E 3 0 0 (CW t a x) 38 [(0, .ref (a 7)), (1, .int v1)] [] := by
  intro v1 x hf
  rw [fX6_giveToTip_38] at hf
  refine z_aload_n C dX6_giveToTip_38 rfl 0 rfl ?_
  refine z_dup C dX6_giveToTip_39 rfl ?_
  refine cg_Parts_tip C uX6_giveToTip_6 (by decide +kernel) dX6_giveToTip_40 ?_
  refine z_iload_n C dX6_giveToTip_43 rfl 1 rfl ?_
  refine z_iadd C dX6_giveToTip_44 ?_
  refine cp_Parts_tip C uX6_giveToTip_6 (by decide +kernel) dX6_giveToTip_45 ?_
  refine z_iload_n C dX6_giveToTip_48 rfl 1 rfl ?_
  cases hf
  exact R _ _ dX6_giveToTip_49
set_option maxHeartbeats 4000000 in
set_option maxRecDepth 100000 in
theorem kX6_giveToTip_14 (E : zE) (t : zTy) (a : Nat → Nat) (out : Int32 × ST) (C : zC E cX6_giveToTip 3 RX6 wsX6_giveToTip (zrm 1 22) t) (R : zRi E cX6_giveToTip 3 out.1 (CW t a out.2)) : ∀ (n : Nat) (v1 : Int32) (v2 : Int32) (x : ST), fX6_giveToTip_14 n v1 v2 x = some out → zG E 3 0 0 (CW t a x) 14 [(0, .ref (a 7)), (1, .int v1), (2, .int v2)] [] := by
  intro n
  induction n with
  | zero =>
    intro v1 v2 x hf
    cases hf
  | succ n ih =>
    intro v1 v2 x hf
    rw [fX6_giveToTip_14] at hf
    refine z_iload_n C dX6_giveToTip_14 rfl 2 rfl ?_
    refine z_aload_n C dX6_giveToTip_15 rfl 0 rfl ?_
    refine cg_Parts_count C uX6_giveToTip_6 (by decide +kernel) dX6_giveToTip_16 ?_
    refine z_icmp_ge C 38 dX6_giveToTip_19 (by decide) (fun c5 => ?_) (fun c5 => ?_)
    · replace hf := z_ift c5 hf
      exact z_sub [0, 1] rfl (kX6_giveToTip_38 E t a out C R _ _ hf)
    · replace hf := z_iff c5 hf
      refine z_aload_n C dX6_giveToTip_22 rfl 0 rfl ?_
      refine cg_Parts_units C uX6_giveToTip_6 (by decide +kernel) dX6_giveToTip_23 ?_
      refine z_iload_n C dX6_giveToTip_26 rfl 2 rfl ?_
      refine z_dup2 C dX6_giveToTip_27 rfl rfl ?_
      obtain ⟨h6, hf⟩ := z_some hf
      refine z_iald C 31 cw_at_31 h6 dX6_giveToTip_28 ?_
      refine z_iload_n C dX6_giveToTip_29 rfl 1 rfl ?_
      refine z_isub C dX6_giveToTip_30 ?_
      obtain ⟨h7, hf⟩ := z_some hf
      refine z_iast C 31 cw_at_31 h7 (w' := CW t a (sA x 31 v2 ((gA x 31 v2.toNatClampNeg) - v1))) cw_up_31 dX6_giveToTip_31 ?_
      refine z_iinc C (v2 + 1) [(2, .int (v2 + 1)), (0, .ref (a 7)), (1, .int v1)] dX6_giveToTip_32 2 rfl rfl (by decide) rfl ?_
      refine z_goto C 14 dX6_giveToTip_35 (by decide) ?_
      exact z_sub [1, 2, 0] rfl (ih _ _ _ hf)
theorem hdX6_giveToTip : yX6_giveToTip.cls = RX6 ∧ yX6_giveToTip.cls ≠ "java/lang/invoke/MethodHandle" ∧ yX6_giveToTip.cls ≠ "java/lang/invoke/VarHandle" ∧ (parseMethodDescriptor yX6_giveToTip.desc).map (fun d => d.parameters.length) = some 0 := by decide +kernel
set_option maxHeartbeats 4000000 in
set_option maxRecDepth 100000 in
theorem tX6_giveToTip (l : Launch) (D : va_G) (t : zTy) (a : Nat → Nat)  {x : ST} {out : Int32 × ST} (hf : fX6_giveToTip  x = some out) : zMi l yX6_giveToTip wsX6_giveToTip 1 22 D t [.ref (a 7)] (CW t a x) out.1 (CW t a out.2) := by
  refine z_entry_i (cc := cX6_giveToTip) (nL := 3) (by decide) rfl (Nat.le_of_ble_eq_true rfl) (fun E _ _ C R => ?_)
  refine z_sub (lv' := [(0, .ref (a 7))]) [0] rfl ?_
  rw [fX6_giveToTip] at hf
  refine z_aload_n C dX6_giveToTip_0 rfl 0 rfl ?_
  obtain ⟨q1, h2, hf⟩ := z_bind hf
  refine z_callVi C (rest := []) (tX6_sum (ze_l E) (ze_D E) t a h2) gX6_giveToTip_X6_sum rfl hdX6_sum ⟨(Nat.le_of_ble_eq_true rfl), (Nat.le_of_ble_eq_true rfl)⟩ ⟨Nat.zero_le _, Nat.zero_le _⟩ 7 cw_at_7 rfl rfl rfl (Nat.le_of_ble_eq_true rfl) dX6_giveToTip_1 ?_
  refine z_aload_n C dX6_giveToTip_4 rfl 0 rfl ?_
  refine cg_Parts_count C uX6_giveToTip_6 (by decide +kernel) dX6_giveToTip_5 ?_
  obtain ⟨q3, h4, hf⟩ := z_bind hf
  refine z_callNi C (rest := []) (tX11_cut (ze_l E) (ze_D E) t _ h4) gX6_giveToTip_X11_cut_n39 (host := RX11) (by decide +kernel) (by decide +kernel) (by decide +kernel) rfl hdX11_cut ⟨(Nat.le_of_ble_eq_true rfl), (Nat.le_of_ble_eq_true rfl)⟩ ⟨Nat.zero_le _, Nat.zero_le _⟩ rfl rfl (Nat.le_of_ble_eq_true rfl) dX6_giveToTip_8 ?_
  refine z_istore_n C [(1, .int q3), (0, .ref (a 7))] dX6_giveToTip_11 rfl (by decide) rfl ?_
  refine z_iconst C dX6_giveToTip_12 0 rfl ?_
  refine z_istore_n C [(2, .int 0), (1, .int q3), (0, .ref (a 7))] dX6_giveToTip_13 rfl (by decide) rfl ?_
  exact z_sub [2, 1, 0] rfl (kX6_giveToTip_14 E t a out C R 200 _ _ _ hf)
theorem hdX7_takes : yX7_takes.cls = RX7 ∧ yX7_takes.cls ≠ "java/lang/invoke/MethodHandle" ∧ yX7_takes.cls ≠ "java/lang/invoke/VarHandle" ∧ (parseMethodDescriptor yX7_takes.desc).map (fun d => d.parameters.length) = some 2 := by decide +kernel
set_option maxHeartbeats 4000000 in
set_option maxRecDepth 100000 in
theorem tX7_takes (l : Launch) (D : va_G) (t : zTy) (a : Nat → Nat) {v1 : Int32} {v2 : Int32} {x : ST} {out : Int32 × ST} (hf : fX7_takes v1 v2 x = some out) : zMi l yX7_takes wsX7_takes 1 22 D t [.ref (a 8), .int v1, .int v2] (CW t a x) out.1 (CW t a out.2) := by
  refine z_entry_z (cc := cX7_takes) (nL := 3) (by decide) rfl (Nat.le_of_ble_eq_true rfl) (fun E _ _ C R => ?_)
  refine z_sub (lv' := [(0, .ref (a 8)), (1, .int v1), (2, .int v2)]) [0, 1, 2] rfl ?_
  rw [fX7_takes] at hf
  refine z_iload_n C dX7_takes_0 rfl 1 rfl ?_
  refine z_iconst C dX7_takes_1 0 rfl ?_
  refine z_bipush C dX7_takes_2 6 rfl ?_
  obtain ⟨q1, h2, hf⟩ := z_bind hf
  refine z_callNi C (rest := []) (tX11_within (ze_l E) (ze_D E) t _ h2) gX7_takes_X11_within_n15 (host := RX11) (by decide +kernel) (by decide +kernel) (by decide +kernel) rfl hdX11_within ⟨(Nat.le_of_ble_eq_true rfl), (Nat.le_of_ble_eq_true rfl)⟩ ⟨Nat.zero_le _, Nat.zero_le _⟩ rfl rfl (Nat.le_of_ble_eq_true rfl) dX7_takes_4 ?_
  refine z_if_eq C 31 dX7_takes_7 (by decide) (fun c3 => ?_) (fun c3 => ?_)
  · replace hf := z_ift c3 hf
    refine z_iconst C dX7_takes_31 0 rfl ?_
    obtain ⟨h4, hf⟩ := z_some hf
    cases hf
    exact R _ _ dX7_takes_32 h4
  · replace hf := z_iff c3 hf
    refine z_iload_n C dX7_takes_10 rfl 2 rfl ?_
    refine z_low C (by decide +kernel) dX7_takes_11 (fun t5 h6 => ?_)
    refine z_iload_n C dX7_takes_14 rfl 1 rfl ?_
    obtain ⟨h7, hf⟩ := z_some hf
    refine z_tald C h6 h7 dX7_takes_15 ?_
    refine z_high C (by decide +kernel) dX7_takes_16 (fun t8 h9 => ?_)
    refine z_iload_n C dX7_takes_19 rfl 1 rfl ?_
    obtain ⟨h10, hf⟩ := z_some hf
    refine z_tald C h9 h10 dX7_takes_20 ?_
    obtain ⟨q11, h12, hf⟩ := z_bind hf
    refine z_callNi C (rest := []) (tX11_within (ze_l E) (ze_D E) t _ h12) gX7_takes_X11_within_n15 (host := RX11) (by decide +kernel) (by decide +kernel) (by decide +kernel) rfl hdX11_within ⟨(Nat.le_of_ble_eq_true rfl), (Nat.le_of_ble_eq_true rfl)⟩ ⟨Nat.zero_le _, Nat.zero_le _⟩ rfl rfl (Nat.le_of_ble_eq_true rfl) dX7_takes_21 ?_
    refine z_if_eq C 31 dX7_takes_24 (by decide) (fun c13 => ?_) (fun c13 => ?_)
    · replace hf := z_ift c13 hf
      refine z_iconst C dX7_takes_31 0 rfl ?_
      obtain ⟨h14, hf⟩ := z_some hf
      cases hf
      exact R _ _ dX7_takes_32 h14
    · replace hf := z_iff c13 hf
      refine z_iconst C dX7_takes_27 1 rfl ?_
      refine z_goto C 32 dX7_takes_28 (by decide) ?_
      obtain ⟨h15, hf⟩ := z_some hf
      cases hf
      exact R _ _ dX7_takes_32 h15
theorem uX7_swap_7 : ∀ w ∈ wsX70, w ∈ wsX7_swap := by decide +kernel
theorem hdX7_swap : yX7_swap.cls = RX7 ∧ yX7_swap.cls ≠ "java/lang/invoke/MethodHandle" ∧ yX7_swap.cls ≠ "java/lang/invoke/VarHandle" ∧ (parseMethodDescriptor yX7_swap.desc).map (fun d => d.parameters.length) = some 2 := by decide +kernel
set_option maxHeartbeats 4000000 in
set_option maxRecDepth 100000 in
theorem tX7_swap (l : Launch) (D : va_G) (t : zTy) (a : Nat → Nat) {v1 : Int32} {v2 : Int32} {x : ST} {out : Int32 × ST} (hf : fX7_swap v1 v2 x = some out) : zMi l yX7_swap wsX7_swap 0 0 D t [.ref (a 8), .int v1, .int v2] (CW t a x) out.1 (CW t a out.2) := by
  refine z_entry_i (cc := cX7_swap) (nL := 4) (by decide) rfl (Nat.le_of_ble_eq_true rfl) (fun E _ _ C R => ?_)
  refine z_sub (lv' := [(0, .ref (a 8)), (1, .int v1), (2, .int v2)]) [0, 1, 2] rfl ?_
  rw [fX7_swap] at hf
  refine z_aload_n C dX7_swap_0 rfl 0 rfl ?_
  refine cg_Settings_values C uX7_swap_7 (by decide +kernel) dX7_swap_1 ?_
  refine z_iload_n C dX7_swap_4 rfl 1 rfl ?_
  obtain ⟨h1, hf⟩ := z_some hf
  refine z_iald C 32 cw_at_32 h1 dX7_swap_5 ?_
  refine z_istore_n C [(3, .int (gA x 32 v1.toNatClampNeg)), (0, .ref (a 8)), (1, .int v1), (2, .int v2)] dX7_swap_6 rfl (by decide) rfl ?_
  refine z_aload_n C dX7_swap_7 rfl 1 rfl ?_
  refine cg_Settings_values C uX7_swap_7 (by decide +kernel) dX7_swap_8 ?_
  refine z_iload_n C dX7_swap_11 rfl 2 rfl ?_
  refine z_iload_n C dX7_swap_12 rfl 3 rfl ?_
  obtain ⟨h2, hf⟩ := z_some hf
  refine z_iast C 32 cw_at_32 h2 (w' := CW t a (sA x 32 v1 v2)) cw_up_32 dX7_swap_13 ?_
  refine z_iload_n C dX7_swap_14 rfl 0 rfl ?_
  cases hf
  exact R _ _ dX7_swap_15
theorem uX7_get_7 : ∀ w ∈ wsX70, w ∈ wsX7_get := by decide +kernel
theorem hdX7_get : yX7_get.cls = RX7 ∧ yX7_get.cls ≠ "java/lang/invoke/MethodHandle" ∧ yX7_get.cls ≠ "java/lang/invoke/VarHandle" ∧ (parseMethodDescriptor yX7_get.desc).map (fun d => d.parameters.length) = some 1 := by decide +kernel
set_option maxHeartbeats 4000000 in
set_option maxRecDepth 100000 in
theorem tX7_get (l : Launch) (D : va_G) (t : zTy) (a : Nat → Nat) {v1 : Int32} {x : ST} {out : Int32 × ST} (hf : fX7_get v1 x = some out) : zMi l yX7_get wsX7_get 0 0 D t [.ref (a 8), .int v1] (CW t a x) out.1 (CW t a out.2) := by
  refine z_entry_i (cc := cX7_get) (nL := 2) (by decide) rfl (Nat.le_of_ble_eq_true rfl) (fun E _ _ C R => ?_)
  refine z_sub (lv' := [(0, .ref (a 8)), (1, .int v1)]) [0, 1] rfl ?_
  rw [fX7_get] at hf
  refine z_aload_n C dX7_get_0 rfl 0 rfl ?_
  refine cg_Settings_values C uX7_get_7 (by decide +kernel) dX7_get_1 ?_
  refine z_iload_n C dX7_get_4 rfl 1 rfl ?_
  obtain ⟨h1, hf⟩ := z_some hf
  refine z_iald C 32 cw_at_32 h1 dX7_get_5 ?_
  cases hf
  exact R _ _ dX7_get_6
theorem uX8_holds_8 : ∀ w ∈ wsX80, w ∈ wsX8_holds := by decide +kernel
theorem hdX8_holds : yX8_holds.cls = RX8 ∧ yX8_holds.cls ≠ "java/lang/invoke/MethodHandle" ∧ yX8_holds.cls ≠ "java/lang/invoke/VarHandle" ∧ (parseMethodDescriptor yX8_holds.desc).map (fun d => d.parameters.length) = some 1 := by decide +kernel
set_option maxHeartbeats 4000000 in
set_option maxRecDepth 100000 in
theorem tX8_holds (l : Launch) (D : va_G) (t : zTy) (a : Nat → Nat) {v1 : Int32} {x : ST} {out : Int32 × ST} (hf : fX8_holds v1 x = some out) : zMi l yX8_holds wsX8_holds 0 0 D t [.ref (a 9), .int v1] (CW t a x) out.1 (CW t a out.2) := by
  refine z_entry_z (cc := cX8_holds) (nL := 2) (by decide) rfl (Nat.le_of_ble_eq_true rfl) (fun E _ _ C R => ?_)
  refine z_sub (lv' := [(0, .ref (a 9)), (1, .int v1)]) [0, 1] rfl ?_
  rw [fX8_holds] at hf
  refine z_aload_n C dX8_holds_0 rfl 0 rfl ?_
  refine cg_Sheets_lengths C uX8_holds_8 (by decide +kernel) dX8_holds_1 ?_
  refine z_iload_n C dX8_holds_4 rfl 1 rfl ?_
  obtain ⟨h1, hf⟩ := z_some hf
  refine z_iald C 34 cw_at_34 h1 dX8_holds_5 ?_
  refine z_iconst C dX8_holds_6 (-1) rfl ?_
  refine z_icmp_eq C 14 dX8_holds_7 (by decide) (fun c2 => ?_) (fun c2 => ?_)
  · replace hf := z_ift c2 hf
    refine z_iconst C dX8_holds_14 0 rfl ?_
    obtain ⟨h3, hf⟩ := z_some hf
    cases hf
    exact R _ _ dX8_holds_15 h3
  · replace hf := z_iff c2 hf
    refine z_iconst C dX8_holds_10 1 rfl ?_
    refine z_goto C 15 dX8_holds_11 (by decide) ?_
    obtain ⟨h4, hf⟩ := z_some hf
    cases hf
    exact R _ _ dX8_holds_15 h4
theorem uX8_lay_8 : ∀ w ∈ wsX80, w ∈ wsX8_lay := by decide +kernel
set_option maxHeartbeats 4000000 in
set_option maxRecDepth 100000 in
theorem kX8_lay_17 (E : zE) (t : zTy) (a : Nat → Nat) (out : ST) (C : zC E cX8_lay 5 RX8 wsX8_lay (zrm 0 0) t) (R : zRv E cX8_lay 5 (CW t a out)) : ∀ (n : Nat) (v1 : Int32) (v3 : Int32) (v4 : Int32) (x : ST), fX8_lay_17 n v1 v3 v4 x = some out → zG E 5 0 0 (CW t a x) 17 [(0, .ref (a 9)), (1, .int v1), (3, .int v3), (4, .int v4)] [] := by
  intro n
  induction n with
  | zero =>
    intro v1 v3 v4 x hf
    cases hf
  | succ n ih =>
    intro v1 v3 v4 x hf
    rw [fX8_lay_17] at hf
    refine z_iload C dX8_lay_17 3 rfl ?_
    refine z_iload_n C dX8_lay_19 rfl 2 rfl ?_
    refine z_icmp_ge C 42 dX8_lay_20 (by decide) (fun c3 => ?_) (fun c3 => ?_)
    · replace hf := z_ift c3 hf
      cases hf
      exact R _ _ dX8_lay_42
    · replace hf := z_iff c3 hf
      refine z_aload_n C dX8_lay_23 rfl 0 rfl ?_
      refine cg_Sheets_items C uX8_lay_8 (by decide +kernel) dX8_lay_24 ?_
      refine z_iload_n C dX8_lay_27 rfl 1 rfl ?_
      refine z_bipush C dX8_lay_28 40 rfl ?_
      refine z_imul C dX8_lay_30 ?_
      refine z_iload C dX8_lay_31 3 rfl ?_
      refine z_iadd C dX8_lay_33 ?_
      refine z_iconst C dX8_lay_34 0 rfl ?_
      obtain ⟨h4, hf⟩ := z_some hf
      refine z_iast C 35 cw_at_35 h4 (w' := CW t a (sA x 35 ((v1 * 40) + v4) 0)) cw_up_35 dX8_lay_35 ?_
      refine z_iinc C (v4 + 1) [(4, .int (v4 + 1)), (0, .ref (a 9)), (1, .int v1), (3, .int v3)] dX8_lay_36 3 rfl rfl (by decide) rfl ?_
      refine z_goto C 17 dX8_lay_39 (by decide) ?_
      exact z_sub [1, 2, 3, 0] rfl (ih _ _ _ _ hf)
theorem hdX8_lay : yX8_lay.cls = RX8 ∧ yX8_lay.cls ≠ "java/lang/invoke/MethodHandle" ∧ yX8_lay.cls ≠ "java/lang/invoke/VarHandle" ∧ (parseMethodDescriptor yX8_lay.desc).map (fun d => d.parameters.length) = some 3 := by decide +kernel
set_option maxHeartbeats 4000000 in
set_option maxRecDepth 100000 in
theorem tX8_lay (l : Launch) (D : va_G) (t : zTy) (a : Nat → Nat) {v1 : Int32} {v2 : Int32} {v3 : Int32} {x : ST} {out : ST} (hf : fX8_lay v1 v2 v3 x = some out) : zMv l yX8_lay wsX8_lay 0 0 D t [.ref (a 9), .int v1, .int v2, .int v3] (CW t a x) (CW t a out) := by
  refine z_entry_v (cc := cX8_lay) (nL := 5) (by decide) rfl (Nat.le_of_ble_eq_true rfl) (fun E _ _ C R => ?_)
  refine z_sub (lv' := [(0, .ref (a 9)), (1, .int v1), (2, .int v2), (3, .int v3)]) [0, 1, 2, 3] rfl ?_
  rw [fX8_lay] at hf
  refine z_aload_n C dX8_lay_0 rfl 0 rfl ?_
  refine cg_Sheets_lanes C uX8_lay_8 (by decide +kernel) dX8_lay_1 ?_
  refine z_iload_n C dX8_lay_4 rfl 1 rfl ?_
  refine z_iload_n C dX8_lay_5 rfl 2 rfl ?_
  obtain ⟨h1, hf⟩ := z_some hf
  refine z_iast C 33 cw_at_33 h1 (w' := CW t a (sA x 33 v1 v2)) cw_up_33 dX8_lay_6 ?_
  refine z_aload_n C dX8_lay_7 rfl 0 rfl ?_
  refine cg_Sheets_lengths C uX8_lay_8 (by decide +kernel) dX8_lay_8 ?_
  refine z_iload_n C dX8_lay_11 rfl 1 rfl ?_
  refine z_iload_n C dX8_lay_12 rfl 3 rfl ?_
  obtain ⟨h2, hf⟩ := z_some hf
  refine z_iast C 34 cw_at_34 h2 (w' := CW t a (sA (sA x 33 v1 v2) 34 v1 v3)) cw_up_34 dX8_lay_13 ?_
  refine z_iconst C dX8_lay_14 0 rfl ?_
  refine z_istore C [(4, .int 0), (0, .ref (a 9)), (1, .int v1), (2, .int v2), (3, .int v3)] dX8_lay_15 (by decide) rfl ?_
  exact z_sub [1, 2, 4, 0] rfl (kX8_lay_17 E t a out C R 200 _ _ _ _ hf)
theorem uX8_takeAway_8 : ∀ w ∈ wsX80, w ∈ wsX8_takeAway := by decide +kernel
theorem hdX8_takeAway : yX8_takeAway.cls = RX8 ∧ yX8_takeAway.cls ≠ "java/lang/invoke/MethodHandle" ∧ yX8_takeAway.cls ≠ "java/lang/invoke/VarHandle" ∧ (parseMethodDescriptor yX8_takeAway.desc).map (fun d => d.parameters.length) = some 1 := by decide +kernel
set_option maxHeartbeats 4000000 in
set_option maxRecDepth 100000 in
theorem tX8_takeAway (l : Launch) (D : va_G) (t : zTy) (a : Nat → Nat) {v1 : Int32} {x : ST} {out : Int32 × ST} (hf : fX8_takeAway v1 x = some out) : zMi l yX8_takeAway wsX8_takeAway 0 0 D t [.ref (a 9), .int v1] (CW t a x) out.1 (CW t a out.2) := by
  refine z_entry_i (cc := cX8_takeAway) (nL := 3) (by decide) rfl (Nat.le_of_ble_eq_true rfl) (fun E _ _ C R => ?_)
  refine z_sub (lv' := [(0, .ref (a 9)), (1, .int v1)]) [0, 1] rfl ?_
  rw [fX8_takeAway] at hf
  refine z_aload_n C dX8_takeAway_0 rfl 0 rfl ?_
  refine cg_Sheets_lengths C uX8_takeAway_8 (by decide +kernel) dX8_takeAway_1 ?_
  refine z_iload_n C dX8_takeAway_4 rfl 1 rfl ?_
  obtain ⟨h1, hf⟩ := z_some hf
  refine z_iald C 34 cw_at_34 h1 dX8_takeAway_5 ?_
  refine z_istore_n C [(2, .int (gA x 34 v1.toNatClampNeg)), (0, .ref (a 9)), (1, .int v1)] dX8_takeAway_6 rfl (by decide) rfl ?_
  refine z_aload_n C dX8_takeAway_7 rfl 1 rfl ?_
  refine cg_Sheets_lengths C uX8_takeAway_8 (by decide +kernel) dX8_takeAway_8 ?_
  refine z_iload_n C dX8_takeAway_11 rfl 2 rfl ?_
  refine z_iconst C dX8_takeAway_12 (-1) rfl ?_
  obtain ⟨h2, hf⟩ := z_some hf
  refine z_iast C 34 cw_at_34 h2 (w' := CW t a (sA x 34 v1 (-1))) cw_up_34 dX8_takeAway_13 ?_
  refine z_iload_n C dX8_takeAway_14 rfl 0 rfl ?_
  cases hf
  exact R _ _ dX8_takeAway_15

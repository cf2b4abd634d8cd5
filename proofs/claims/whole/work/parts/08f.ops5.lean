/-! what a sheet refuses: the answer, by the reference's state -/
def rfs (m : ST) (v1 v2 v3 v4 : Int32) : Int32 :=
  if wb v1 0 3 = 0 then -1 else if wb v2 0 2 = 0 then -1 else
  if gA m 28 v1.toNatClampNeg = v2 then (if wb v3 0 (gA m 29 v1.toNatClampNeg - v4) = 0 then -13 else 0) else if 0 ≤ gA m 28 v1.toNatClampNeg then -12 else -11
theorem le0 (v : Int32) : (0 ≤ v) = (0 ≤ v.toInt) := by
  apply propext
  rw [Int32.le_iff_toInt_le]
  rfl
theorem lt0 (v : Int32) : (v < 0) = (v.toInt < 0) := by
  apply propext
  rw [Int32.lt_iff_toInt_lt]
  rfl
theorem refusal_x {k : Nat} {x m : ST} (h : Rel k x m) (v1 v2 v3 : Int32) (c : Nat) (hc : c ≤ 40) : fX8_refusal v1 v2 v3 (nI c) x = some (rfs m v1 v2 v3 (nI c), x) := by
  obtain ⟨g1, g2, g3, g4, g5, g6, g7, g8, g9, g10, g11, g12, g13, g14, g15⟩ := h
  unfold fX8_refusal rfs fX8_holds fX8_refusal_57
  simp only [isSheet_x, isLane_x, Option.bind_some]
  rcases wb_n v1 3 4 (by decide) with e1 | ⟨e1, j, hj, rfl⟩
  · simp only [e1, if_true]
  simp only [e1, if_neg one_ne]
  rcases wb_c v2 0 2 with e2 | ⟨e2, l2, u2⟩
  · simp only [e2, if_true]
  simp only [e2, if_neg one_ne, if_pos (ix_nI (show j < 4 from hj) (by decide)), cl_nI (show j < 2 ^ 31 by omega)]
  have z0 : (0 : Int32).toInt = 0 := by decide
  rcases g15 j hj with ⟨q1, q2⟩ | ⟨n, n40, q1, q2, q3, q4, q5⟩
  · have hne : ¬ (-1 : Int32) = v2 := by
      intro e
      rw [← e] at l2
      exact absurd l2 (by decide)
    simp only [q1, q2, if_true, if_pos zb0, Option.bind_some, if_neg hne, if_neg (show ¬ (0 : Int32) ≤ -1 by decide)]
  · have hne : ¬ nI n = -1 := by
      intro e
      have := nI_toInt (n := n) (by omega)
      rw [e] at this
      have h2 : (-1 : Int32).toInt = -1 := by decide
      omega
    have h0 : (0 : Int32) ≤ gA m 28 j := by
      rw [le0]; exact q4.1
    simp only [q1, if_neg hne, if_pos zb1, Option.bind_some, if_neg one_ne, q3]
    by_cases c1 : gA m 28 j = v2
    · simp only [if_pos c1, q2]
      have hsub : (nI n - nI c).toInt = (n : Int) - c := pk_sub_toInt (by omega) (by omega)
      by_cases c2 : v3 < 0
      · rw [if_pos c2, wb_0 (Or.inl (by rw [z0]; rw [lt0] at c2; exact c2)), if_pos rfl]
      · rw [if_neg c2]
        rw [lt0] at c2
        by_cases c3 : v3 ≤ nI n - nI c
        · rw [if_pos c3, wb_1 (by omega) (by rw [Int32.le_iff_toInt_le] at c3; exact c3), if_neg one_ne]
        · rw [if_neg c3, wb_0 (Or.inr (by rw [Int32.le_iff_toInt_le] at c3; omega)), if_pos rfl]
    · simp only [if_neg c1, if_pos h0]
theorem against_m {m : ST} {v1 v2 v3 v4 : Int32} (e1 : wb v1 0 3 = 1) (e2 : wb v2 0 2 = 1) : fX12_against v1 v2 v3 v4 m = some (rfs m v1 v2 v3 v4, m) := by
  unfold fX12_against rfs
  rw [e1, e2, if_neg one_ne, if_neg one_ne]
  rcases wb_n v1 3 4 (by decide) with e | ⟨-, j, hj, rfl⟩
  · rw [e1] at e; exact absurd e one_ne
  simp only [if_pos (ix_nI (show j < 4 from hj) (by decide)), cl_nI (show j < 2 ^ 31 by omega), in_eq 0 (gA m 29 j - v4) 0 _ rfl rfl, Option.bind_some]
  by_cases c1 : gA m 28 j = v2
  · rw [if_pos c1, if_pos c1]
    by_cases c2 : wb v3 0 (gA m 29 j - v4) = 0
    · rw [if_pos c2, if_pos c2]
    · rw [if_neg c2, if_neg c2]
  · rw [if_neg c1, if_neg c1]
    by_cases c2 : 0 ≤ gA m 28 j
    · rw [if_pos c2, if_pos c2]
    · rw [if_neg c2, if_neg c2]
/-- the reference's way: BAD by the names, then what 'against' says -/
theorem rfs_bad {m : ST} {v1 v2 v3 v4 : Int32} (h : (if wb v1 0 3 = 0 then (0 : Int32) else if wb v2 0 2 = 0 then 0 else 1) = 0) : rfs m v1 v2 v3 v4 = -1 := by
  unfold rfs
  by_cases c : wb v1 0 3 = 0
  · rw [if_pos c]
  · rw [if_neg c] at h ⊢
    by_cases c2 : wb v2 0 2 = 0
    · rw [if_pos c2]
    · rw [if_neg c2] at h; exact absurd h one_ne
theorem rfs_good {v1 v2 : Int32} (h : ¬ (if wb v1 0 3 = 0 then (0 : Int32) else if wb v2 0 2 = 0 then 0 else 1) = 0) : wb v1 0 3 = 1 ∧ wb v2 0 2 = 1 := by
  rcases wb_c v1 0 3 with c | ⟨c, -⟩
  · rw [if_pos c] at h; exact absurd rfl h
  · rw [c, if_neg one_ne] at h
    rcases wb_c v2 0 2 with c2 | ⟨c2, -⟩
    · rw [if_pos c2] at h; exact absurd rfl h
    · exact ⟨c, c2⟩
theorem rfs_c (m : ST) (v1 v2 v3 v4 : Int32) : rfs m v1 v2 v3 v4 = 0 ∨ rfs m v1 v2 v3 v4 = -1 ∨ rfs m v1 v2 v3 v4 = -13 ∨ rfs m v1 v2 v3 v4 = -12 ∨ rfs m v1 v2 v3 v4 = -11 := by
  unfold rfs
  repeat' split
  all_goals decide
theorem rfs_neg {m : ST} {v1 v2 v3 v4 : Int32} (h : ¬ rfs m v1 v2 v3 v4 = 0) : ¬ 0 ≤ rfs m v1 v2 v3 v4 := by
  rcases rfs_c m v1 v2 v3 v4 with e | e | e | e | e
  · exact absurd e h
  all_goals (rw [e]; decide)
/-- where nothing is refused: the sheet j, its length n, the first item i -/
theorem rfs_ok {k : Nat} {x m : ST} (h : Rel k x m) {v1 v2 v3 : Int32} {c : Nat} (hc : c ≤ 40) (e : rfs m v1 v2 v3 (nI c) = 0) : ∃ j n i : Nat, j < 4 ∧ v1 = nI j ∧ v3 = nI i ∧ i + c ≤ n ∧ n ≤ 40 ∧ gA m 28 j = v2 ∧ gA x 33 j = v2 ∧ gA x 34 j = nI n ∧ gA m 29 j = nI n ∧ inb v2 0 2 ∧ ∀ i, i < n → gA x 35 (40 * j + i) = gA m 30 (40 * j + i) := by
  obtain ⟨g1, g2, g3, g4, g5, g6, g7, g8, g9, g10, g11, g12, g13, g14, g15⟩ := h
  unfold rfs at e
  rcases wb_n v1 3 4 (by decide) with e1 | ⟨e1, j, hj, rfl⟩
  · rw [if_pos e1] at e; exact absurd e (by decide)
  rw [e1, if_neg one_ne] at e
  rcases wb_c v2 0 2 with e2 | ⟨e2, l2, u2⟩
  · rw [if_pos e2] at e; exact absurd e (by decide)
  rw [e2, if_neg one_ne, cl_nI (by omega)] at e
  by_cases c1 : gA m 28 j = v2
  · rw [if_pos c1] at e
    rcases g15 j hj with ⟨q1, q2⟩ | ⟨n, n40, q1, q2, q3, q4, q5⟩
    · rw [q2] at c1
      rw [← c1] at l2
      exact absurd l2 (by decide)
    · rw [q2] at e
      have hsub : (nI n - nI c).toInt = (n : Int) - c := pk_sub_toInt (by omega) (by omega)
      rcases wb_c v3 0 (nI n - nI c) with e3 | ⟨e3, l3, u3⟩
      · rw [if_pos e3] at e; exact absurd e (by decide)
      · have z0 : (0 : Int32).toInt = 0 := by decide
        rw [z0] at l3
        exact ⟨j, n, v3.toInt.toNat, hj, rfl, nI_of_toInt l3, by omega, n40, c1, q3.trans c1, q1, q2, inb_of l2 u2 (by decide) (by decide), q5⟩
  · rw [if_neg c1] at e
    split at e
    · exact absurd e (by decide)
    · exact absurd e (by decide)
theorem bk24 : ∀ r, r < 2 ^ 8 → ((r : Nat) : Int).bmod (2 ^ 8) = ((r * 2 ^ 24 : Nat) : Int).bmod (2 ^ 32) / ((2 ^ 24 : Nat) : Int) := by decide +kernel
theorem bk16 (r : Nat) (h : r < 2 ^ 16) : ((r : Nat) : Int).bmod (2 ^ 16) = ((r * 2 ^ 16 : Nat) : Int).bmod (2 ^ 32) / ((2 ^ 16 : Nat) : Int) := by
  have h' : r < 65536 := h
  have e1 : ((r : Nat) : Int) % ((2 ^ 16 : Nat) : Int) = r := Int.emod_eq_of_lt (by omega) (Int.ofNat_lt.mpr h)
  have h2 : r * 2 ^ 16 < 2 ^ 32 := by
    have := Nat.mul_lt_mul_of_pos_right h (show 0 < 2 ^ 16 by decide)
    exact this
  have e2 : ((r * 2 ^ 16 : Nat) : Int) % ((2 ^ 32 : Nat) : Int) = (r * 2 ^ 16 : Nat) := Int.emod_eq_of_lt (Int.natCast_nonneg _) (Int.ofNat_lt.mpr h2)
  have e3 : ((r * 2 ^ 16 : Nat) : Int) = (r : Int) * 65536 := by
    rw [Int.natCast_mul]
    rfl
  rw [Int.bmod_def, Int.bmod_def, e1, e2, e3]
  show (if (r : Int) < 32768 then (r : Int) else (r : Int) - 65536) = (if (r : Int) * 65536 < 2147483648 then (r : Int) * 65536 else (r : Int) * 65536 - 4294967296) / 65536
  by_cases c : r < 32768
  · rw [if_pos (show (r : Int) < 32768 by omega), if_pos (show (r : Int) * 65536 < 2147483648 by omega), Int.mul_ediv_cancel _ (by decide)]
  · rw [if_neg (show ¬ (r : Int) < 32768 by omega), if_neg (show ¬ (r : Int) * 65536 < 2147483648 by omega), show (r : Int) * 65536 - 4294967296 = ((r : Int) - 65536) * 65536 by omega, Int.mul_ediv_cancel _ (by decide)]
theorem b24 (v : Int32) : v.toInt8.toInt32 = (v <<< ((24 : Int32) &&& 31)) >>> ((24 : Int32) &&& 31) := by
  apply Int32.toInt_inj.mp
  have hl := pk_shl v ((24 : Int32) &&& 31) 24 (by decide)
  have e1 : (v <<< ((24 : Int32) &&& 31)).toInt = ((v <<< ((24 : Int32) &&& 31)).toBitVec.toNat : Int).bmod (2 ^ 32) := BitVec.toInt_eq_toNat_bmod _
  have e2 : v.toInt = (v.toBitVec.toNat : Int).bmod (2 ^ 32) := BitVec.toInt_eq_toNat_bmod _
  rw [pk_shr _ ((24 : Int32) &&& 31) 24 (by decide), Int8.toInt_toInt32, Int32.toInt_toInt8, e1, hl, e2, Int.shiftRight_eq_div_pow]
  rw [Int.bmod_bmod_of_dvd (show 2 ^ 8 ∣ 2 ^ 32 by decide)]
  generalize v.toBitVec.toNat = V
  have hm : V * 2 ^ 24 % 2 ^ 32 = (V % 2 ^ 8) * 2 ^ 24 := by
    rw [show (2 : Nat) ^ 32 = 2 ^ 8 * 2 ^ 24 by decide, Nat.mul_mod_mul_right]
  rw [hm, ← Int.emod_bmod, ← Int.natCast_emod]
  have hr : V % 2 ^ 8 < 2 ^ 8 := Nat.mod_lt _ (by decide)
  generalize V % 2 ^ 8 = r at hr
  exact bk24 r hr
theorem b16 (v : Int32) : v.toInt16.toInt32 = (v <<< ((16 : Int32) &&& 31)) >>> ((16 : Int32) &&& 31) := by
  apply Int32.toInt_inj.mp
  have hl := pk_shl v ((16 : Int32) &&& 31) 16 (by decide)
  have e1 : (v <<< ((16 : Int32) &&& 31)).toInt = ((v <<< ((16 : Int32) &&& 31)).toBitVec.toNat : Int).bmod (2 ^ 32) := BitVec.toInt_eq_toNat_bmod _
  have e2 : v.toInt = (v.toBitVec.toNat : Int).bmod (2 ^ 32) := BitVec.toInt_eq_toNat_bmod _
  rw [pk_shr _ ((16 : Int32) &&& 31) 16 (by decide), Int16.toInt_toInt32, Int32.toInt_toInt16, e1, hl, e2, Int.shiftRight_eq_div_pow]
  rw [Int.bmod_bmod_of_dvd (show 2 ^ 16 ∣ 2 ^ 32 by decide)]
  generalize v.toBitVec.toNat = V
  have hm : V * 2 ^ 16 % 2 ^ 32 = (V % 2 ^ 16) * 2 ^ 16 := by
    rw [show (2 : Nat) ^ 32 = 2 ^ 16 * 2 ^ 16 by decide, Nat.mul_mod_mul_right]
  rw [hm, ← Int.emod_bmod, ← Int.natCast_emod]
  have hr : V % 2 ^ 16 < 2 ^ 16 := Nat.mod_lt _ (by decide)
  generalize V % 2 ^ 16 = r at hr
  exact bk16 r hr
theorem RSheet.put {a b c d e f : Nat → Int32} {q : Nat} {v : Int32} (h : RSheet a b c d e f) : RSheet a b (upd c q v) d e (upd f q v) := by
  intro s hs
  rcases h s hs with q1 | ⟨n, b1, b2, b3, b4, b5, b6⟩
  · exact Or.inl q1
  · refine Or.inr ⟨n, b1, b2, b3, b4, b5, fun i hi => ?_⟩
    rw [upd_eq, upd_eq, b6 i hi]
theorem op_item {k : Nat} {x m : ST} (h : Rel k x m) (hk : k < 512) (v1 v2 v3 v4 : Int32) : Ans (k + 1) (fX11_item v1 v2 v3 v4 x) (fX12_item v1 v2 v3 v4 m) := by
  have hm := h.mono
  obtain ⟨g1, g2, g3, g4, g5, g6, g7, g8, g9, g10, g11, g12, g13, g14, g15⟩ := h.mono
  have e0 : fX8_refusal v1 v2 v3 1 x = some (rfs m v1 v2 v3 1, x) := refusal_x h v1 v2 v3 1 (by omega)
  unfold fX11_item fX12_item
  rw [e0, isSheet_m]
  simp only [Option.bind_some]
  by_cases cb : (if wb v1 0 3 = 0 then (0 : Int32) else if wb v2 0 2 = 0 then 0 else 1) = 0
  · rw [rfs_bad cb, if_neg (show ¬ (-1 : Int32) = 0 by decide), if_pos cb]
    exact ⟨_, _, _, rfl, rfl, hm⟩
  obtain ⟨w1, w2⟩ := rfs_good cb
  rw [if_neg cb, against_m w1 w2, Option.bind_some]
  by_cases cr : rfs m v1 v2 v3 1 = 0
  · obtain ⟨j, n, i, hj, rfl, rfl, hin, n40, q1, q2, q3, q4, q5, q6⟩ := rfs_ok h (c := 1) (by omega) cr
    simp only [cr, if_true, if_pos (show (0 : Int32) ≤ 0 by decide)]
    unfold fX8_put fX8_put_40 fX12_item_71
    simp only [if_pos (ix_nI (show j < 4 from hj) (by decide)), cl_nI (show j < 2 ^ 31 by omega), i40, i40', if_pos (ix_nI (show 40 * j + i < 160 by omega) (by decide)), q2, b24, b16]
    by_cases c0 : v2 = 0
    · simp only [if_pos c0, Option.bind_some]
      exact ⟨_, _, _, rfl, rfl, g1, g2, g3, g4, g5, g6, g7, g8, g9, g10, g11, g12, g13, g14, g15.put⟩
    · simp only [if_neg c0]
      by_cases c1 : v2 = 1
      · simp only [if_pos c1, Option.bind_some]
        exact ⟨_, _, _, rfl, rfl, g1, g2, g3, g4, g5, g6, g7, g8, g9, g10, g11, g12, g13, g14, g15.put⟩
      · simp only [if_neg c1, Option.bind_some]
        exact ⟨_, _, _, rfl, rfl, g1, g2, g3, g4, g5, g6, g7, g8, g9, g10, g11, g12, g13, g14, g15.put⟩
  · simp only [if_neg cr, if_neg (rfs_neg cr)]
    exact ⟨_, _, _, rfl, rfl, hm⟩

/-! foretell -/
theorem fm32 (a : Int32) : fJ9_floorMod_7cf53 a 32 = some (a &&& 31) := by
  have e2 : a.toInt = (a.toBitVec.toNat : Int).bmod (2 ^ 32) := BitVec.toInt_eq_toNat_bmod _
  have hV := a.toBitVec.isLt
  have hand : a &&& 31 = nI (a.toBitVec.toNat % 2 ^ 5) := pk_and a 5 (by decide)
  have hr : a.toBitVec.toNat % 2 ^ 5 < 32 := Nat.mod_lt _ (by decide)
  have hmod : ((a.toBitVec.toNat % 2 ^ 5 : Nat) : Int) = a.toInt % 32 := by
    rw [e2]
    have := Int.bmod_emod (x := (a.toBitVec.toNat : Int)) (m := 2 ^ 32)
    have h5 : ((a.toBitVec.toNat : Int).bmod (2 ^ 32)) % 32 = (a.toBitVec.toNat : Int) % 32 := by
      have d1 : (32 : Int) ∣ (((2 ^ 32 : Nat)) : Int) := by decide
      rw [← Int.emod_emod_of_dvd ((a.toBitVec.toNat : Int).bmod (2 ^ 32)) d1, this, Int.emod_emod_of_dvd _ d1]
    rw [h5, Int.natCast_emod]
    rfl
  rw [hand]
  generalize a.toBitVec.toNat % 2 ^ 5 = r at hr hmod
  have t32 : (32 : Int32).toInt = 32 := by decide
  have hlo := a.le_toInt
  have hhi := a.toInt_lt
  have hdn : (a.toInt.tdiv 32).natAbs = a.toInt.natAbs / 32 := Int.natAbs_tdiv a.toInt 32
  have hd : (a / 32).toInt = a.toInt.tdiv 32 := by
    rw [Int32.toInt_div, t32]
    exact bm32 (by omega) (by omega)
  have hq : (0 ≤ a.toInt ∧ a.toInt.tdiv 32 = a.toInt / 32) ∨ (a.toInt < 0 ∧ a.toInt.tdiv 32 = -((-a.toInt) / 32)) := by
    rcases (show 0 ≤ a.toInt ∨ a.toInt < 0 by omega) with q | q
    · exact Or.inl ⟨q, Int.tdiv_eq_ediv_of_nonneg q⟩
    · refine Or.inr ⟨q, ?_⟩
      have := Int.neg_tdiv (-a.toInt) 32
      rw [Int.neg_neg] at this
      rw [this, Int.tdiv_eq_ediv_of_nonneg (by omega)]
  have htm : a.toInt.tmod 32 = a.toInt - a.toInt.tdiv 32 * 32 := by
    have := Int.mul_tdiv_add_tmod a.toInt 32
    omega
  have hm : (a / 32 * 32).toInt = a.toInt.tdiv 32 * 32 := by
    rw [ti_mul, hd, t32]
    · rw [hd, t32]; omega
    · rw [hd, t32]; omega
  have hrem : (a - a / 32 * 32).toInt = a.toInt.tmod 32 := by
    rw [htm]
    rw [ti_sub, hm]
    · rw [hm]; omega
    · rw [hm]; omega
  have hx : (0 ≤ a ^^^ 32) = (0 ≤ a) := by
    rw [le0, le0]
    have m1 : (a ^^^ 32).toBitVec.msb = a.toBitVec.msb := by
      rw [Int32.toBitVec_xor, BitVec.msb_xor]
      have : (32 : Int32).toBitVec.msb = false := by decide
      rw [this, Bool.xor_false]
    have s1 : (a ^^^ 32).toBitVec.msb = decide ((a ^^^ 32).toInt < 0) := BitVec.msb_eq_toInt
    have s2 : a.toBitVec.msb = decide (a.toInt < 0) := BitVec.msb_eq_toInt
    rw [s1, s2] at m1
    have := decide_eq_decide.mp m1
    apply propext
    omega
  unfold fJ9_floorMod_7cf53
  rw [if_neg (show ¬ (32 : Int32) = 0 by decide)]
  have hnr : (nI r).toInt = r := nI_toInt (by omega)
  by_cases c : 0 ≤ a
  · rw [if_pos (show 0 ≤ a ^^^ 32 by rw [hx]; exact c)]
    rw [le0] at c
    congr 1
    apply Int32.toInt_inj.mp
    rw [hrem, hnr, hmod, Int.tmod_eq_emod_of_nonneg c]
  · rw [if_neg (show ¬ 0 ≤ a ^^^ 32 by rw [hx]; exact c)]
    rw [le0] at c
    have ht2 : a.toInt.tmod 32 = -((-a.toInt) % 32) := by
      have := Int.neg_tmod (-a.toInt) 32
      rw [Int.neg_neg] at this
      rw [this, Int.tmod_eq_emod_of_nonneg (by omega)]
    by_cases z : a - a / 32 * 32 = 0
    · rw [if_pos z]
      congr 1
      apply Int32.toInt_inj.mp
      have z' : (a - a / 32 * 32).toInt = 0 := by rw [z]; decide
      rw [hrem] at z'
      rw [hrem, hnr]
      omega
    · rw [if_neg z]
      have z' : a.toInt.tmod 32 ≠ 0 := by
        intro e
        apply z
        apply Int32.toInt_inj.mp
        rw [hrem, e]
        decide
      congr 1
      apply Int32.toInt_inj.mp
      rw [ti_add, hrem, hnr, t32]
      · omega
      · rw [hrem, t32]; omega
      · rw [hrem, t32]; omega
theorem and31 (a : Int32) : ∃ r : Nat, r < 32 ∧ a &&& 31 = nI r := ⟨_, Nat.mod_lt _ (by decide), pk_and a 5 (by decide)⟩
theorem tell {x m : ST} {st : Int32} {v1 v2 : Int32} (hs : gA m 4 6 = st) (h1 : ∀ j, j < 96 → gA x 25 j = gA m 26 j) (h2 : ∀ j, j < 3 → gA x 26 j = gA m 27 j) : ∀ (n i : Nat) (v : Int32), i ≤ 3 → 3 < n + i → ∃ r, fX4_foretold_5 n (st * v1) v2 v (nI i) x = some (r, x) ∧ fX12_foretell_29 n v1 v2 v (nI i) m = some (r, m) := by
  intro n
  induction n with
  | zero => intro i v h1 h2; omega
  | succ n ih =>
    intro i v h3 h4
    rw [fX4_foretold_5, fX12_foretell_29]
    by_cases q : 3 ≤ i
    · rw [if_pos (lit_le (v := 3) (a := 3) (b := i) rfl q (by omega)), if_pos (lit_le (v := 3) (a := 3) (b := i) rfl q (by omega))]
      exact ⟨_, rfl, rfl⟩
    · have e6 : (6 : Int32).toNatClampNeg = 6 := by decide
      rw [if_neg (lit_nle (v := 3) (a := 3) (b := i) rfl (by omega) (by decide)), if_neg (lit_nle (v := 3) (a := 3) (b := i) rfl (by omega) (by decide)), if_pos (ix_nI (by omega) (by decide)), if_pos (show ixok 6 7 = true by decide), if_pos (ix_nI (by omega) (by decide)), cl_nI (show i < 2 ^ 31 by omega), e6, hs, h2 i (by omega), fm32, Option.bind_some, if_neg (show ¬ (32 : Int32) = 0 by decide)]
      obtain ⟨r, hr, er⟩ := and31 (st * v1 + gA m 27 i * v2)
      rw [er]
      have e1 : (nI r + 1) - (nI r + 1) / 32 * 32 = nI ((r + 1) % 32) := by
        rw [nI_1]
        exact pk_rem (d := 32) (by omega) (by decide) (by decide)
      have e2 : (nI r + 1) &&& 31 = nI ((r + 1) % 32) := by
        rw [nI_1]
        exact pk_andN (by omega) 5 (by decide)
      have hr2 : (r + 1) % 32 < 32 := Nat.mod_lt _ (by decide)
      rw [e1, e2, i32, i32, i32', i32', if_pos (ix_nI (by omega) (by decide)), if_pos (ix_nI (by omega) (by decide)), if_pos (ix_nI (by omega) (by decide)), if_pos (ix_nI (by omega) (by decide)), cl_nI (by omega), cl_nI (by omega), h1 (32 * i + (r + 1) % 32) (by omega), h1 (32 * i + r) (by omega), nI_1]
      exact ih (i + 1) _ (by omega) (by omega)
theorem op_foretell {k : Nat} {x m : ST} (h : Rel k x m) (hk : k < 512) (v1 v2 : Int32) : Ans (k + 1) (fX11_foretell v1 v2 x) (fX12_foretell v1 v2 m) := by
  have hm := h.mono
  obtain ⟨s, s1, s8, ex, em⟩ := h.s
  have hs := nI_m1 (n := s) (by omega)
  obtain ⟨g1, g2, g3, g4, g5, g6, g7, g8, g9, g10, g11, g12, g13, g14, g15⟩ := h
  unfold fX11_foretell fX12_foretell
  simp only [isSpot_x, isSpot_m, ex, em, wi, in_eq 0 9999 0 9999 rfl rfl, Option.bind_some]
  rcases wb_n v1 _ s hs with e1 | ⟨e1, l, hl, rfl⟩
  · simp only [e1, if_true]
    exact ⟨_, _, _, rfl, rfl, hm⟩
  simp only [e1, if_neg one_ne]
  rcases wb_c v2 0 9999 with e2 | ⟨e2, l2, u2⟩
  · simp only [e2, if_true]
    exact ⟨_, _, _, rfl, rfl, hm⟩
  simp only [e2, if_neg one_ne]
  have e6 : (6 : Int32).toNatClampNeg = 6 := by decide
  obtain ⟨r, E1, E2⟩ := tell (x := x) (m := m) (st := gA m 4 6) (v1 := nI l) (v2 := v2) rfl (fun j hj => (g13 j hj).1) (fun j hj => (g14 j hj).1) 200 0 0 (by omega) (by omega)
  unfold fX7_get fX4_foretold
  rw [if_pos (show ixok 6 7 = true by decide), Option.bind_some]
  simp only [e6, (g4 6 (by omega)).1]
  rw [show fX4_foretold_5 200 (gA m 4 6 * nI l) v2 0 0 x = _ from E1, show fX12_foretell_29 200 (nI l) v2 0 0 m = _ from E2, Option.bind_some]
  exact ⟨_, _, _, rfl, rfl, hm⟩

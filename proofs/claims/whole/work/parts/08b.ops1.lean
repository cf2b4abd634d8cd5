theorem isSpot_x (v : Int32) (x : ST) : fX11_isSpot v x = some (wb v 0 (gI x 11 - 1), x) := by
  unfold fX11_isSpot fX9_count
  rw [Option.bind_some, wi, Option.bind_some, if_pos (wb01 _ _ _)]
theorem isSpot_m (v : Int32) (m : ST) : fX12_isSpot v m = some (wb v 0 (gI m 0 - 1), m) := by
  unfold fX12_isSpot
  rw [in_eq 0 (gI m 0 - 1) 0 _ rfl rfl, Option.bind_some, if_pos (wb01 _ _ _)]
theorem isPart_x (v : Int32) (x : ST) : fX11_isPart v x = some (wb v 0 (gI x 9 - 1), x) := by
  unfold fX11_isPart fX6_count
  rw [Option.bind_some, wi, Option.bind_some, if_pos (wb01 _ _ _)]
theorem isPart_m (v : Int32) (m : ST) : fX12_isPart v m = some (wb v 0 (gI m 1 - 1), m) := by
  unfold fX12_isPart
  rw [in_eq 0 (gI m 1 - 1) 0 _ rfl rfl, Option.bind_some, if_pos (wb01 _ _ _)]
theorem isLayer_x (v : Int32) : fX11_isLayer v = some (wb v 0 2) := by
  unfold fX11_isLayer
  rw [wi, Option.bind_some, if_pos (wb01 _ _ _)]
theorem isLayer_m (v : Int32) : fX12_isLayer v = some (wb v 0 2) := by
  unfold fX12_isLayer
  rw [in_eq 0 2 0 2 rfl rfl, Option.bind_some, if_pos (wb01 _ _ _)]
theorem isSheet_x (v : Int32) : fX11_isSheet v = some (wb v 0 3) := by
  unfold fX11_isSheet
  rw [wi, Option.bind_some, if_pos (wb01 _ _ _)]
theorem isLane_x (v : Int32) : fX11_isLane v = some (wb v 0 2) := by
  unfold fX11_isLane
  rw [wi, Option.bind_some, if_pos (wb01 _ _ _)]
theorem inb_nI {v : Int32} {hi : Nat} (h : inb v 1 hi) : ∃ s : Nat, 1 ≤ s ∧ s ≤ hi ∧ v = nI s := by
  obtain ⟨h1, h2⟩ := h
  exact ⟨v.toInt.toNat, by omega, by omega, nI_of_toInt (by omega)⟩
theorem Rel.s {k : Nat} {x m : ST} (h : Rel k x m) : ∃ s : Nat, 1 ≤ s ∧ s ≤ 8 ∧ gI x 11 = nI s ∧ gI m 0 = nI s := by
  obtain ⟨⟨e1, e2, b1, b2⟩, -⟩ := h
  obtain ⟨s, h1, h2, h3⟩ := inb_nI (hi := 8) b1
  exact ⟨s, h1, h2, h3, e1 ▸ h3⟩
theorem Rel.p {k : Nat} {x m : ST} (h : Rel k x m) : ∃ p : Nat, 1 ≤ p ∧ p ≤ 5 ∧ gI x 9 = nI p ∧ gI m 1 = nI p := by
  obtain ⟨⟨e1, e2, b1, b2⟩, -⟩ := h
  obtain ⟨s, h1, h2, h3⟩ := inb_nI (hi := 5) b2
  exact ⟨s, h1, h2, h3, e2 ▸ h3⟩
/-- the answer r in both, the states x' and m' -/
def Ans (k : Nat) (f g : Option (Int32 × ST)) : Prop := ∃ (r : Int32) (x' m' : ST), f = some (r, x') ∧ g = some (r, m') ∧ Rel k x' m'
def AnsL (k : Nat) (f g : Option (Int64 × ST)) : Prop := ∃ (r : Int64) (x' m' : ST), f = some (r, x') ∧ g = some (r, m') ∧ Rel k x' m'
theorem REq.set {n : Nat} {lo hi : Int} {f g : Nat → Int32} {j : Nat} {v : Int32} (h : REq n lo hi f g) (hv : inb v lo hi) : REq n lo hi (upd f j v) (upd g j v) := by
  intro i hi
  rw [upd_eq, upd_eq]
  by_cases e : i = j
  · rw [if_pos e, if_pos e]; exact ⟨rfl, hv⟩
  · rw [if_neg e, if_neg e]; exact h i hi
theorem inb_of {v lo hi : Int32} {a b : Int} (h1 : lo.toInt ≤ v.toInt) (h2 : v.toInt ≤ hi.toInt) (ea : lo.toInt = a) (eb : hi.toInt = b) : inb v a b := ⟨ea ▸ h1, eb ▸ h2⟩
theorem op_light {k : Nat} {x m : ST} (h : Rel k x m) (hk : k < 512) (v1 v2 v3 : Int32) : Ans (k + 1) (fX11_light v1 v2 v3 x) (fX12_light v1 v2 v3 m) := by
  obtain ⟨s, s1, s8, ex, em⟩ := h.s
  have hs := nI_m1 (n := s) (by omega)
  unfold fX11_light fX12_light
  rw [isSpot_x, isSpot_m, ex, em]
  simp only [Option.bind_some, wi, in_eq 0 15 0 15 rfl rfl, in_eq 0 255 0 255 rfl rfl]
  rcases wb_n v1 _ s hs with e1 | ⟨e1, j1, hj1, rfl⟩
  · simp only [e1, if_true]
    exact ⟨_, _, _, rfl, rfl, h.mono⟩
  simp only [e1, if_neg one_ne]
  rcases wb_n v2 15 16 (by decide) with e2 | ⟨e2, j2, hj2, rfl⟩
  · simp only [e2, if_true]
    exact ⟨_, _, _, rfl, rfl, h.mono⟩
  simp only [e2, if_neg one_ne]
  rcases wb_c v3 0 255 with e3 | ⟨e3, l3, u3⟩
  · simp only [e3, if_true]
    exact ⟨_, _, _, rfl, rfl, h.mono⟩
  simp only [e3, if_neg one_ne]
  have i1 : nI j1 * 16 + nI j2 = nI (16 * j1 + j2) := by
    rw [show (16 : Int32) = nI 16 from rfl, pk_mul, nI_add, Nat.mul_comm]
  have i2 : 16 * nI j1 + nI j2 = nI (16 * j1 + j2) := by
    rw [show (16 : Int32) = nI 16 from rfl, pk_mul, nI_add]
  unfold fX9_swapLight
  rw [i1, i2, if_pos (ix_nI (by omega) (by decide)), if_pos (ix_nI (by omega) (by decide)), if_pos (ix_nI (by omega) (by decide)), if_pos (ix_nI (by omega) (by decide)), cl_nI (by omega)]
  obtain ⟨h1, h2, h3⟩ := h.mono
  rw [(h2 (16 * j1 + j2) (by omega)).1]
  refine ⟨_, _, _, rfl, rfl, h1, ?_, h3⟩
  have e : (nI (16 * j1 + j2)).toNatClampNeg = 16 * j1 + j2 := cl_nI (by omega)
  show REq 128 0 255 (upd (gA x 36) (nI (16 * j1 + j2)).toNatClampNeg v3) (upd (gA m 1) (nI (16 * j1 + j2)).toNatClampNeg v3)
  exact h2.set (inb_of l3 u3 (by decide) (by decide))
theorem op_rest {k : Nat} {x m : ST} (h : Rel k x m) (hk : k < 512) (v1 v2 : Int32) : Ans (k + 1) (fX11_rest v1 v2 x) (fX12_rest v1 v2 m) := by
  obtain ⟨s, s1, s8, ex, em⟩ := h.s
  have hs := nI_m1 (n := s) (by omega)
  unfold fX11_rest fX12_rest
  rw [isSpot_x, isSpot_m, ex, em]
  simp only [Option.bind_some, wi, in_eq 0 3000 0 3000 rfl rfl]
  rcases wb_n v1 _ s hs with e1 | ⟨e1, j1, hj1, rfl⟩
  · simp only [e1, if_true]
    exact ⟨_, _, _, rfl, rfl, h.mono⟩
  simp only [e1, if_neg one_ne]
  rcases wb_c v2 0 3000 with e3 | ⟨e3, l3, u3⟩
  · simp only [e3, if_true]
    exact ⟨_, _, _, rfl, rfl, h.mono⟩
  simp only [e3, if_neg one_ne]
  unfold fX9_swapRest
  rw [if_pos (ix_nI (by omega) (by decide)), if_pos (ix_nI (by omega) (by decide)), if_pos (ix_nI (by omega) (by decide)), if_pos (ix_nI (by omega) (by decide)), cl_nI (by omega)]
  obtain ⟨h1, h2, h3, h4⟩ := h.mono
  rw [(h3 j1 (by omega)).1]
  refine ⟨_, _, _, rfl, rfl, h1, h2, ?_, h4⟩
  show REq 8 0 3000 (upd (gA x 37) (nI j1).toNatClampNeg v2) (upd (gA m 2) (nI j1).toNatClampNeg v2)
  exact h3.set (inb_of l3 u3 (by decide) (by decide))
theorem op_cell {k : Nat} {x m : ST} (h : Rel k x m) (hk : k < 512) (v1 v2 v3 : Int32) : Ans (k + 1) (fX11_cell v1 v2 v3 x) (fX12_cell v1 v2 v3 m) := by
  unfold fX11_cell fX12_cell
  rw [isLayer_x, isLayer_m]
  simp only [Option.bind_some, wi, in_eq 0 31 0 31 rfl rfl, in_eq (-99) 99 (-99) 99 rfl rfl]
  rcases wb_n v1 2 3 (by decide) with e1 | ⟨e1, j1, hj1, rfl⟩
  · simp only [e1, if_true]
    exact ⟨_, _, _, rfl, rfl, h.mono⟩
  simp only [e1, if_neg one_ne]
  rcases wb_n v2 31 32 (by decide) with e2 | ⟨e2, j2, hj2, rfl⟩
  · simp only [e2, if_true]
    exact ⟨_, _, _, rfl, rfl, h.mono⟩
  simp only [e2, if_neg one_ne]
  rcases wb_c v3 (-99) 99 with e3 | ⟨e3, l3, u3⟩
  · simp only [e3, if_true]
    exact ⟨_, _, _, rfl, rfl, h.mono⟩
  simp only [e3, if_neg one_ne]
  have i1 : nI j1 * 32 + nI j2 = nI (32 * j1 + j2) := by
    rw [show (32 : Int32) = nI 32 from rfl, pk_mul, nI_add, Nat.mul_comm]
  have i2 : 32 * nI j1 + nI j2 = nI (32 * j1 + j2) := by
    rw [show (32 : Int32) = nI 32 from rfl, pk_mul, nI_add]
  unfold fX4_swapCell
  rw [i1, i2, if_pos (ix_nI (by omega) (by decide)), if_pos (ix_nI (by omega) (by decide)), if_pos (ix_nI (by omega) (by decide)), if_pos (ix_nI (by omega) (by decide)), cl_nI (by omega)]
  obtain ⟨h1, h2, h3, h4, h5, h6, h7, h8, h9, h10, h11, h12, h13, h14⟩ := h.mono
  rw [(h13 (32 * j1 + j2) (by omega)).1]
  refine ⟨_, _, _, rfl, rfl, h1, h2, h3, h4, h5, h6, h7, h8, h9, h10, h11, h12, ?_, h14⟩
  show REq 96 (-99) 99 (upd (gA x 25) (nI (32 * j1 + j2)).toNatClampNeg v3) (upd (gA m 26) (nI (32 * j1 + j2)).toNatClampNeg v3)
  exact h13.set (inb_of l3 u3 (by decide) (by decide))
theorem op_wind {k : Nat} {x m : ST} (h : Rel k x m) (hk : k < 512) (v1 v2 : Int32) : Ans (k + 1) (fX11_wind v1 v2 x) (fX12_wind v1 v2 m) := by
  unfold fX11_wind fX12_wind
  rw [isLayer_x, isLayer_m]
  simp only [Option.bind_some, wi, in_eq (-31) 31 (-31) 31 rfl rfl]
  rcases wb_n v1 2 3 (by decide) with e1 | ⟨e1, j1, hj1, rfl⟩
  · simp only [e1, if_true]
    exact ⟨_, _, _, rfl, rfl, h.mono⟩
  simp only [e1, if_neg one_ne]
  rcases wb_c v2 (-31) 31 with e3 | ⟨e3, l3, u3⟩
  · simp only [e3, if_true]
    exact ⟨_, _, _, rfl, rfl, h.mono⟩
  simp only [e3, if_neg one_ne]
  unfold fX4_swapWind
  rw [if_pos (ix_nI (by omega) (by decide)), if_pos (ix_nI (by omega) (by decide)), if_pos (ix_nI (by omega) (by decide)), if_pos (ix_nI (by omega) (by decide)), cl_nI (by omega)]
  obtain ⟨h1, h2, h3, h4, h5, h6, h7, h8, h9, h10, h11, h12, h13, h14, h15⟩ := h.mono
  rw [(h14 j1 (by omega)).1]
  refine ⟨_, _, _, rfl, rfl, h1, h2, h3, h4, h5, h6, h7, h8, h9, h10, h11, h12, h13, ?_, h15⟩
  show REq 3 (-31) 31 (upd (gA x 26) (nI j1).toNatClampNeg v2) (upd (gA m 27) (nI j1).toNatClampNeg v2)
  exact h14.set (inb_of l3 u3 (by decide) (by decide))
theorem op_start {k : Nat} {x m : ST} (h : Rel k x m) (hk : k < 512) : Ans (k + 1) (fX11_start x) (fX12_start m) := by
  obtain ⟨h1, h2, h3, h4, h5, h6, h7, h8, h9, ⟨a1, a2, a3, a4, a6, a7⟩, h11⟩ := h.mono
  unfold fX11_start fX12_start fX3_now fX3_enter fX12_become
  simp only [Option.bind_some, a1]
  by_cases c : gI m 5 = 0
  · rw [if_pos c, if_pos c]
    refine ⟨_, _, _, rfl, rfl, h1, h2, h3, h4, h5, h6, h7, h8, h9, ⟨rfl, a2, rfl, ?_, ?_, ?_⟩, h11⟩
    · exact (by decide : (0 : Int) ≤ (1 : Int32).toInt ∧ (1 : Int32).toInt ≤ 3)
    · intro _; exact (by decide : (0 : Int) ≤ (0 : Int32).toInt ∧ (0 : Int32).toInt ≤ 2)
    · intro e; exact absurd (show (1 : Int32) = 3 from e) (by decide)
  · rw [if_neg c, if_neg c]
    exact ⟨_, _, _, rfl, rfl, h.mono⟩
theorem op_stop {k : Nat} {x m : ST} (h : Rel k x m) (hk : k < 512) : Ans (k + 1) (fX11_stop x) (fX12_stop m) := by
  obtain ⟨h1, h2, h3, h4, h5, h6, h7, h8, h9, ⟨a1, a2, a3, a4, a6, a7⟩, h11⟩ := h.mono
  unfold fX11_stop fX12_stop fX3_now fX3_enter fX12_become
  simp only [Option.bind_some, a1]
  refine ⟨_, _, _, rfl, rfl, h1, h2, h3, h4, h5, h6, h7, h8, h9, ⟨rfl, a2, rfl, ?_, ?_, ?_⟩, h11⟩
  · exact (by decide : (0 : Int) ≤ (0 : Int32).toInt ∧ (0 : Int32).toInt ≤ 3)
  · intro e; exact absurd (show (0 : Int32) = 1 from e) (by decide)
  · intro e; exact absurd (show (0 : Int32) = 3 from e) (by decide)
theorem op_set {k : Nat} {x m : ST} (h : Rel k x m) (hk : k < 512) (v1 v2 : Int32) : Ans (k + 1) (fX11_set v1 v2 x) (fX12_set v1 v2 m) := by
  obtain ⟨h1, h2, h3, h4, h5⟩ := h.mono
  unfold fX11_set fX12_set fX7_takes
  simp only [Option.bind_some, wi, in_eq 0 6 0 6 rfl rfl]
  rcases wb_n v1 6 7 (by decide) with e1 | ⟨e1, j1, hj1, rfl⟩
  · simp only [e1, if_true, if_pos zb0, Option.bind_some]
    exact ⟨_, _, _, rfl, rfl, h.mono⟩
  simp only [e1, if_neg one_ne, if_pos (ix_nI (n := 7) hj1 (by decide)), cl_nI (show j1 < 2 ^ 31 by omega)]
  obtain ⟨q1, q2, q3, q4, q5⟩ := h4 j1 hj1
  rw [q2, q3, in_eq (zlow j1) (zhigh j1) _ _ rfl rfl]
  simp only [Option.bind_some]
  rcases wb_c v2 (zlow j1) (zhigh j1) with e3 | ⟨e3, l3, u3⟩
  · simp only [e3, if_true, if_pos zb0, Option.bind_some]
    exact ⟨_, _, _, rfl, rfl, h.mono⟩
  simp only [e3, if_neg one_ne, if_pos zb1, Option.bind_some]
  unfold fX7_swap
  simp only [if_pos (ix_nI (n := 7) hj1 (by decide)), cl_nI (show j1 < 2 ^ 31 by omega), Option.bind_some, q1]
  refine ⟨_, _, _, rfl, rfl, h1, h2, h3, ?_, h5⟩
  intro j hj
  show upd (gA x 32) (nI j1).toNatClampNeg v2 j = upd (gA m 4) (nI j1).toNatClampNeg v2 j ∧ gA m 5 j = zlow j ∧ gA m 6 j = zhigh j ∧ (zlow j).toInt ≤ (upd (gA m 4) (nI j1).toNatClampNeg v2 j).toInt ∧ (upd (gA m 4) (nI j1).toNatClampNeg v2 j).toInt ≤ (zhigh j).toInt
  rw [cl_nI (by omega), upd_eq, upd_eq]
  obtain ⟨p1, p2, p3, p4, p5⟩ := h4 j hj
  by_cases e : j = j1
  · subst e
    simp only [if_true]
    exact ⟨trivial, p2, p3, l3, u3⟩
  · simp only [if_neg e]
    exact ⟨p1, p2, p3, p4, p5⟩

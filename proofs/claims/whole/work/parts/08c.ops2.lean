/-! states: one cell written again and again -/
theorem sF_sF (x : ST) (k : Nat) (f g : Nat → Int32) : sF (sF x k f) k g = sF x k g := by
  show (_, _, va_up (va_up x.2.2.1 k f) k g, _) = (_, _, va_up x.2.2.1 k g, _)
  rw [bx_uu]
  rfl
theorem sF_id (x : ST) (k : Nat) : sF x k (gA x k) = x := by
  have e : va_up x.2.2.1 k (x.2.2.1 k) = x.2.2.1 := by
    funext j
    by_cases h : j = k
    · subst h; simp [va_up]
    · simp [va_up, h]
  show (x.1, x.2.1, va_up x.2.2.1 k (x.2.2.1 k), x.2.2.2) = x
  rw [e]
theorem gA_sF (x : ST) (k : Nat) (f : Nat → Int32) : gA (sF x k f) k = f := by
  show va_up x.2.2.1 k f k = f
  simp [va_up]
theorem sA_sF (x : ST) (k : Nat) (f : Nat → Int32) (i v : Int32) : sA (sF x k f) k i v = sF x k (upd f i.toNatClampNeg v) := by
  unfold sA
  rw [gA_sF, sF_sF]
theorem sH_sH (x : ST) (k : Nat) (f g : Nat → Int64) : sH (sH x k f) k g = sH x k g := by
  show (_, _, _, va_up (va_up x.2.2.2 k f) k g) = (_, _, _, va_up x.2.2.2 k g)
  rw [bx_uu]
  rfl
theorem sH_id (x : ST) (k : Nat) : sH x k (gB x k) = x := by
  have e : va_up x.2.2.2 k (x.2.2.2 k) = x.2.2.2 := by
    funext j
    by_cases h : j = k
    · subst h; simp [va_up]
    · simp [va_up, h]
  show (x.1, x.2.1, x.2.2.1, va_up x.2.2.2 k (x.2.2.2 k)) = x
  rw [e]
theorem gB_sH (x : ST) (k : Nat) (f : Nat → Int64) : gB (sH x k f) k = f := by
  show va_up x.2.2.2 k f k = f
  simp [va_up]
theorem sB_sH (x : ST) (k : Nat) (f : Nat → Int64) (i : Int32) (v : Int64) : sB (sH x k f) k i v = sH x k (vp_updL f i.toNatClampNeg v) := by
  unfold sB
  rw [gB_sH, sH_sH]
/-- places a .. a + n - 1 hold v -/
def zrg (f : Nat → Int32) (a n : Nat) (v : Int32) : Nat → Int32 := fun j => if a ≤ j ∧ j < a + n then v else f j
theorem zrg_0 (f : Nat → Int32) (a : Nat) (v : Int32) : zrg f a 0 v = f := by
  funext j
  unfold zrg
  rw [if_neg (by omega)]
theorem zrg_s (f : Nat → Int32) (a n : Nat) (v : Int32) : upd (zrg f a n v) (a + n) v = zrg f a (n + 1) v := by
  funext j
  rw [upd_eq]
  unfold zrg
  by_cases h : j = a + n
  · rw [if_pos h, if_pos (by omega)]
  · rw [if_neg h]
    by_cases h2 : a ≤ j ∧ j < a + n
    · rw [if_pos h2, if_pos (by omega)]
    · rw [if_neg h2, if_neg (by omega)]
theorem RPoke.zero {s : Int32} {ch gr le bys pk many by_ pokes : Nat → Int32} (h : RPoke s ch gr le bys pk many by_ pokes) (j : Nat) : RPoke s ch gr le bys (upd pk j 0) (upd many j 0) by_ pokes := by
  intro p hp
  by_cases e : p = j
  · subst e
    exact ⟨0, by omega, upd_s, upd_s, fun j hj => absurd hj (Nat.not_lt_zero _), fun h => absurd rfl h⟩
  · obtain ⟨c, h1, h2, h3, h4⟩ := h p hp
    exact ⟨c, h1, by rw [upd_n e]; exact h2, by rw [upd_n e]; exact h3, h4⟩
theorem i5 (a b : Nat) : nI a * 5 + nI b = nI (5 * a + b) := by rw [show (5 : Int32) = nI 5 from rfl, pk_mul, nI_add, Nat.mul_comm]
theorem i5' (a b : Nat) : 5 * nI a + nI b = nI (5 * a + b) := by rw [show (5 : Int32) = nI 5 from rfl, pk_mul, nI_add]
theorem op_table {k : Nat} {x m : ST} (h : Rel k x m) (hk : k < 512) (v1 v2 v3 : Int32) : Ans (k + 1) (fX11_table v1 v2 v3 x) (fX12_table v1 v2 v3 m) := by
  obtain ⟨s, s1, s8, ex, em⟩ := h.s
  obtain ⟨p, p1, p5, px, pm⟩ := h.p
  have hs := nI_m1 (n := s) (by omega)
  have hp := nI_m1 (n := p) (by omega)
  unfold fX11_table fX12_table
  simp only [isSpot_x, isSpot_m, isPart_x, isPart_m, ex, em, px, pm, Option.bind_some, wi, in_eq (-9) 9 (-9) 9 rfl rfl]
  rcases wb_n v1 _ s hs with e1 | ⟨e1, j1, hj1, rfl⟩
  · simp only [e1, if_true]
    exact ⟨_, _, _, rfl, rfl, h.mono⟩
  simp only [e1, if_neg one_ne]
  rcases wb_n v2 _ p hp with e2 | ⟨e2, j2, hj2, rfl⟩
  · simp only [e2, if_true]
    exact ⟨_, _, _, rfl, rfl, h.mono⟩
  simp only [e2, if_neg one_ne]
  rcases wb_c v3 (-9) 9 with e3 | ⟨e3, l3, u3⟩
  · simp only [e3, if_true]
    exact ⟨_, _, _, rfl, rfl, h.mono⟩
  simp only [e3, if_neg one_ne]
  unfold fX10_swap
  simp only [i5, i5', if_pos (ix_nI (show 5 * j1 + j2 < 40 by omega) (by decide)), if_pos (ix_nI (show j2 < 5 by omega) (by decide)), cl_nI (show 5 * j1 + j2 < 2 ^ 31 by omega), Option.bind_some]
  obtain ⟨h1, h2, h3, h4, h5, h6, h7⟩ := h.mono
  rw [(h5 (5 * j1 + j2) (by omega)).1]
  refine ⟨_, _, _, rfl, rfl, h1, h2, h3, h4, ?_, ?_, h7⟩
  · exact h5.set (inb_of l3 u3 (by decide) (by decide))
  · exact h6.zero (nI j2).toNatClampNeg
theorem op_dead {k : Nat} {x m : ST} (h : Rel k x m) (hk : k < 512) (v1 v2 : Int32) : Ans (k + 1) (fX11_dead v1 (if v2 = 0 then 0 else 1) x) (fX12_dead v1 (if v2 = 0 then 0 else 1) m) := by
  obtain ⟨p, p1, p5, px, pm⟩ := h.p
  have hp := nI_m1 (n := p) (by omega)
  have hb : (if v2 = 0 then (0 : Int32) else 1) = 0 ∨ (if v2 = 0 then (0 : Int32) else 1) = 1 := by
    by_cases e : v2 = 0
    · rw [if_pos e]; exact Or.inl rfl
    · rw [if_neg e]; exact Or.inr rfl
  generalize (if v2 = 0 then (0 : Int32) else 1) = z at hb
  unfold fX11_dead fX12_dead
  simp only [isPart_x, isPart_m, px, pm, Option.bind_some]
  rcases wb_n v1 _ p hp with e2 | ⟨e2, j2, hj2, rfl⟩
  · simp only [e2, if_true]
    exact ⟨_, _, _, rfl, rfl, h.mono⟩
  simp only [e2, if_neg one_ne]
  by_cases c : nI j2 = 0
  · simp only [if_pos c]
    exact ⟨_, _, _, rfl, rfl, h.mono⟩
  have hj0 : j2 ≠ 0 := fun e => c (by rw [e]; rfl)
  obtain ⟨h1, h2, h3, h4, h5, h6, h7, h8⟩ := h.mono
  obtain ⟨d0, d1⟩ := h7
  obtain ⟨q1, q2⟩ := d1 j2 (by omega)
  have q01 : zb01 (gA x 30 j2) = true := by
    rw [q1]
    rcases q2 with q | q <;> rw [q]
    · exact zb0
    · exact zb1
  have hnar : vp_nar .boolean z = z := by
    rcases hb with q | q <;> rw [q]
    · exact nar0
    · exact nar1
  unfold fX6_swapDead
  simp only [if_neg c, if_pos (ix_nI (show j2 < 5 by omega) (by decide)), cl_nI (show j2 < 2 ^ 31 by omega), if_pos q01, Option.bind_some]
  have hR : RDead (upd (gA x 30) (nI j2).toNatClampNeg z) (upd (gA m 10) (nI j2).toNatClampNeg z) := by
    rw [cl_nI (by omega)]
    refine ⟨by rw [upd_n (by omega)]; exact d0, fun p hp => ?_⟩
    rw [upd_eq, upd_eq]
    by_cases e : p = j2
    · rw [if_pos e, if_pos e]; exact ⟨rfl, hb⟩
    · rw [if_neg e, if_neg e]; exact d1 p hp
  unfold fX12_dead_28
  simp only [if_pos (ix_nI (show j2 < 5 by omega) (by decide)), hnar, q1]
  by_cases c2 : gA m 10 j2 = 0
  · simp only [if_pos c2]
    exact ⟨_, _, _, rfl, rfl, h1, h2, h3, h4, h5, h6, hR, h8⟩
  · simp only [if_neg c2]
    exact ⟨_, _, _, rfl, rfl, h1, h2, h3, h4, h5, h6, hR, h8⟩
theorem op_state {k : Nat} {x m : ST} (h : Rel k x m) (hk : k < 512) (v1 : Int32) : Ans (k + 1) (fX11_state v1 x) (fX12_state v1 m) := by
  obtain ⟨p, p1, p5, px, pm⟩ := h.p
  obtain ⟨h1, h2, h3, h4, h5, h6, h7, ⟨u1, u2⟩, h9, ⟨a1, a2, a3, a4⟩, h11⟩ := h
  unfold fX11_state fX12_state fX6_count fX6_tip fX3_now fX3_done fX6_unitsOf
  simp only [px, pm, Option.bind_some, wi, in_eq 0 (nI p + 2) 0 _ rfl rfl, h9, a1, a2]
  rcases wb_c v1 0 (nI p + 2) with e1 | ⟨e1, l1, g1⟩
  · simp only [e1, if_true]
    exact ⟨_, _, _, rfl, rfl, Rel.mono ⟨h1, h2, h3, h4, h5, h6, h7, ⟨u1, u2⟩, h9, ⟨a1, a2, a3, a4⟩, h11⟩⟩
  simp only [e1, if_neg one_ne]
  have hR := Rel.mono (k := k) (x := x) (m := m) ⟨h1, h2, h3, h4, h5, h6, h7, ⟨u1, u2⟩, h9, ⟨a1, a2, a3, a4⟩, h11⟩
  by_cases c1 : nI p ≤ v1
  · simp only [if_pos c1]
    by_cases c2 : v1 = nI p
    · simp only [if_pos c2]; exact ⟨_, _, _, rfl, rfl, hR⟩
    · simp only [if_neg c2]
      by_cases c3 : v1 = nI p + 1
      · simp only [if_pos c3]; exact ⟨_, _, _, rfl, rfl, hR⟩
      · simp only [if_neg c3]; exact ⟨_, _, _, rfl, rfl, hR⟩
  · simp only [if_neg c1]
    have h0 : (0 : Int32).toInt = 0 := by decide
    rw [h0] at l1
    have hv := nI_of_toInt l1
    have hlt : v1.toInt.toNat < p := by
      rw [Int32.le_iff_toInt_le, nI_toInt (by omega)] at c1
      omega
    generalize v1.toInt.toNat = j at hv hlt
    subst hv
    simp only [if_pos (ix_nI (show j < 5 by omega) (by decide)), cl_nI (show j < 2 ^ 31 by omega), Option.bind_some, u1 j (by omega)]
    exact ⟨_, _, _, rfl, rfl, hR⟩
theorem sq0 (a : Int) : 0 ≤ a * a := by
  have := Int.natAbs_mul_self (a := a)
  omega
theorem sq_le {a : Int} {n : Nat} (h1 : -(n : Int) ≤ a) (h2 : a ≤ n) : a * a ≤ n * n := by
  have e := Int.natAbs_mul_self (a := a)
  have hl : a.natAbs ≤ n := by omega
  have := Nat.mul_le_mul hl hl
  rw [← e]
  exact_mod_cast this
theorem usq_upd {f : Nat → Int32} {j : Nat} {v : Int32} (h1 : -60 ≤ v.toInt) (h2 : v.toInt ≤ 60) : usq (upd f j v) ≤ usq f + 3600 := by
  have hv := sq_le (n := 60) h1 h2
  have a0 := sq0 (f 0).toInt
  have a1 := sq0 (f 1).toInt
  have a2 := sq0 (f 2).toInt
  have a3 := sq0 (f 3).toInt
  have a4 := sq0 (f 4).toInt
  unfold usq
  rw [upd_eq, upd_eq, upd_eq, upd_eq, upd_eq]
  by_cases e0 : 0 = j
  · subst e0; simp; omega
  by_cases e1 : 1 = j
  · subst e1; simp; omega
  by_cases e2 : 2 = j
  · subst e2; simp; omega
  by_cases e3 : 3 = j
  · subst e3; simp; omega
  by_cases e4 : 4 = j
  · subst e4; simp; omega
  rw [if_neg e0, if_neg e1, if_neg e2, if_neg e3, if_neg e4]
  omega
theorem op_units {k : Nat} {x m : ST} (h : Rel k x m) (hk : k < 512) (v1 v2 : Int32) : Ans (k + 1) (fX11_units v1 v2 x) (fX12_units v1 v2 m) := by
  obtain ⟨p, p1, p5, px, pm⟩ := h.p
  have hp := nI_m1 (n := p) (by omega)
  have hm := h.mono
  obtain ⟨h1, h2, h3, h4, h5, h6, h7, ⟨u1, u2⟩, h9⟩ := h
  obtain ⟨q1, q2, q3, q4, q5⟩ := h4 4 (by omega)
  unfold fX11_units fX12_units fX7_get
  have e4 : (4 : Int32).toNatClampNeg = 4 := by decide
  have x4 : ixok 4 7 = true := by decide
  simp only [isPart_x, isPart_m, px, pm, Option.bind_some, e4, if_pos x4, q1, wi, in_eq (-(gA m 4 4)) (gA m 4 4) _ _ rfl rfl]
  rcases wb_n v1 _ p hp with e2 | ⟨e2, j2, hj2, rfl⟩
  · simp only [e2, if_true]
    exact ⟨_, _, _, rfl, rfl, hm⟩
  simp only [e2, if_neg one_ne]
  rcases wb_c v2 (-(gA m 4 4)) (gA m 4 4) with e3 | ⟨e3, l3, g3⟩
  · simp only [e3, if_true]
    exact ⟨_, _, _, rfl, rfl, hm⟩
  simp only [e3, if_neg one_ne]
  unfold fX6_swapUnits
  simp only [if_pos (ix_nI (show j2 < 5 by omega) (by decide)), cl_nI (show j2 < 2 ^ 31 by omega), Option.bind_some, u1 j2 (by omega)]
  have b1 : (zlow 4).toInt = 1 := by decide
  have b2 : (zhigh 4).toInt = 60 := by decide
  have hneg : (-(gA m 4 4)).toInt = -(gA m 4 4).toInt := ti_neg (by omega)
  obtain ⟨g1, g2, g3', g4', g5', g6', g7', -, g9'⟩ := hm
  refine ⟨_, _, _, rfl, rfl, g1, g2, g3', g4', g5', g6', g7', ⟨?_, ?_⟩, g9'⟩
  · intro j hj
    show upd (gA x 31) (nI j2).toNatClampNeg v2 j = upd (gA m 19) (nI j2).toNatClampNeg v2 j
    rw [upd_eq, upd_eq, u1 j hj]
  · have := usq_upd (f := gA m 19) (j := (nI j2).toNatClampNeg) (v := v2) (by omega) (by omega)
    show usq (upd (gA m 19) (nI j2).toNatClampNeg v2) ≤ _
    omega

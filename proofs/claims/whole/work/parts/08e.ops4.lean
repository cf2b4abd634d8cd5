def isum (f : Nat → Int32) : Nat → Int
  | 0 => 0
  | n + 1 => isum f n + (f n).toInt
theorem psum_int {f : Nat → Int32} (B : Nat) (hB : B ≤ 100000) : ∀ n : Nat, n ≤ 16 → (∀ j, j < n → -(B : Int) ≤ (f j).toInt ∧ (f j).toInt ≤ B) → (psum f n).toInt = isum f n ∧ -(B * n : Int) ≤ isum f n ∧ isum f n ≤ B * n
  | 0, _, _ => ⟨show (0 : Int32).toInt = 0 by decide, by simp [isum], by simp [isum]⟩
  | n + 1, hn, h => by
    obtain ⟨h1, h2, h3⟩ := psum_int B hB n (by omega) (fun j hj => h j (by omega))
    obtain ⟨h4, h5⟩ := h n (by omega)
    have e : ((B * (n + 1 : Nat) : Int)) = B * n + B := by
      push_cast
      rw [Int.mul_add, Int.mul_one]
    have hb : (B * n : Int) ≤ 1600000 := by
      have h' : B * n ≤ 1600000 := Nat.le_trans (Nat.mul_le_mul hB (show n ≤ 16 by omega)) (by decide)
      have h'' : ((B * n : Nat) : Int) ≤ ((1600000 : Nat) : Int) := Int.ofNat_le.mpr h'
      rw [Int.natCast_mul] at h''
      exact h''
    unfold psum isum
    rw [e]
    refine ⟨?_, by omega, by omega⟩
    rw [ti_add (by omega) (by omega), h1]
theorem usq_b {g : Nat → Int32} (h : usq g ≤ 9234000) (j : Nat) (hj : j < 5) : -3040 ≤ (g j).toInt ∧ (g j).toInt ≤ 3040 := by
  have a0 := sq0 (g 0).toInt
  have a1 := sq0 (g 1).toInt
  have a2 := sq0 (g 2).toInt
  have a3 := sq0 (g 3).toInt
  have a4 := sq0 (g 4).toInt
  have key : (g j).toInt * (g j).toInt ≤ 9234000 := by
    unfold usq at h
    rcases (show j = 0 ∨ j = 1 ∨ j = 2 ∨ j = 3 ∨ j = 4 by omega) with rfl | rfl | rfl | rfl | rfl <;> omega
  have e := Int.natAbs_mul_self (a := (g j).toInt)
  have hl : (g j).toInt.natAbs ≤ 3040 := by
    rcases Nat.lt_or_ge 3040 (g j).toInt.natAbs with q | q
    · have := Nat.mul_le_mul q q
      have : ((3041 * 3041 : Nat) : Int) ≤ ((g j).toInt.natAbs * (g j).toInt.natAbs : Nat) := by exact_mod_cast this
      omega
    · exact q
  omega
theorem shed_sq {g : Nat → Int32} {p : Nat} (p1 : 1 ≤ p) (p5 : p ≤ 5) (h : usq g ≤ 9234000) : usq (dsub g (psum g p / nI p) p) ≤ usq g := by
  have hb := usq_b h
  obtain ⟨e1, e2, e3⟩ := psum_int (f := g) 3040 (by decide) p (by omega) (fun j hj => hb j (by omega))
  have hp : (nI p).toInt = p := nI_toInt (by omega)
  have hq : (psum g p / nI p).toInt = (isum g p).tdiv p := by
    rw [ti_div (by omega), e1, hp]
  have hqn : ((isum g p).tdiv p).natAbs ≤ (isum g p).natAbs := by
    rw [Int.natAbs_tdiv]
    exact Nat.div_le_self _ _
  have ht := tq (isum g p) p
  have hd : ∀ j, j < 5 → (dsub g (psum g p / nI p) p j).toInt = if j < p then (g j).toInt - (isum g p).tdiv p else (g j).toInt := by
    intro j hj
    unfold dsub
    by_cases c : j < p
    · rw [if_pos c, if_pos c, ti_sub, hq]
      · rw [hq]; have := hb j hj; omega
      · rw [hq]; have := hb j hj; omega
    · rw [if_neg c, if_neg c]
  unfold usq
  rw [hd 0 (by omega), hd 1 (by omega), hd 2 (by omega), hd 3 (by omega), hd 4 (by omega)]
  generalize (isum g p).tdiv p = q at ht
  rcases (show p = 1 ∨ p = 2 ∨ p = 3 ∨ p = 4 ∨ p = 5 by omega) with rfl | rfl | rfl | rfl | rfl
  · simp only [isum] at ht
    simp (decide := true) only [if_true, if_false, sqe]
    rw [Int.mul_add] at ht
    have := sq0 q
    omega
  · simp only [isum] at ht
    simp (decide := true) only [if_true, if_false, sqe]
    rw [Int.mul_add, Int.mul_add] at ht
    have := sq0 q
    omega
  · simp only [isum] at ht
    simp (decide := true) only [if_true, if_false, sqe]
    rw [Int.mul_add, Int.mul_add, Int.mul_add] at ht
    have := sq0 q
    omega
  · simp only [isum] at ht
    simp (decide := true) only [if_true, if_false, sqe]
    rw [Int.mul_add, Int.mul_add, Int.mul_add, Int.mul_add] at ht
    have := sq0 q
    omega
  · simp only [isum] at ht
    simp (decide := true) only [if_true, sqe]
    rw [Int.mul_add, Int.mul_add, Int.mul_add, Int.mul_add, Int.mul_add] at ht
    have := sq0 q
    omega
theorem op_shed {k : Nat} {x m : ST} (h : Rel k x m) (hk : k < 512) : Ans (k + 1) (fX11_shed x) (fX12_shed m) := by
  obtain ⟨p, p1, p5, px, pm⟩ := h.p
  have hm := h.mono
  obtain ⟨h1, h2, h3, h4, h5, h6, h7, ⟨u1, u2⟩, h9, h10⟩ := h
  have hp0 : ¬ nI p = 0 := nI_ne0 (by omega) (by omega)
  have hp1 : ¬ nI p ≤ 0 := nI_nle (by omega) (by omega)
  have Sx := sum_x (x := x) (p := p) p5 px 200 0 (by omega) (by omega)
  have Sm := sum_m (m := m) (p := p) p5 pm 200 0 (by omega) (by omega)
  have es : psum (gA x 31) p = psum (gA m 19) p := psum_eq p (fun j hj => u1 j (by omega))
  rw [es] at Sx
  unfold fX11_shed fX12_shed fX6_giveToTip fX6_sum fX12_unitsAll fX11_cut
  have S1 : fX6_sum_4 200 0 0 x = some (psum (gA m 19) p, x) := Sx
  have S2 : fX12_unitsAll_4 200 0 0 m = some (psum (gA m 19) p, m) := Sm
  simp only [S1, S2, Option.bind_some, px, pm, if_neg hp0, if_neg hp1]
  generalize hq : psum (gA m 19) p / nI p = q
  have Gx := give_x (x := x) (p := p) (q := q) p5 px 200 0 (by omega) (by omega)
  rw [dsub_0, sF_id] at Gx
  have Gm := give_m (m := sI m 4 (gI m 4 + q)) (p := p) (q := q) p5 pm 200 0 (by omega) (by omega)
  rw [dsub_0, sF_id] at Gm
  have G1 : fX6_giveToTip_14 200 q 0 x = _ := Gx
  have G2 : fX12_shed_22 200 q 0 (sI m 4 (gI m 4 + q)) = _ := Gm
  rw [G1, G2]
  obtain ⟨g1, g2, g3, g4, g5, g6, g7, -, g9, g10⟩ := hm
  refine ⟨_, _, _, rfl, rfl, g1, g2, g3, g4, g5, g6, g7, ⟨?_, ?_⟩, ?_, g10⟩
  · intro j hj
    show dsub (gA x 31) q p j = dsub (gA m 19) q p j
    unfold dsub
    rw [u1 j hj]
  · show usq (dsub (gA m 19) q p) ≤ _
    rw [← hq]
    have := shed_sq (g := gA m 19) p1 p5 (by omega)
    omega
  · show gI x 10 + q = gI m 4 + q
    rw [h9]
/-! sheets -/
theorem isSheet_m (a b : Int32) : fX12_isSheet a b = some (if wb a 0 3 = 0 then 0 else if wb b 0 2 = 0 then 0 else 1) := by
  unfold fX12_isSheet
  simp only [in_eq 0 3 0 3 rfl rfl, in_eq 0 2 0 2 rfl rfl, Option.bind_some, if_pos zb0, if_pos zb1]
  by_cases c : wb a 0 3 = 0
  · rw [if_pos c, if_pos c]
  · rw [if_neg c, if_neg c]
    by_cases c2 : wb b 0 2 = 0
    · rw [if_pos c2, if_pos c2]
    · rw [if_neg c2, if_neg c2]
theorem op_drop {k : Nat} {x m : ST} (h : Rel k x m) (hk : k < 512) (v1 : Int32) : Ans (k + 1) (fX11_drop v1 x) (fX12_drop v1 m) := by
  have hm := h.mono
  obtain ⟨g1, g2, g3, g4, g5, g6, g7, g8, g9, g10, g11, g12, g13, g14, g15⟩ := h.mono
  unfold fX11_drop fX12_drop fX8_holds fX8_takeAway
  simp only [isSheet_x, in_eq 0 3 0 3 rfl rfl, Option.bind_some]
  rcases wb_n v1 3 4 (by decide) with e1 | ⟨e1, j, hj, rfl⟩
  · simp only [e1, if_true]
    exact ⟨_, _, _, rfl, rfl, hm⟩
  simp only [e1, if_neg one_ne, if_pos (ix_nI (show j < 4 from hj) (by decide)), cl_nI (show j < 2 ^ 31 by omega)]
  rcases g15 j hj with ⟨q1, q2⟩ | ⟨n, n40, q1, q2, q3, q4, q5⟩
  · simp only [q1, if_pos zb0, if_true, Option.bind_some, q2, if_neg (show ¬ (0 : Int32) ≤ -1 by decide)]
    exact ⟨_, _, _, rfl, rfl, hm⟩
  · have hne : ¬ nI n = -1 := by
      intro e
      have := nI_toInt (n := n) (by omega)
      rw [e] at this
      have h2 : (-1 : Int32).toInt = -1 := by decide
      omega
    have h0 : (0 : Int32) ≤ gA m 28 j := by
      rw [Int32.le_iff_toInt_le]
      have := q4.1
      have h2 : (0 : Int32).toInt = 0 := by decide
      omega
    simp only [q1, if_neg hne, if_pos zb1, Option.bind_some, if_neg one_ne, if_pos h0]
    rw [show gA (sA m 28 (nI j) (-1)) 29 j = nI n from q2]
    refine ⟨_, _, _, rfl, rfl, g1, g2, g3, g4, g5, g6, g7, g8, g9, g10, g11, g12, g13, g14, ?_⟩
    intro s hs
    show (upd (gA x 34) (nI j).toNatClampNeg (-1) s = -1 ∧ upd (gA m 28) (nI j).toNatClampNeg (-1) s = -1) ∨ ∃ n : Nat, n ≤ 40 ∧ upd (gA x 34) (nI j).toNatClampNeg (-1) s = nI n ∧ gA m 29 s = nI n ∧ gA x 33 s = upd (gA m 28) (nI j).toNatClampNeg (-1) s ∧ inb (upd (gA m 28) (nI j).toNatClampNeg (-1) s) 0 2 ∧ ∀ i, i < n → gA x 35 (40 * s + i) = gA m 30 (40 * s + i)
    rw [cl_nI (by omega), upd_eq, upd_eq]
    by_cases e : s = j
    · rw [if_pos e, if_pos e]; exact Or.inl ⟨rfl, rfl⟩
    · rw [if_neg e, if_neg e]; exact g15 s hs
theorem i40 (a b : Nat) : nI a * 40 + nI b = nI (40 * a + b) := by rw [show (40 : Int32) = nI 40 from rfl, pk_mul, nI_add, Nat.mul_comm]
theorem i40' (a b : Nat) : 40 * nI a + nI b = nI (40 * a + b) := by rw [show (40 : Int32) = nI 40 from rfl, pk_mul, nI_add]
theorem lay_x {x : ST} {f : Nat → Int32} {j N : Nat} (hj : j < 4) (hN : N ≤ 40) : ∀ n i : Nat, i ≤ N → N < n + i → fX8_lay_17 n (nI j) (nI N) (nI i) (sF x 35 (zrg f (40 * j) i 0)) = some (sF x 35 (zrg f (40 * j) N 0)) := by
  intro n
  induction n with
  | zero => intro i h1 h2; omega
  | succ n ih =>
    intro i h1 h2
    rw [fX8_lay_17]
    by_cases c : N ≤ i
    · have : i = N := by omega
      subst this
      rw [if_pos (nI_le c (by omega))]
    · rw [if_neg (nI_ge (by omega) (by omega)), i40, if_pos (ix_nI (by omega) (by decide)), sA_sF, cl_nI (by omega), zrg_s, nI_1]
      exact ih (i + 1) (by omega) (by omega)
theorem lay_m {m : ST} {f : Nat → Int32} {j : Nat} {v : Int32} (hj : j < 4) : ∀ n i : Nat, i ≤ 40 → 40 < n + i → fX12_sheet_40 n (nI j) v (nI i) (sF m 30 (zrg f (40 * j) i 0)) = some (v, sF m 30 (zrg f (40 * j) 40 0)) := by
  intro n
  induction n with
  | zero => intro i h1 h2; omega
  | succ n ih =>
    intro i h1 h2
    rw [fX12_sheet_40]
    by_cases c : 40 ≤ i
    · have : i = 40 := by omega
      subst this
      rw [if_pos (show (40 : Int32) ≤ nI 40 from nI_le (a := 40) (Nat.le_refl _) (by decide))]
    · rw [if_neg (show ¬ (40 : Int32) ≤ nI i from nI_ge (b := 40) (by omega) (by decide)), i40', if_pos (ix_nI (by omega) (by decide)), sA_sF, cl_nI (by omega), zrg_s, nI_1]
      exact ih (i + 1) (by omega) (by omega)
theorem op_sheet {k : Nat} {x m : ST} (h : Rel k x m) (hk : k < 512) (v1 v2 v3 : Int32) : Ans (k + 1) (fX11_sheet v1 v2 v3 x) (fX12_sheet v1 v2 v3 m) := by
  have hm := h.mono
  obtain ⟨g1, g2, g3, g4, g5, g6, g7, g8, g9, g10, g11, g12, g13, g14, g15⟩ := h.mono
  unfold fX11_sheet fX12_sheet fX8_lay
  simp only [isSheet_x, isLane_x, isSheet_m, Option.bind_some]
  rcases wb_n v1 3 4 (by decide) with e1 | ⟨e1, j, hj, rfl⟩
  · simp only [e1, if_true]
    exact ⟨_, _, _, rfl, rfl, hm⟩
  simp only [e1, if_neg one_ne]
  rcases wb_c v2 0 2 with e2 | ⟨e2, l2, u2⟩
  · simp only [e2, if_true]
    exact ⟨_, _, _, rfl, rfl, hm⟩
  simp only [e2, if_neg one_ne]
  by_cases c1 : v3 ≤ 40
  · simp only [if_pos c1]
    by_cases c2 : 0 ≤ v3
    · simp only [if_pos c2, if_pos (ix_nI (show j < 4 from hj) (by decide))]
      have h0 : (0 : Int32).toInt = 0 := by decide
      have h40 : (40 : Int32).toInt = 40 := by decide
      rw [Int32.le_iff_toInt_le, h0] at c2
      rw [Int32.le_iff_toInt_le, h40] at c1
      have hv := nI_of_toInt c2
      have hN : v3.toInt.toNat ≤ 40 := by omega
      generalize v3.toInt.toNat = n at hv hN
      subst hv
      have L1 := lay_x (x := sA (sA x 33 (nI j) v2) 34 (nI j) (nI n)) (f := gA x 35) hj hN 200 0 (by omega) (by omega)
      have L2 := lay_m (m := sA (sA m 28 (nI j) v2) 29 (nI j) (nI n)) (f := gA m 30) (v := nI n) hj 200 0 (by omega) (by omega)
      rw [zrg_0] at L1 L2
      have s1 : sF (sA (sA x 33 (nI j) v2) 34 (nI j) (nI n)) 35 (gA x 35) = sA (sA x 33 (nI j) v2) 34 (nI j) (nI n) := sF_id (sA (sA x 33 (nI j) v2) 34 (nI j) (nI n)) 35
      have s2 : sF (sA (sA m 28 (nI j) v2) 29 (nI j) (nI n)) 30 (gA m 30) = sA (sA m 28 (nI j) v2) 29 (nI j) (nI n) := sF_id (sA (sA m 28 (nI j) v2) 29 (nI j) (nI n)) 30
      rw [s1] at L1
      rw [s2] at L2
      have M1 : fX8_lay_17 200 (nI j) (nI n) 0 (sA (sA x 33 (nI j) v2) 34 (nI j) (nI n)) = _ := L1
      have M2 : fX12_sheet_40 200 (nI j) (nI n) 0 (sA (sA m 28 (nI j) v2) 29 (nI j) (nI n)) = _ := L2
      rw [M1, M2, Option.bind_some]
      refine ⟨_, _, _, rfl, rfl, g1, g2, g3, g4, g5, g6, g7, g8, g9, g10, g11, g12, g13, g14, ?_⟩
      intro s hs
      show (upd (gA x 34) (nI j).toNatClampNeg (nI n) s = -1 ∧ upd (gA m 28) (nI j).toNatClampNeg v2 s = -1) ∨ ∃ n' : Nat, n' ≤ 40 ∧ upd (gA x 34) (nI j).toNatClampNeg (nI n) s = nI n' ∧ upd (gA m 29) (nI j).toNatClampNeg (nI n) s = nI n' ∧ upd (gA x 33) (nI j).toNatClampNeg v2 s = upd (gA m 28) (nI j).toNatClampNeg v2 s ∧ inb (upd (gA m 28) (nI j).toNatClampNeg v2 s) 0 2 ∧ ∀ i, i < n' → zrg (gA x 35) (40 * j) n 0 (40 * s + i) = zrg (gA m 30) (40 * j) 40 0 (40 * s + i)
      rw [cl_nI (by omega), upd_eq, upd_eq, upd_eq, upd_eq]
      by_cases e : s = j
      · subst e
        simp only [if_true]
        refine Or.inr ⟨n, hN, rfl, rfl, trivial, inb_of l2 u2 (by decide) (by decide), fun i hi => ?_⟩
        unfold zrg
        rw [if_pos (by omega), if_pos (by omega)]
      · simp only [if_neg e]
        rcases g15 s hs with q | ⟨n', b1, b2, b3, b4, b5, b6⟩
        · exact Or.inl q
        · refine Or.inr ⟨n', b1, b2, b3, b4, b5, fun i hi => ?_⟩
          unfold zrg
          rw [if_neg (by omega), if_neg (by omega)]
          exact b6 i hi
    · simp only [if_neg c2]
      exact ⟨_, _, _, rfl, rfl, hm⟩
  · simp only [if_neg c1]
    exact ⟨_, _, _, rfl, rfl, hm⟩

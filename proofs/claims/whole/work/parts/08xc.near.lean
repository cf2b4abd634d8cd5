/-! nearest and off -/
theorem fw_x {y0 : ST} {P : Nat} (hP : P ≤ 5) (e9 : gI y0 9 = nI P) : ∀ (M p : Nat) (f : Nat → Int32), p ≤ P → P < M + p → (∀ q, q < p → f q = gA y0 19 q) → ∃ f', fX11_fitWholes_2 M (nI p) (sF y0 21 f) = fX11_fitWholes_35 (sF y0 21 f') ∧ (∀ q, q < P → f' q = gA y0 19 q) := by
  intro M
  induction M with
  | zero => intro p f h1 h2; omega
  | succ M ih =>
    intro p f h1 h2 hq
    rw [fX11_fitWholes_2]
    unfold fX6_count
    rw [Option.bind_some]
    simp only [show gI (sF y0 21 f) 9 = gI y0 9 from rfl, e9]
    by_cases c : P ≤ p
    · have : p = P := by omega
      subst this
      rw [if_pos (nI_le c (by omega))]
      exact ⟨f, rfl, hq⟩
    · rw [if_neg (nI_ge (by omega) (by omega))]
      unfold fX0_rounded fX2_wish
      rw [if_pos (ix_nI (show p < 5 by omega) (by decide)), cl_nI (by omega), Option.bind_some, if_pos (ix_nI (show p < 5 by omega) (by decide)), Option.bind_some, nI_1]
      have e : sA (sF y0 21 f) 21 (nI p) (gA (sF y0 21 f) 19 p) = sF y0 21 (upd f p (gA y0 19 p)) := by
        have := sA_sF y0 21 f (nI p) (gA y0 19 p)
        rw [cl_nI (by omega)] at this
        exact this
      rw [e]
      apply ih (p + 1) _ (by omega) (by omega)
      intro q h
      rw [upd_eq]
      by_cases e : q = p
      · rw [if_pos e, e]
      · rw [if_neg e]; exact hq q (by omega)
theorem fw_m {z0 : ST} {P : Nat} (hP : P ≤ 5) (e1 : gI z0 1 = nI P) : ∀ (M p : Nat) (f : Nat → Int32), p ≤ P → P < M + p → (∀ q, q < p → f q = gA z0 15 q) → ∃ f', fX12_nearestToWholes_6 M (nI p) (sF z0 17 f) = fX12_nearestToWholes_32 (sF z0 17 f') ∧ (∀ q, q < P → f' q = gA z0 15 q) := by
  intro M
  induction M with
  | zero => intro p f h1 h2; omega
  | succ M ih =>
    intro p f h1 h2 hq
    rw [fX12_nearestToWholes_6, show gI (sF z0 17 f) 1 = gI z0 1 from rfl, e1]
    by_cases c : P ≤ p
    · have : p = P := by omega
      subst this
      rw [if_pos (nI_le c (by omega))]
      exact ⟨f, rfl, hq⟩
    · rw [if_neg (nI_ge (by omega) (by omega)), if_pos (ix_nI (show p < 5 by omega) (by decide)), if_pos (ix_nI (show p < 5 by omega) (by decide)), cl_nI (by omega), nI_1]
      have e : sA (sF z0 17 f) 17 (nI p) (gA (sF z0 17 f) 15 p) = sF z0 17 (upd f p (gA z0 15 p)) := by
        have := sA_sF z0 17 f (nI p) (gA z0 15 p)
        rw [cl_nI (by omega)] at this
        exact this
      rw [e]
      apply ih (p + 1) _ (by omega) (by omega)
      intro q h
      rw [upd_eq]
      by_cases e : q = p
      · rw [if_pos e, e]
      · rw [if_neg e]; exact hq q (by omega)
theorem csX_ofF {x y : ST} (h : fF x y) : csX x y := h.sub (fun i hi => by simp [sXi] at hi ⊢; omega) (fun a ha => by simp [sXa] at ha ⊢; omega)
theorem csM_ofH {x y : ST} (h : fH x y) : csM x y := h.sub (fun i hi => rfl) (fun a ha => by simp [sMa] at ha ⊢; omega)
/-- the limit and the neighbours' number -/
theorem lim {x m : ST} (h : BR x m) : ∃ T N : Nat, T ≤ 60 ∧ N ≤ 120 ∧ gA m 4 4 = nI T ∧ gA m 4 5 = nI N ∧ gA x 32 4 = nI T ∧ gA x 32 5 = nI N := by
  obtain ⟨_, _, _, g4, _, _⟩ := h
  obtain ⟨a1, _, _, a2, a3⟩ := g4 4 (by omega)
  obtain ⟨b1, _, _, b2, b3⟩ := g4 5 (by omega)
  have z1 : (zlow 4).toInt = 1 := by decide
  have z2 : (zhigh 4).toInt = 60 := by decide
  have z3 : (zlow 5).toInt = 0 := by decide
  have z4 : (zhigh 5).toInt = 120 := by decide
  refine ⟨(gA m 4 4).toInt.toNat, (gA m 4 5).toInt.toNat, by omega, by omega, nI_of_toInt (by omega), nI_of_toInt (by omega), ?_, ?_⟩
  · rw [a1]; exact nI_of_toInt (by omega)
  · rw [b1]; exact nI_of_toInt (by omega)
theorem near_b {x m : ST} (h : BR x m) : ∃ (P : Nat) (y y' z' : ST) (v : Int64), (1 ≤ P ∧ P ≤ 5 ∧ gI m 1 = nI P ∧ gI x 9 = nI P) ∧ fX11_findBends x = some y ∧ fX11_fitWholes y = some y' ∧ csX x y' ∧ fX12_nearestToWholes m = some (v, z') ∧ csM m z' ∧ gL y' 0 = v ∧ 0 ≤ v ∧ ∀ q, q < P → gA y' 24 q = gA z' 18 q := by
  obtain ⟨S, P, y, ⟨b1, b2, b3, b4, b5, b6, b7, b8⟩, B2, B3, B4, B5, B6, ⟨m', M1, M2, M3⟩⟩ := bends h
  obtain ⟨T, N, t1, t2, t3, t4, t5, t6⟩ := lim h
  obtain ⟨_, _, _, _, _, g6⟩ := h
  obtain ⟨f, F1, F2⟩ := fw_x (y0 := y) (P := P) b4 (by rw [B3.1 9 rfl]; exact b8) 200 0 (gA y 21) (by omega) (by omega) (fun q h => absurd h (Nat.not_lt_zero q))
  obtain ⟨g, G1, G2⟩ := fw_m (z0 := m') (P := P) b4 (by rw [M2.1 1 rfl]; exact b7) 200 0 (gA m' 17) (by omega) (by omega) (fun q h => absurd h (Nat.not_lt_zero q))
  obtain ⟨w, hw⟩ : ∃ w : Nat → Int, w = fun p => if p < P then (gA y 19 p).toInt else 0 := ⟨_, rfl⟩
  have hwb : ∀ p, (w p).natAbs ≤ 30000 := by
    intro p
    rw [hw]
    show (if p < P then (gA y 19 p).toInt else 0).natAbs ≤ 30000
    by_cases c : p < P
    · rw [if_pos c]
      have := B5 p c
      unfold inb at this
      omega
    · rw [if_neg c]; decide
  have hwv : ∀ p, p < P → gA y 19 p = oI (w p) := by
    intro p hp
    rw [hw]
    show _ = oI (if p < P then _ else _)
    rw [if_pos hp]
    exact oI_q
  obtain ⟨y', X1, X2, X3, X4⟩ := fit_x (w := w) (D := gA m 10) (T := T) (N := N) (P := P) (y := sF y 21 f) t1 t2 b3 b4 hwb (by show gI y 9 = _; rw [B3.1 9 rfl]; exact b8) (by show ∀ i, i < 5 → gA y 30 i = _ ∧ _; rw [B3.2 30 rfl]; exact g6.2) (fun p hp => (F2 p hp).trans (hwv p hp))
  obtain ⟨z', Z1, Z2, Z3⟩ := fit_m (w := w) (D := gA m 10) (T := T) (N := N) (P := P) (z := sF m' 17 g) t1 t2 b3 b4 hwb ⟨by show gI m' 1 = _; rw [M2.1 1 rfl]; exact b7, by show ∀ i, i < 5 → gA m' 10 i = _; rw [M2.2 10 rfl]; exact fun i _ => rfl, by show gA m' 4 4 = _; rw [M2.2 4 rfl]; exact t3, by show gA m' 4 5 = _; rw [M2.2 4 rfl]; exact t4, fun p hp => (G2 p hp).trans ((M3 p hp).trans (hwv p hp))⟩
  have e4 : (4 : Int32).toNatClampNeg = 4 := by decide
  have e5 : (5 : Int32).toNatClampNeg = 5 := by decide
  have hr := ro_b (w := w) (D := gA m 10) (T := T) (N := N) (P := P) 0
  have hv := Fc_b (D := gA m 10) (N := N) (P := P) (p := 0) b4 t1 hwb hr.1 hr.2
  refine ⟨P, y, y', z', _, ⟨b3, b4, b7, b8⟩, B2, ?_, ?_, ?_, ?_, X3, ?_, ?_⟩
  · unfold fX11_fitWholes
    have e : sF y 21 (gA y 21) = y := sF_id y 21
    rw [e] at F1
    rw [show fX11_fitWholes_2 200 0 y = _ from F1]
    unfold fX11_fitWholes_35 fX7_get
    simp only [if_pos (show ixok 4 7 = true by decide), if_pos (show ixok 5 7 = true by decide), Option.bind_some, e4, e5, show gA (sF y 21 f) 32 = gA y 32 from rfl, B3.2 32 rfl, t5, t6]
    rw [X1, Option.bind_some]
  · have q1 : csX y (sF y 21 f) := fr.rf.sF rfl _
    exact (B3.tr q1).tr (csX_ofF X2)
  · unfold fX12_nearestToWholes
    rw [M1, Option.bind_some]
    have e : sF m' 17 (gA m' 17) = m' := sF_id m' 17
    rw [e] at G1
    rw [show fX12_nearestToWholes_6 200 0 m' = _ from G1]
    unfold fX12_nearestToWholes_32
    rw [Z1, Option.bind_some]
  · have q1 : csM m' (sF m' 17 g) := fr.rf.sF rfl _
    exact (M2.tr q1).tr (csM_ofH Z2)
  · rw [Int64.le_iff_toInt_le, oi_small (by omega), lz]
    exact hv.1
  · intro q hq
    rw [X4 q hq, Z3 q hq]
theorem op_nearest {k : Nat} {x m : ST} (h : Rel k x m) (hk : k < 512) (v1 : Int32) : Ans (k + 1) (fX11_nearest v1 x) (fX12_nearest v1 m) := by
  obtain ⟨P, y, y', z', v, ⟨b1, b2, b3, b4⟩, B1, B2, B3, B4, B5, B6, B7, B8⟩ := near_b h.br
  have hp := nI_m1 (n := P) (by omega)
  have hm := h.mono
  unfold fX11_nearest fX12_nearest
  simp only [isPart_x, isPart_m, b3, b4, Option.bind_some]
  rcases wb_n v1 _ P hp with e1 | ⟨e1, l, hl, rfl⟩
  · simp only [e1, if_true]
    exact ⟨_, _, _, rfl, rfl, hm⟩
  simp only [e1, if_neg one_ne]
  rw [B1, Option.bind_some, B2, Option.bind_some, B4, Option.bind_some]
  simp only [if_pos B7]
  unfold fX2_unitsOf
  rw [if_pos (ix_nI (show l < 5 by omega) (by decide)), if_pos (ix_nI (show l < 5 by omega) (by decide)), cl_nI (by omega), Option.bind_some, B8 l hl]
  exact ⟨_, _, _, rfl, rfl, Rel_fr hm B3 B5⟩
theorem op_off {k : Nat} {x m : ST} (h : Rel k x m) (hk : k < 512) : AnsL (k + 1) (fX11_off  x) (fX12_off  m) := by
  obtain ⟨P, y, y', z', v, ⟨b1, b2, b3, b4⟩, B1, B2, B3, B4, B5, B6, B7, B8⟩ := near_b h.br
  unfold fX11_off fX12_off
  rw [B1, Option.bind_some, B2, Option.bind_some, B4, Option.bind_some]
  unfold fX2_squares
  rw [Option.bind_some, B6]
  exact ⟨_, _, _, rfl, rfl, Rel_fr h.mono B3 B5⟩

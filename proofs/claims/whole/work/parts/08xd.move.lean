/-! one move of the row, by both -/
def wf (u V : Nat → Int32) (G : Int32) (P p : Nat) : Int := if p < P then (u p - G * V p / 100).toInt else 0
def FF (u V : Nat → Int32) (G : Int32) (D : Nat → Int32) (T N P p : Nat) : Int32 := oI (ro (wf u V G P) D T N P p)
theorem wf_c {u u' V V' : Nat → Int32} {G : Int32} {P : Nat} (h : ∀ p, p < P → u p = u' p) (h2 : ∀ p, p < P → V p = V' p) : wf u V G P = wf u' V' G P := by
  funext p
  unfold wf
  by_cases c : p < P
  · rw [if_pos c, if_pos c, h p c, h2 p c]
  · rw [if_neg c, if_neg c]
theorem wf_b {u V : Nat → Int32} {G : Int32} {P : Nat} (hu : ∀ p, p < P → (u p).toInt.natAbs ≤ 3040) (hV : ∀ p, p < P → inb (V p) (-9999) 9999) (hG : inb G 0 200) : ∀ p, (wf u V G P p).natAbs ≤ 30000 ∧ (p < P → u p - G * V p / 100 = oI (wf u V G P p)) := by
  intro p
  unfold wf
  by_cases c : p < P
  · rw [if_pos c]
    refine ⟨?_, fun _ => oI_q⟩
    have h1 := hu p c
    obtain ⟨v1, v2⟩ := hV p c
    obtain ⟨g1, g2⟩ := hG
    have hm := mulb (a := G.toInt) (b := (V p).toInt) (A := 200) (B := 9999) (by omega) (by omega)
    have em : (G * V p).toInt = G.toInt * (V p).toInt := ti_mul (by omega) (by omega)
    have e100 : (100 : Int32).toInt = 100 := by decide
    have ed : (G * V p / 100).toInt = (G.toInt * (V p).toInt).tdiv 100 := by rw [ti_div (by omega), em, e100]
    have hd : ((G.toInt * (V p).toInt).tdiv 100).natAbs ≤ 19998 := by
      rw [Int.natAbs_tdiv]
      have : (G.toInt * (V p).toInt).natAbs / 100 ≤ 19998 := by omega
      exact this
    rw [ti_sub (by omega) (by omega), ed]
    omega
  · rw [if_neg c]
    exact ⟨by decide, fun h => absurd h c⟩
theorem mvx_2 {y : ST} {P : Nat} {G : Int32} (hP : P ≤ 5) (e9 : gI y 9 = nI P) (eG : gA y 32 3 = G) : ∀ (M p : Nat) (f : Nat → Int32), p ≤ P → P < M + p → (∀ q, q < p → f q = gA y 31 q - G * gA y 19 q / 100) → ∃ f', fX11_moveUnits_2 M (nI p) (sF y 21 f) = fX11_moveUnits_56 (sF y 21 f') ∧ (∀ q, q < P → f' q = gA y 31 q - G * gA y 19 q / 100) := by
  have e3 : (3 : Int32).toNatClampNeg = 3 := by decide
  intro M
  induction M with
  | zero => intro p f h1 h2; omega
  | succ M ih =>
    intro p f h1 h2 hq
    rw [fX11_moveUnits_2]
    unfold fX6_count
    rw [Option.bind_some]
    simp only [show gI (sF y 21 f) 9 = gI y 9 from rfl, e9]
    by_cases c : P ≤ p
    · have : p = P := by omega
      subst this
      rw [if_pos (nI_le c (by omega))]
      exact ⟨f, rfl, hq⟩
    · rw [if_neg (nI_ge (by omega) (by omega))]
      unfold fX6_unitsOf fX7_get fX0_rounded fX2_wish
      rw [if_pos (ix_nI (show p < 5 by omega) (by decide)), cl_nI (by omega), Option.bind_some, if_pos (show ixok 3 7 = true by decide), Option.bind_some, if_pos (ix_nI (show p < 5 by omega) (by decide)), Option.bind_some, if_neg (show ¬ (100 : Int32) = 0 by decide), if_pos (ix_nI (show p < 5 by omega) (by decide)), Option.bind_some, nI_1, e3]
      have e : sA (sF y 21 f) 21 (nI p) (gA (sF y 21 f) 31 p - gA (sF y 21 f) 32 3 * gA (sF y 21 f) 19 p / 100) = sF y 21 (upd f p (gA y 31 p - G * gA y 19 p / 100)) := by
        rw [← eG]
        have := sA_sF y 21 f (nI p) (gA y 31 p - gA y 32 3 * gA y 19 p / 100)
        rw [cl_nI (by omega)] at this
        exact this
      rw [e]
      apply ih (p + 1) _ (by omega) (by omega)
      intro q h
      rw [upd_eq]
      by_cases e : q = p
      · rw [if_pos e, e]
      · rw [if_neg e]; exact hq q (by omega)
theorem mvx_87 {y : ST} {P : Nat} (hP : P ≤ 5) (e9 : gI y 9 = nI P) : ∀ (M p : Nat) (v : Int32) (f : Nat → Int32), p ≤ P → P < M + p → (v = 0 ∨ v = 1) → (v = 0 → ∀ q, q < p → gA y 24 q = gA y 31 q) → (∀ q, q < p → f q = gA y 24 q) → (∀ q, p ≤ q → f q = gA y 31 q) → ∃ v' f', fX11_moveUnits_87 M v (nI p) (sF y 31 f) = some (v', sF y 31 f') ∧ (v' = 0 ∨ v' = 1) ∧ (v' = 0 → ∀ q, q < P → gA y 24 q = gA y 31 q) ∧ (∀ q, q < P → f' q = gA y 24 q) ∧ (∀ q, P ≤ q → f' q = gA y 31 q) := by
  intro M
  induction M with
  | zero => intro p v f h1 h2; omega
  | succ M ih =>
    intro p v f h1 h2 hv hz hq hq'
    rw [fX11_moveUnits_87]
    unfold fX6_count
    rw [Option.bind_some]
    simp only [show gI (sF y 31 f) 9 = gI y 9 from rfl, e9]
    by_cases c : P ≤ p
    · have : p = P := by omega
      subst this
      rw [if_pos (nI_le c (by omega)), if_pos (zb_of hv)]
      exact ⟨v, f, rfl, hv, hz, hq, hq'⟩
    · rw [if_neg (nI_ge (by omega) (by omega))]
      unfold fX2_unitsOf fX6_swapUnits fX11_moveUnits_122
      rw [if_pos (ix_nI (show p < 5 by omega) (by decide)), cl_nI (by omega), Option.bind_some, if_pos (ix_nI (show p < 5 by omega) (by decide)), if_pos (ix_nI (show p < 5 by omega) (by decide)), Option.bind_some, nI_1]
      have e : sA (sF y 31 f) 31 (nI p) (gA (sF y 31 f) 24 p) = sF y 31 (upd f p (gA y 24 p)) := by
        have := sA_sF y 31 f (nI p) (gA y 24 p)
        rw [cl_nI (by omega)] at this
        exact this
      simp only [e]
      have e2 : gA (sF y 31 f) 31 p = gA y 31 p := hq' p (Nat.le_refl p)
      have e3 : gA (sF y 31 f) 24 p = gA y 24 p := rfl
      simp only [e2, e3]
      have r1 : ∀ q, q < p + 1 → upd f p (gA y 24 p) q = gA y 24 q := by
        intro q h
        rw [upd_eq]
        by_cases e : q = p
        · rw [if_pos e, e]
        · rw [if_neg e]; exact hq q (by omega)
      have r2 : ∀ q, p + 1 ≤ q → upd f p (gA y 24 p) q = gA y 31 q := by
        intro q h
        rw [upd_n (by omega)]
        exact hq' q (by omega)
      by_cases q : gA y 31 p = gA y 24 p
      · rw [if_pos q]
        apply ih (p + 1) v _ (by omega) (by omega) hv _ r1 r2
        intro h0 q' h
        by_cases e : q' = p
        · rw [e]; exact q.symm
        · exact hz h0 q' (by omega)
      · rw [if_neg q]
        exact ih (p + 1) 1 _ (by omega) (by omega) (Or.inr rfl) (fun h => absurd h one_ne) r1 r2
def fV (x y : ST) : Prop := fr (fun i => i == 3 || i == 4) (fun a => a == 21 || a == 23 || a == 24 || a == 31) x y
theorem mv_x {y : ST} {V D : Nat → Int32} {T N P : Nat} {G : Int32} (hT : T ≤ 60) (hN : N ≤ 120) (hP1 : 1 ≤ P) (hP : P ≤ 5) (e9 : gI y 9 = nI P) (eD : ∀ i, i < 5 → gA y 30 i = D i ∧ (D i = 0 ∨ D i = 1)) (eG : gA y 32 3 = G) (eT : gA y 32 4 = nI T) (eN : gA y 32 5 = nI N) (hG : inb G 0 200) (eV : gA y 19 = V) (hu : ∀ p, p < P → (gA y 31 p).toInt.natAbs ≤ 3040) (hV : ∀ p, p < P → inb (V p) (-9999) 9999) : ∃ (v : Int32) (y' : ST), fX11_moveUnits y = some (v, y') ∧ fV y y' ∧ (v = 0 ∨ v = 1) ∧ (v = 0 → ∀ p, p < P → FF (gA y 31) V G D T N P p = gA y 31 p) ∧ (∀ p, p < P → gA y' 31 p = FF (gA y 31) V G D T N P p) ∧ (∀ p, P ≤ p → gA y' 31 p = gA y 31 p) := by
  have e4 : (4 : Int32).toNatClampNeg = 4 := by decide
  have e5 : (5 : Int32).toNatClampNeg = 5 := by decide
  obtain ⟨f, F1, F2⟩ := mvx_2 (y := y) (P := P) (G := G) hP e9 eG 200 0 (gA y 21) (by omega) (by omega) (fun q h => absurd h (Nat.not_lt_zero q))
  rw [eV] at F2
  have hw := wf_b (u := gA y 31) (V := V) (G := G) (P := P) hu hV hG
  obtain ⟨y1, X1, X2, X3, X4⟩ := fit_x (w := wf (gA y 31) V G P) (D := D) (T := T) (N := N) (P := P) (y := sF y 21 f) hT hN hP1 hP (fun p => (hw p).1) e9 eD (fun p hp => (F2 p hp).trans ((hw p).2 hp))
  have z31 : gA y1 31 = gA y 31 := X2.2 31 rfl
  obtain ⟨v, g, G1, G2, G3, G4, G5⟩ := mvx_87 (y := y1) (P := P) hP (by rw [X2.1 9 rfl]; exact e9) 200 0 0 (gA y1 31) (by omega) (by omega) (Or.inl rfl) (fun _ q h => absurd h (Nat.not_lt_zero q)) (fun q h => absurd h (Nat.not_lt_zero q)) (fun q _ => rfl)
  rw [sF_id] at G1
  refine ⟨v, sF y1 31 g, ?_, ?_, G2, ?_, ?_, ?_⟩
  · unfold fX11_moveUnits
    have e : sF y 21 (gA y 21) = y := sF_id y 21
    rw [e] at F1
    rw [show fX11_moveUnits_2 200 0 y = _ from F1]
    unfold fX11_moveUnits_56 fX7_get
    simp only [if_pos (show ixok 4 7 = true by decide), if_pos (show ixok 5 7 = true by decide), Option.bind_some, e4, e5, show gA (sF y 21 f) 32 = gA y 32 from rfl, eT, eN]
    rw [X1, Option.bind_some]
    exact G1
  · have q1 : fV y (sF y 21 f) := fr.rf.sF rfl _
    have q2 : fV (sF y 21 f) y1 := X2.sub (fun i h => h) (fun a h => by simp at h ⊢; omega)
    exact (q1.tr q2).sF rfl _
  · intro h0 p hp
    have := G3 h0 p hp
    rw [X4 p hp, z31] at this
    exact this
  · intro p hp
    show g p = _
    rw [G4 p hp, X4 p hp]
    rfl
  · intro p hp
    show g p = _
    rw [G5 p hp, z31]
theorem mvm_6 {z : ST} {P : Nat} {G : Int32} (hP : P ≤ 5) (e1 : gI z 1 = nI P) (eG : gA z 4 3 = G) : ∀ (M p : Nat) (f : Nat → Int32), p ≤ P → P < M + p → (∀ q, q < p → f q = gA z 19 q - G * gA z 15 q / 100) → ∃ f', fX12_bendMore_6 M (nI p) (sF z 17 f) = fX12_bendMore_49 (sF z 17 f') ∧ (∀ q, q < P → f' q = gA z 19 q - G * gA z 15 q / 100) := by
  have e3 : (3 : Int32).toNatClampNeg = 3 := by decide
  intro M
  induction M with
  | zero => intro p f h1 h2; omega
  | succ M ih =>
    intro p f h1 h2 hq
    rw [fX12_bendMore_6, show gI (sF z 17 f) 1 = gI z 1 from rfl, e1]
    by_cases c : P ≤ p
    · have : p = P := by omega
      subst this
      rw [if_pos (nI_le c (by omega))]
      exact ⟨f, rfl, hq⟩
    · have ix := ix_nI (show p < 5 by omega) (show 5 < 2 ^ 31 by decide)
      rw [if_neg (nI_ge (by omega) (by omega)), if_pos ix, if_pos (show ixok 3 7 = true by decide), if_pos ix, if_neg (show ¬ (100 : Int32) = 0 by decide), if_pos ix, cl_nI (by omega), nI_1, e3]
      have e : sA (sF z 17 f) 17 (nI p) (gA (sF z 17 f) 19 p - gA (sF z 17 f) 4 3 * gA (sF z 17 f) 15 p / 100) = sF z 17 (upd f p (gA z 19 p - G * gA z 15 p / 100)) := by
        rw [← eG]
        have := sA_sF z 17 f (nI p) (gA z 19 p - gA z 4 3 * gA z 15 p / 100)
        rw [cl_nI (by omega)] at this
        exact this
      rw [e]
      apply ih (p + 1) _ (by omega) (by omega)
      intro q h
      rw [upd_eq]
      by_cases e : q = p
      · rw [if_pos e, e]
      · rw [if_neg e]; exact hq q (by omega)
theorem mvm_60 {z : ST} {P : Nat} (hP : P ≤ 5) (e1 : gI z 1 = nI P) : ∀ (M p : Nat) (f : Nat → Int32), p ≤ P → P < M + p → (∀ q, q < p → f q = gA z 18 q) → (∀ q, p ≤ q → f q = gA z 19 q) → ∃ f', fX12_bendMore_60 M (nI p) (sF z 19 f) = some (sF z 19 f') ∧ (∀ q, q < P → f' q = gA z 18 q) ∧ (∀ q, P ≤ q → f' q = gA z 19 q) := by
  intro M
  induction M with
  | zero => intro p f h1 h2; omega
  | succ M ih =>
    intro p f h1 h2 hq hq'
    rw [fX12_bendMore_60, show gI (sF z 19 f) 1 = gI z 1 from rfl, e1]
    by_cases c : P ≤ p
    · have : p = P := by omega
      subst this
      rw [if_pos (nI_le c (by omega))]
      exact ⟨f, rfl, hq, hq'⟩
    · have ix := ix_nI (show p < 5 by omega) (show 5 < 2 ^ 31 by decide)
      rw [if_neg (nI_ge (by omega) (by omega)), if_pos ix, if_pos ix, cl_nI (by omega), nI_1]
      have e : sA (sF z 19 f) 19 (nI p) (gA (sF z 19 f) 18 p) = sF z 19 (upd f p (gA z 18 p)) := by
        have := sA_sF z 19 f (nI p) (gA z 18 p)
        rw [cl_nI (by omega)] at this
        exact this
      rw [e]
      apply ih (p + 1) _ (by omega) (by omega)
      · intro q h
        rw [upd_eq]
        by_cases e : q = p
        · rw [if_pos e, e]
        · rw [if_neg e]; exact hq q (by omega)
      · intro q h
        rw [upd_n (by omega)]
        exact hq' q (by omega)
def sMa9 : Nat → Bool := fun a => sMa a || a == 19
theorem mv_m {z z1 : ST} {V D : Nat → Int32} {T N P : Nat} {G : Int32} (hT : T ≤ 60) (hN : N ≤ 120) (hP1 : 1 ≤ P) (hP : P ≤ 5) (hf : fX12_findWholes z = some z1) (hc : csM z z1) (h15 : ∀ p, p < P → gA z1 15 p = V p) (e1 : gI z 1 = nI P) (eD : ∀ i, i < 5 → gA z 10 i = D i) (eG : gA z 4 3 = G) (eT : gA z 4 4 = nI T) (eN : gA z 4 5 = nI N) (hG : inb G 0 200) (hu : ∀ p, p < P → (gA z 19 p).toInt.natAbs ≤ 3040) (hV : ∀ p, p < P → inb (V p) (-9999) 9999) : ∃ z', fX12_bendMore z = some z' ∧ fr sMi sMa9 z z' ∧ (∀ p, p < P → gA z' 19 p = FF (gA z 19) V G D T N P p) ∧ (∀ p, P ≤ p → gA z' 19 p = gA z 19 p) := by
  have e1' : gI z1 1 = nI P := by rw [hc.1 1 rfl]; exact e1
  have z19 : gA z1 19 = gA z 19 := hc.2 19 rfl
  obtain ⟨f, F1, F2⟩ := mvm_6 (z := z1) (P := P) (G := G) hP e1' (by rw [hc.2 4 rfl]; exact eG) 200 0 (gA z1 17) (by omega) (by omega) (fun q h => absurd h (Nat.not_lt_zero q))
  have hw := wf_b (u := gA z 19) (V := V) (G := G) (P := P) hu hV hG
  obtain ⟨z2, X1, X2, X3⟩ := fit_m (w := wf (gA z 19) V G P) (D := D) (T := T) (N := N) (P := P) (z := sF z1 17 f) hT hN hP1 hP (fun p => (hw p).1) ⟨e1', by show ∀ i, i < 5 → gA z1 10 i = _; rw [hc.2 10 rfl]; exact eD, by show gA z1 4 4 = _; rw [hc.2 4 rfl]; exact eT, by show gA z1 4 5 = _; rw [hc.2 4 rfl]; exact eN, fun p hp => by
    show f p = _
    rw [F2 p hp, z19, h15 p hp]
    exact (hw p).2 hp⟩
  have hr := ro_b (w := wf (gA z 19) V G P) (D := D) (T := T) (N := N) (P := P) 0
  have hv := Fc_b (D := D) (N := N) (P := P) (p := 0) hP hT (fun p => (hw p).1) hr.1 hr.2
  have z219 : gA z2 19 = gA z 19 := by rw [X2.2 19 rfl]; exact z19
  obtain ⟨g, G1, G2, G3⟩ := mvm_60 (z := z2) (P := P) hP (by rw [X2.1 1 rfl]; exact e1') 200 0 (gA z2 19) (by omega) (by omega) (fun q h => absurd h (Nat.not_lt_zero q)) (fun q _ => rfl)
  rw [sF_id] at G1
  refine ⟨sF z2 19 g, ?_, ?_, ?_, ?_⟩
  · unfold fX12_bendMore
    rw [hf, Option.bind_some]
    have e : sF z1 17 (gA z1 17) = z1 := sF_id z1 17
    rw [e] at F1
    rw [show fX12_bendMore_6 200 0 z1 = _ from F1]
    unfold fX12_bendMore_49
    rw [X1, Option.bind_some]
    simp only
    rw [if_neg (by rw [Int64.lt_iff_toInt_lt, oi_small (by omega), lz]; omega)]
    exact G1
  · have q0 : fr sMi sMa9 z z1 := hc.sub (fun i h => h) (fun a h => by unfold sMa9 at h; simp at h; exact h.1)
    have q1 : fr sMi sMa9 z (sF z1 17 f) := q0.sF rfl _
    have q2 : fr sMi sMa9 (sF z1 17 f) z2 := (csM_ofH X2).sub (fun i h => h) (fun a h => by unfold sMa9 at h; simp at h; exact h.1)
    exact (q1.tr q2).sF rfl _
  · intro p hp
    show g p = _
    rw [G2 p hp, X3 p hp]
    rfl
  · intro p hp
    show g p = _
    rw [G3 p hp, z219]

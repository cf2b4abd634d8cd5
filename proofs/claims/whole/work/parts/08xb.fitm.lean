/-! the reference fits -/
def GM (w : Nat → Int) (D : Nat → Int32) (T N P : Nat) (z : ST) : Prop := gI z 1 = nI P ∧ (∀ i, i < 5 → gA z 10 i = D i) ∧ gA z 4 4 = nI T ∧ gA z 4 5 = nI N ∧ (∀ p, p < P → gA z 17 p = oI (w p))
theorem GM_fr {w : Nat → Int} {D : Nat → Int32} {T N P : Nat} {z z' : ST} {a : Nat → Bool} (h : GM w D T N P z) (hf : fr (fun _ => false) a z z') (h10 : a 10 = false) (h4 : a 4 = false) (h17 : a 17 = false) : GM w D T N P z' := by
  obtain ⟨h1, h2, h3, h4', h5⟩ := h
  refine ⟨by rw [hf.1 1 rfl]; exact h1, by rw [hf.2 10 h10]; exact h2, by rw [hf.2 4 h4]; exact h3, by rw [hf.2 4 h4]; exact h4', by rw [hf.2 17 h17]; exact h5⟩
theorem isb {w : Nat → Int} {D : Nat → Int32} {T N P q : Nat} {z : ST} {v u : Int} (hN : N ≤ 120) (hq : q < 5) (hG : GM w D T N P z) (hv : v.natAbs ≤ 60) (hu : u.natAbs ≤ 60) : fX12_isBeside (nI q) (oI v) (oI u) z = some (if besb (D q) N v u = true then 1 else 0, z) := by
  obtain ⟨h1, h2, h3, h4, h5⟩ := hG
  have e5 : (5 : Int32).toNatClampNeg = 5 := by decide
  unfold fX12_isBeside besb
  rw [if_pos (ix_nI hq (by decide)), cl_nI (by omega), h2 q hq, if_pos (show ixok 5 7 = true by decide), if_pos (show ixok 5 7 = true by decide), e5, h4]
  by_cases d : D q = 0
  · rw [if_pos d, if_pos d, in_eq (-(nI N)) (nI N) _ _ rfl rfl, Option.bind_some, if_pos (wb01 _ _ _)]
    congr 2
    have e1 : (oI v - oI u).toInt = v - u := by rw [oI_sub (by omega) (by omega), oI_t (by omega) (by omega)]
    have e2 : (-(nI N)).toInt = -(N : Int) := by rw [oI_neg (by omega), oI_t (by omega) (by omega)]
    have e3 : (nI N).toInt = N := nI_toInt (by omega)
    by_cases c : -(N : Int) ≤ v - u ∧ v - u ≤ N
    · rw [if_pos (by rw [decide_eq_true_eq]; exact c)]
      exact wb_1 (by omega) (by omega)
    · rw [if_neg (by rw [decide_eq_true_eq]; exact c)]
      exact wb_0 (by omega)
  · rw [if_neg d, if_neg d, if_pos zb0, if_pos zb1]
    by_cases c : v = u
    · rw [if_pos (by rw [c]), if_pos (by rw [decide_eq_true_eq]; exact c)]
    · rw [if_neg (fun h => c (oI_inj (by omega) (by omega) h)), if_neg (by rw [decide_eq_true_eq]; exact c)]
def CM2 (w : Nat → Int) (D : Nat → Int32) (T N P : Nat) (z : ST) (q : Nat) : Prop := ∀ u : Int, -(T : Int) ≤ u → u ≤ T → gB z 16 (xi q u) = Int64.ofInt (Fc w D T N P q u)
theorem xi_31 {p : Nat} {u : Int} (hp : p < 5) (h1 : -60 ≤ u) (h2 : u ≤ 60) : xi p u < 2 ^ 31 := by have := xi_b hp h1 h2; omega
/-- the least cost among those beside -/
theorem m49 {w : Nat → Int} {D : Nat → Int32} {T N P p : Nat} {z : ST} {u : Int} {kb14 : Int32 → Int32 → ST → Option (Int64 × ST)} {kb21 : Int32 → Int32 → Int32 → ST → Option (Int64 × ST)} (hT : T ≤ 60) (hN : N ≤ 120) (hP : P ≤ 5) (hw : ∀ p, (w p).natAbs ≤ 30000) (hp : p + 1 < P) (hu : -(T : Int) ≤ u ∧ u ≤ T) (hG : GM w D T N P z) (hC : CM2 w D T N P z (p + 1)) : ∀ (M j : Nat) (v4 : Int64), j ≤ 2 * T + 1 → 2 * T + 1 < M + j → ((v4 = -1 ∧ ∀ v : Int, -(T : Int) ≤ v → v < -(T : Int) + j → ¬ besb (D (p + 1)) N v u = true) ∨ (∃ v : Int, (-(T : Int) ≤ v ∧ v < -(T : Int) + j ∧ besb (D (p + 1)) N v u = true) ∧ v4 = Int64.ofInt (Fc w D T N P (p + 1) v) ∧ ∀ v' : Int, -(T : Int) ≤ v' → v' < -(T : Int) + j → besb (D (p + 1)) N v' u = true → Fc w D T N P (p + 1) v ≤ Fc w D T N P (p + 1) v')) → fX12_findNearest_49 kb14 kb21 M (nI T) (nI p) (oI u) v4 (oI (-(T : Int) + j)) z = fX12_findNearest_127 kb14 kb21 (nI T) (nI p) (oI u) (Int64.ofInt (Fc w D T N P (p + 1) (bh (D (p + 1)) (chp w D T N P (p + 1)) N u))) z := by
  have hbf := bh_f (N := N) (d := D (p + 1)) Fc_c (chp_f (w := w) (D := D) (N := N) (P := P) (p := p + 1)) hu
  intro M
  induction M with
  | zero => intro j v4 h1 h2; omega
  | succ M ih =>
    intro j v4 h1 h2 hI
    rw [fX12_findNearest_49, ← oI_n (n := T) (by omega)]
    by_cases c : (T : Int) < -(T : Int) + j
    · have : j = 2 * T + 1 := by omega
      subst this
      rw [if_pos (by rw [oI_lt (by omega) (by omega)]; exact c)]
      obtain ⟨⟨b1, b2⟩, b3, b4⟩ := hbf
      rcases hI with ⟨_, hI⟩ | ⟨v, ⟨i1, i2, i3⟩, i4, i5⟩
      · exact absurd b2 (hI _ b1.1 (by omega))
      · have q1 := b3 v ⟨⟨i1, by omega⟩, i3⟩
        have q2 := i5 _ b1.1 (by omega) b2
        rw [i4, show Fc w D T N P (p + 1) v = Fc w D T N P (p + 1) (bh (D (p + 1)) (chp w D T N P (p + 1)) N u) by omega]
    · rw [if_neg (by rw [oI_lt (by omega) (by omega)]; exact c), hG.1]
      have e1 : nI P - 1 = nI (P - 1) := by rw [show (1 : Int32) = nI 1 from rfl, pk_sub (by omega)]
      rw [e1, if_neg (nI_ge (by omega) (by omega))]
      obtain ⟨v, hv⟩ : ∃ v : Int, v = -(T : Int) + j := ⟨_, rfl⟩
      rw [← hv, nI_1, pl_m (by omega) (by omega) (by omega), if_pos (ix_nI (xi_b (by omega) (by omega) (by omega)) (by decide)), cl_nI (xi_31 (by omega) (by omega) (by omega)), hC v (by omega) (by omega), isb hN (by omega) hG (by omega) (by omega), Option.bind_some]
      unfold fX12_findNearest_117 fX12_findNearest_112 fX12_findNearest_119
      rw [oI_1 (by omega)]
      have hn : v + 1 = -(T : Int) + ((j + 1 : Nat) : Int) := by omega
      rw [hn, oI_n (n := T) (by omega)]
      have bF := Fc_b (D := D) (N := N) (p := p + 1) (u := v) hP hT hw (by omega) (by omega)
      by_cases b : besb (D (p + 1)) N v u = true
      · simp only [if_pos b, if_neg one_ne]
        rcases hI with ⟨i1, i2⟩ | ⟨v0, ⟨i1, i2, i3⟩, i4, i5⟩
        · rw [i1, if_pos (show (-1 : Int64) < 0 by decide)]
          apply ih (j + 1) _ (by omega) (by omega)
          right
          refine ⟨v, ⟨by omega, by omega, b⟩, rfl, fun v' g1 g2 g3 => ?_⟩
          by_cases e : v' = v
          · rw [e]; exact Int.le_refl _
          · exact absurd g3 (i2 v' g1 (by omega))
        · have bF0 := Fc_b (D := D) (N := N) (p := p + 1) (u := v0) hP hT hw (by omega) (by omega)
          have nl : ¬ Int64.ofInt (Fc w D T N P (p + 1) v0) < 0 := by
            rw [Int64.lt_iff_toInt_lt, oi_small (by omega), lz]
            omega
          rw [i4, if_neg nl]
          have ole := oi_le bF0 bF
          by_cases q : Fc w D T N P (p + 1) v0 ≤ Fc w D T N P (p + 1) v
          · rw [if_pos (by rw [ole]; exact q)]
            apply ih (j + 1) _ (by omega) (by omega)
            right
            refine ⟨v0, ⟨i1, by omega, i3⟩, rfl, fun v' g1 g2 g3 => ?_⟩
            by_cases e : v' = v
            · rw [e]; exact q
            · exact i5 v' g1 (by omega) g3
          · rw [if_neg (by rw [ole]; exact q)]
            apply ih (j + 1) _ (by omega) (by omega)
            right
            refine ⟨v, ⟨by omega, by omega, b⟩, rfl, fun v' g1 g2 g3 => ?_⟩
            by_cases e : v' = v
            · rw [e]; exact Int.le_refl _
            · have := i5 v' g1 (by omega) g3
              omega
      · simp only [if_neg b, if_true]
        apply ih (j + 1) _ (by omega) (by omega)
        rcases hI with ⟨i1, i2⟩ | ⟨v0, ⟨i1, i2, i3⟩, i4, i5⟩
        · left
          refine ⟨i1, fun v' g1 g2 => ?_⟩
          by_cases e : v' = v
          · rw [e]; exact b
          · exact i2 v' g1 (by omega)
        · right
          refine ⟨v0, ⟨i1, by omega, i3⟩, i4, fun v' g1 g2 g3 => ?_⟩
          by_cases e : v' = v
          · rw [e] at g3; exact absurd g3 b
          · exact i5 v' g1 (by omega) g3
theorem m21 {w : Nat → Int} {D : Nat → Int32} {T N P p : Nat} {z0 : ST} {kb14 : Int32 → Int32 → ST → Option (Int64 × ST)} (hT : T ≤ 60) (hN : N ≤ 120) (hP : P ≤ 5) (hw : ∀ p, (w p).natAbs ≤ 30000) (hp : p < P) (hG : GM w D T N P z0) : ∀ (M j : Nat) (z : ST), j ≤ 2 * T + 1 → 2 * T + 1 < M + j → f0 z0 z → (∀ q, p < q → q < P → CM2 w D T N P z q) → (∀ u : Int, -(T : Int) ≤ u → u < -(T : Int) + j → gB z 16 (xi p u) = Int64.ofInt (Fc w D T N P p u)) → ∃ z', fX12_findNearest_21 kb14 M (nI T) (nI p) (oI (-(T : Int) + j)) z = kb14 (nI T) (nI p - 1) z' ∧ f0 z0 z' ∧ (∀ q, p ≤ q → q < P → CM2 w D T N P z' q) := by
  intro M
  induction M with
  | zero => intro j z h1 h2; omega
  | succ M ih =>
    intro j z h1 h2 hf hq hb
    have hG' : GM w D T N P z := GM_fr hG hf rfl rfl rfl
    rw [fX12_findNearest_21]
    by_cases c : (T : Int) < -(T : Int) + j
    · have : j = 2 * T + 1 := by omega
      subst this
      rw [if_pos (by rw [← oI_n (n := T) (by omega), oI_lt (by omega) (by omega)]; exact c)]
      unfold fX12_findNearest_166
      rw [(bf2 p (by omega)).2.2]
      refine ⟨z, rfl, hf, fun q h3 h4 => ?_⟩
      by_cases e : q = p
      · rw [e]; exact fun u g1 g2 => hb u g1 (by omega)
      · exact hq q (by omega) h4
    · rw [if_neg (by rw [← oI_n (n := T) (by omega), oI_lt (by omega) (by omega)]; exact c), hG'.1]
      have e1 : nI P - 1 = nI (P - 1) := by rw [show (1 : Int32) = nI 1 from rfl, pk_sub (by omega)]
      obtain ⟨u, hu⟩ : ∃ u : Int, u = -(T : Int) + j := ⟨_, rfl⟩
      rw [e1, ← hu]
      have fin : ∀ s0 : Int64, Int64.ofInt ((u - w p) * (u - w p)) + s0 = Int64.ofInt (Fc w D T N P p u) → ∃ z', fX12_findNearest_127 kb14 (fX12_findNearest_21 kb14 M) (nI T) (nI p) (oI u) s0 z = kb14 (nI T) (nI p - 1) z' ∧ f0 z0 z' ∧ (∀ q, p ≤ q → q < P → CM2 w D T N P z' q) := by
        intro s0 hs
        unfold fX12_findNearest_127
        have hoff : (oI u - gA z 17 p).toInt64 = Int64.ofInt (u - w p) := by
          rw [hG'.2.2.2.2 p hp, oI_sub (by omega) (by have := hw p; omega), oi_ti, oI_t (by have := hw p; omega) (by have := hw p; omega)]
        rw [if_pos (ix_nI (show p < 5 by omega) (by decide)), cl_nI (by omega), hoff, ← oi_mul, hs, pl_m (by omega) (by omega) (by omega), if_pos (ix_nI (xi_b (by omega) (by omega) (by omega)) (by decide)), oI_1 (by omega), show u + 1 = -(T : Int) + ((j + 1 : Nat) : Int) by omega]
        have Z16 : ∀ k, gB (sB z 16 (nI (xi p u)) (Int64.ofInt (Fc w D T N P p u))) 16 k = if k = xi p u then Int64.ofInt (Fc w D T N P p u) else gB z 16 k := by
          intro k
          show vp_updL (gB z 16) (nI (xi p u)).toNatClampNeg _ k = _
          rw [cl_nI (xi_31 (by omega) (by omega) (by omega)), updL_eq]
        apply ih (j + 1) _ (by omega) (by omega) (hf.sB _ _ _)
        · intro q h3 h4 v g1 g2
          rw [Z16, if_neg (fun e => by have := (xi_n (by omega) (by omega) (by omega) (by omega) e).1; omega)]
          exact hq q h3 h4 v g1 g2
        · intro v g1 g2
          rw [Z16]
          by_cases e : v = u
          · rw [if_pos (by rw [e]), e]
          · rw [if_neg (fun h => e (xi_n (by omega) (by omega) (by omega) (by omega) h).2)]
            exact hb v g1 (by omega)
      unfold fX12_findNearest_43
      have et : -(nI T) = oI (-(T : Int) + ((0 : Nat) : Int)) := by
        rw [oI_neg (by omega)]
        congr 1
        omega
      by_cases e : p = P - 1
      · rw [if_pos (by rw [e]), fX12_findNearest_49, if_neg (by rw [oI_neg (by omega), ← oI_n (n := T) (by omega), oI_lt (by omega) (by omega)]; omega), hG'.1, e1, if_pos (by rw [e]; exact Int32.le_refl _)]
        apply fin
        rw [Fc_l (by omega), Int64.add_zero]
      · have ne : ¬ nI p = nI (P - 1) := fun h => e (nI_in5 p (by omega) (P - 1) (by omega) h)
        rw [if_neg ne, et, m49 hT hN hP hw (by omega) (by omega) hG' (hq (p + 1) (by omega) (by omega)) 200 0 (-1) (by omega) (by omega) (Or.inl ⟨rfl, fun v g1 g2 => by omega⟩)]
        apply fin
        rw [Fc_s (p := p) (by omega), oi_add]
theorem m14 {w : Nat → Int} {D : Nat → Int32} {T N P : Nat} {z0 : ST} (hT : T ≤ 60) (hN : N ≤ 120) (hP : P ≤ 5) (hw : ∀ p, (w p).natAbs ≤ 30000) (hG : GM w D T N P z0) : ∀ (p M : Nat) (z : ST), p ≤ P → p < M → f0 z0 z → (∀ q, p ≤ q → q < P → CM2 w D T N P z q) → ∃ z', fX12_findNearest_14 M (nI T) (nI p - 1) z = fX12_findNearest_172 (nI T) z' ∧ f0 z0 z' ∧ (∀ q, q < P → CM2 w D T N P z' q)
  | 0, M, z, h1, h2, hf, hq => by
    obtain ⟨M, rfl⟩ := Nat.exists_eq_succ_of_ne_zero (by omega : M ≠ 0)
    rw [fX12_findNearest_14, if_pos (show nI 0 - 1 < 0 by decide)]
    exact ⟨z, rfl, hf, fun q h => hq q (Nat.zero_le q) h⟩
  | p + 1, M, z, h1, h2, hf, hq => by
    obtain ⟨M, rfl⟩ := Nat.exists_eq_succ_of_ne_zero (by omega : M ≠ 0)
    obtain ⟨b1, b2, b3⟩ := bf2 p (by omega)
    have et : -(nI T) = oI (-(T : Int) + ((0 : Nat) : Int)) := by
      rw [oI_neg (by omega)]
      congr 1
      omega
    obtain ⟨y1, Y1, Y2, Y3⟩ := m21 (kb14 := fX12_findNearest_14 M) hT hN hP hw (p := p) (by omega) hG 200 0 z (by omega) (by omega) hf (fun q h3 h4 => hq q (by omega) h4) (fun u g1 g2 => by omega)
    rw [fX12_findNearest_14, b1, if_neg b2, et, Y1]
    exact m14 hT hN hP hw hG p M y1 (by omega) (by omega) Y2 Y3
/-! and goes forward -/
def fH (x y : ST) : Prop := fr (fun _ => false) (fun a => a == 18) x y
def Qb (w : Nat → Int) (D : Nat → Int32) (T N P : Nat) : Nat → Int → Bool
  | 0, _ => true
  | p + 1, v => besb (D (p + 1)) N v (ro w D T N P p)
theorem ro_f {w : Nat → Int} {D : Nat → Int32} {T N P : Nat} : ∀ p, FA (Fc w D T N P p) (fun v => (-(T : Int) ≤ v ∧ v ≤ T) ∧ Qb w D T N P p v = true) (ro w D T N P p)
  | 0 => chp_f.q (fun v => ⟨fun h => ⟨h, rfl⟩, fun h => h.1⟩)
  | p + 1 => bh_f (N := N) (d := D (p + 1)) Fc_c (chp_f (w := w) (D := D) (N := N) (P := P) (p := p + 1)) (ro_b p)
theorem s191 {w : Nat → Int} {D : Nat → Int32} {T N P p M : Nat} {z : ST} {v : Int} {fl : Int32} {v4 : Int64} {kb : Int32 → Int32 → ST → Option (Int64 × ST)} (hT : T ≤ 60) (hN : N ≤ 120) (hp : p < P) (hP : P ≤ 5) (hG : GM w D T N P z) (hC : CM2 w D T N P z p) (hr : ∀ q, q < p → gA z 18 q = oI (ro w D T N P q)) (hv : -(T : Int) ≤ v ∧ v ≤ T) : fX12_findNearest_191 kb (M + 1) (nI T) (nI p) fl v4 (oI v) z = if Qb w D T N P p v = true then fX12_findNearest_236 kb (fX12_findNearest_191 kb M) (nI T) (nI p) fl v4 (oI v) (Int64.ofInt (Fc w D T N P p v)) z else fX12_findNearest_262 kb (fX12_findNearest_191 kb M) (nI T) (nI p) fl v4 (oI v) z := by
  rw [fX12_findNearest_191, if_neg (by rw [← oI_n (n := T) (by omega), oI_lt (by omega) (by omega)]; omega), pl_m (by omega) (by omega) (by omega), if_pos (ix_nI (xi_b (by omega) (by omega) (by omega)) (by decide)), cl_nI (xi_31 (by omega) (by omega) (by omega)), hC v hv.1 hv.2]
  cases p with
  | zero => rw [if_pos (show nI 0 = 0 from rfl)]; rfl
  | succ p =>
    have hb := ro_b (w := w) (D := D) (T := T) (N := N) (P := P) p
    have e1 : nI (p + 1) - 1 = nI p := (bf2 p (by omega)).1
    rw [if_neg (fun h => by have := nI_in5 (p + 1) (by omega) 0 (by omega) h; omega), e1, if_pos (ix_nI (by omega) (by decide)), cl_nI (by omega), hr p (by omega), isb hN (by omega) hG (by omega) (by omega), Option.bind_some]
    show (if (if besb (D (p + 1)) N v (ro w D T N P p) = true then (1 : Int32) else 0) = 0 then _ else _) = if besb (D (p + 1)) N v (ro w D T N P p) = true then _ else _
    by_cases b : besb (D (p + 1)) N v (ro w D T N P p) = true
    · rw [if_pos b, if_pos b, if_neg one_ne]
    · rw [if_neg b, if_neg b, if_pos rfl]
theorem m191 {w : Nat → Int} {D : Nat → Int32} {T N P p : Nat} {z0 : ST} {kb : Int32 → Int32 → ST → Option (Int64 × ST)} (hT : T ≤ 60) (hN : N ≤ 120) (hP : P ≤ 5) (hw : ∀ p, (w p).natAbs ≤ 30000) (hp : p < P) (hG : GM w D T N P z0) (hC : CM2 w D T N P z0 p) : ∀ (M j : Nat) (fl : Int32) (v4 : Int64) (z : ST), j ≤ 2 * T + 1 → 2 * T + 1 < M + j → fH z0 z → gB z 16 = gB z0 16 → (∀ q, q < p → gA z 18 q = oI (ro w D T N P q)) → ((fl = 0 ∧ ∀ v : Int, -(T : Int) ≤ v → v < -(T : Int) + j → ¬ Qb w D T N P p v = true) ∨ (fl = 1 ∧ ∃ v : Int, gA z 18 p = oI v ∧ v4 = Int64.ofInt (Fc w D T N P p v) ∧ FA (Fc w D T N P p) (fun v => (-(T : Int) ≤ v ∧ v < -(T : Int) + j) ∧ Qb w D T N P p v = true) v)) → ∃ z', fX12_findNearest_191 kb M (nI T) (nI p) fl v4 (oI (-(T : Int) + j)) z = kb (nI T) (nI (p + 1)) z' ∧ fH z0 z' ∧ gB z' 16 = gB z0 16 ∧ (∀ q, q < p + 1 → gA z' 18 q = oI (ro w D T N P q)) := by
  have hrf := ro_f (w := w) (D := D) (T := T) (N := N) (P := P) p
  intro M
  induction M with
  | zero => intro j fl v4 z h1 h2; omega
  | succ M ih =>
    intro j fl v4 z h1 h2 hf h16 hr hI
    by_cases c : (T : Int) < -(T : Int) + j
    · have : j = 2 * T + 1 := by omega
      subst this
      rw [fX12_findNearest_191, if_pos (by rw [← oI_n (n := T) (by omega), oI_lt (by omega) (by omega)]; exact c)]
      unfold fX12_findNearest_268
      rw [nI_1]
      refine ⟨z, rfl, hf, h16, fun q h => ?_⟩
      by_cases e : q = p
      · rcases hI with ⟨_, hI⟩ | ⟨_, v, i1, i2, i3⟩
        · exact absurd hrf.1.2 (hI _ hrf.1.1.1 (by have := hrf.1.1.2; omega))
        · rw [e, i1]
          congr 1
          exact (i3.q (fun v => ⟨fun h => ⟨⟨h.1.1, by omega⟩, h.2⟩, fun h => ⟨⟨h.1.1, by omega⟩, h.2⟩⟩)).u hrf
      · exact hr q (by omega)
    · obtain ⟨v, hv⟩ : ∃ v : Int, v = -(T : Int) + j := ⟨_, rfl⟩
      have hG' : GM w D T N P z := GM_fr hG hf rfl rfl rfl
      have hC' : CM2 w D T N P z p := by intro u g1 g2; rw [h16]; exact hC u g1 g2
      rw [← hv, s191 hT hN hp hP hG' hC' hr (by omega)]
      unfold fX12_findNearest_236 fX12_findNearest_248 fX12_findNearest_262
      have hn : v + 1 = -(T : Int) + ((j + 1 : Nat) : Int) := by omega
      rw [oI_1 (by omega), hn, if_pos (ix_nI (show p < 5 by omega) (by decide))]
      have bF := Fc_b (D := D) (N := N) (p := p) (u := v) hP hT hw (by omega) (by omega)
      have take : Qb w D T N P p v = true → (∀ v' : Int, -(T : Int) ≤ v' → v' < -(T : Int) + j → Qb w D T N P p v' = true → Fc w D T N P p v < Fc w D T N P p v') → ∃ z', fX12_findNearest_191 kb M (nI T) (nI p) 1 (Int64.ofInt (Fc w D T N P p v)) (oI (-(T : Int) + ((j + 1 : Nat) : Int))) (sA z 18 (nI p) (oI v)) = kb (nI T) (nI (p + 1)) z' ∧ fH z0 z' ∧ gB z' 16 = gB z0 16 ∧ (∀ q, q < p + 1 → gA z' 18 q = oI (ro w D T N P q)) := by
        intro b hl
        apply ih (j + 1) _ _ _ (by omega) (by omega) (hf.sA rfl _ _) h16
        · intro q h
          show upd (gA z 18) (nI p).toNatClampNeg _ q = _
          rw [cl_nI (by omega), upd_n (by omega)]
          exact hr q h
        · right
          refine ⟨rfl, v, ?_, rfl, ⟨⟨by omega, by omega⟩, b⟩, fun v' g => ?_, fun v' g gl => ?_⟩
          · show upd (gA z 18) (nI p).toNatClampNeg _ p = _
            rw [cl_nI (by omega), upd_s]
          · by_cases e : v' = v
            · rw [e]; exact Int.le_refl _
            · have := hl v' g.1.1 (by omega) g.2
              omega
          · exact hl v' g.1.1 (by omega) g.2
      by_cases b : Qb w D T N P p v = true
      · rw [if_pos b]
        rcases hI with ⟨i1, i2⟩ | ⟨i1, v0, i2, i3, i4⟩
        · rw [i1, if_pos rfl]
          exact take b (fun v' g1 g2 g3 => absurd g3 (i2 v' g1 g2))
        · rw [i1, if_neg one_ne, i3]
          have bF0 := Fc_b (D := D) (N := N) (p := p) (u := v0) hP hT hw i4.1.1.1 (by have := i4.1.1.2; omega)
          have ole := oi_le bF0 bF
          by_cases q : Fc w D T N P p v0 ≤ Fc w D T N P p v
          · rw [if_pos (by rw [ole]; exact q)]
            apply ih (j + 1) _ _ z (by omega) (by omega) hf h16 hr
            right
            refine ⟨rfl, v0, i2, rfl, ⟨⟨i4.1.1.1, by have := i4.1.1.2; omega⟩, i4.1.2⟩, fun v' g => ?_, fun v' g gl => ?_⟩
            · by_cases e : v' = v
              · rw [e]; exact q
              · exact i4.2.1 v' ⟨⟨g.1.1, by omega⟩, g.2⟩
            · exact i4.2.2 v' ⟨⟨g.1.1, by have := i4.1.1.2; omega⟩, g.2⟩ gl
          · rw [if_neg (by rw [ole]; exact q)]
            apply take b
            intro v' g1 g2 g3
            have := i4.2.1 v' ⟨⟨g1, g2⟩, g3⟩
            omega
      · rw [if_neg b]
        apply ih (j + 1) _ _ z (by omega) (by omega) hf h16 hr
        rcases hI with ⟨i1, i2⟩ | ⟨i1, v0, i2, i3, i4⟩
        · left
          refine ⟨i1, fun v' g1 g2 => ?_⟩
          by_cases e : v' = v
          · rw [e]; exact b
          · exact i2 v' g1 (by omega)
        · right
          refine ⟨i1, v0, i2, i3, ⟨⟨i4.1.1.1, by have := i4.1.1.2; omega⟩, i4.1.2⟩, fun v' g => ?_, fun v' g gl => ?_⟩
          · by_cases e : v' = v
            · rw [e] at g; exact absurd g.2 b
            · exact i4.2.1 v' ⟨⟨g.1.1, by omega⟩, g.2⟩
          · exact i4.2.2 v' ⟨⟨g.1.1, by have := i4.1.1.2; omega⟩, g.2⟩ gl
theorem m174 {w : Nat → Int} {D : Nat → Int32} {T N P : Nat} {z0 : ST} (hT : T ≤ 60) (hN : N ≤ 120) (hP : P ≤ 5) (hw : ∀ p, (w p).natAbs ≤ 30000) (hG : GM w D T N P z0) (hC : ∀ q, q < P → CM2 w D T N P z0 q) : ∀ (M p : Nat) (z : ST), p ≤ P → P < M + p → fH z0 z → gB z 16 = gB z0 16 → (∀ q, q < p → gA z 18 q = oI (ro w D T N P q)) → ∃ z', fX12_findNearest_174 M (nI T) (nI p) z = fX12_findNearest_274 z' ∧ fH z0 z' ∧ gB z' 16 = gB z0 16 ∧ (∀ q, q < P → gA z' 18 q = oI (ro w D T N P q)) := by
  intro M
  induction M with
  | zero => intro p z h1 h2; omega
  | succ M ih =>
    intro p z h1 h2 hf h16 hr
    rw [fX12_findNearest_174, hf.1 1 rfl, hG.1]
    by_cases c : P ≤ p
    · have : p = P := by omega
      subst this
      rw [if_pos (nI_le c (by omega))]
      exact ⟨z, rfl, hf, h16, hr⟩
    · have et : -(nI T) = oI (-(T : Int) + ((0 : Nat) : Int)) := by
        rw [oI_neg (by omega)]
        congr 1
        omega
      rw [if_neg (nI_ge (by omega) (by omega)), et]
      obtain ⟨z1, Z1, Z2, Z3, Z4⟩ := m191 (kb := fX12_findNearest_174 M) hT hN hP hw (p := p) (by omega) hG (hC p (by omega)) 200 0 0 0 z (by omega) (by omega) hf h16 hr (Or.inl ⟨rfl, fun v g1 g2 => by omega⟩)
      rw [Z1]
      exact ih (p + 1) z1 (by omega) (by omega) Z2 Z3 Z4
theorem fit_m {w : Nat → Int} {D : Nat → Int32} {T N P : Nat} {z : ST} (hT : T ≤ 60) (hN : N ≤ 120) (hP1 : 1 ≤ P) (hP : P ≤ 5) (hw : ∀ p, (w p).natAbs ≤ 30000) (hG : GM w D T N P z) : ∃ z', fX12_findNearest z = some (Int64.ofInt (Fc w D T N P 0 (ro w D T N P 0)), z') ∧ fH z z' ∧ (∀ q, q < P → gA z' 18 q = oI (ro w D T N P q)) := by
  have e4 : (4 : Int32).toNatClampNeg = 4 := by decide
  have e0 : (0 : Int32).toNatClampNeg = 0 := by decide
  obtain ⟨z1, Z1, Z2, Z3⟩ := m14 hT hN hP hw hG P 200 z (Nat.le_refl _) (by omega) fr.rf (fun q h3 h4 => absurd h3 (by omega))
  have hG1 : GM w D T N P z1 := GM_fr hG Z2 rfl rfl rfl
  obtain ⟨z2, Y1, Y2, Y3, Y4⟩ := m174 hT hN hP hw hG1 Z3 200 0 z1 (by omega) (by omega) fr.rf rfl (fun q h => absurd h (Nat.not_lt_zero q))
  have hr := ro_b (w := w) (D := D) (T := T) (N := N) (P := P) 0
  refine ⟨z2, ?_, ?_, Y4⟩
  · unfold fX12_findNearest
    rw [if_pos (show ixok 4 7 = true by decide), e4, hG.2.2.1, hG.1, Z1]
    unfold fX12_findNearest_172
    rw [show fX12_findNearest_174 200 (nI T) 0 z1 = _ from Y1]
    unfold fX12_findNearest_274
    rw [e0, Y4 0 (by omega)]
    have ep : oI (ro w D T N P 0) + 60 = nI (xi 0 (ro w D T N P 0)) := by
      rw [show (60 : Int32) = oI 60 from rfl, oI_add (by omega) (by omega), ← oI_n (by unfold xi; omega)]
      congr 1
      unfold xi
      omega
    rw [ep, if_pos (show ixok 0 5 = true by decide), if_pos (ix_nI (xi_b (by omega) (by omega) (by omega)) (by decide)), cl_nI (xi_31 (by omega) (by omega) (by omega)), Y3, Z3 0 (by omega) _ hr.1 hr.2]
  · exact (show fH z z1 from Z2.sub (fun i _ => rfl) (fun a _ => rfl)).tr Y2

/-! the class fits -/
def fG (x y : ST) : Prop := fr (fun _ => false) (fun a => a == 23 || a == 24) x y
def FX (w : Nat → Int) (D : Nat → Int32) (T N P : Nat) (y : ST) : Prop := gI y 3 = nI T ∧ gI y 4 = nI N ∧ gI y 9 = nI P ∧ (∀ i, i < 5 → gA y 30 i = D i ∧ (D i = 0 ∨ D i = 1)) ∧ (∀ p, p < P → gA y 21 p = oI (w p))
theorem oI_ite {a b p q : Int} (ha : a.natAbs ≤ 1000000) (hb : b.natAbs ≤ 1000000) : (if oI a < oI b then oI p else oI q) = oI (if a < b then p else q) := by
  by_cases c : a < b
  · rw [if_pos c, if_pos (by rw [oI_lt ha hb]; exact c)]
  · rw [if_neg c, if_neg (by rw [oI_lt ha hb]; exact c)]
theorem beh {y : ST} {T N q : Nat} {c u : Int} {d : Int32} (hT : T ≤ 60) (hN : N ≤ 120) (hq : q < 5) (e3 : gI y 3 = nI T) (e4 : gI y 4 = nI N) (eD : gA y 30 q = d ∧ (d = 0 ∨ d = 1)) (ec : gA y 23 q = oI c) (hc : -(T : Int) ≤ c ∧ c ≤ T) (hu : -(T : Int) ≤ u ∧ u ≤ T) : fX2_behind (nI q) (oI u) y = some (oI (bh d c N u), y) := by
  unfold fX2_behind fX6_isDead fX11_held
  rw [if_pos (ix_nI hq (by decide)), cl_nI (by omega), eD.1, if_pos (zb_of eD.2), Option.bind_some]
  unfold bh
  by_cases z : d = 0
  · simp only [if_pos z]
    rw [if_pos (ix_nI hq (by decide)), Option.bind_some, ec, e3, e4, oI_neg (by omega), ← oI_n (n := T) (by omega), ← oI_n (n := N) (by omega), oI_sub (by omega) (by omega), oI_add (by omega) (by omega), oI_ite (a := -(T : Int)) (b := u - N) (by omega) (by omega), oI_ite (a := u + N) (b := T) (by omega) (by omega), oI_ite (a := c) (by omega) (by split <;> omega), oI_ite (by split <;> omega) (by split <;> (try split) <;> omega)]
    congr 3
    (repeat' split) <;> omega
  · simp only [if_neg z]
theorem Bc {w : Nat → Int} {D : Nat → Int32} {T N P p : Nat} {u : Int} (hT : T ≤ 60) : -60 ≤ chp w D T N P p ∧ chp w D T N P p ≤ 60 := by
  have := (chp_f (w := w) (D := D) (T := T) (N := N) (P := P) (p := p)).1
  omega
/-- the costs and the cheapest of the parts from p on -/
def CO (w : Nat → Int) (D : Nat → Int32) (T N P : Nat) (y : ST) (q : Nat) : Prop := (∀ u : Int, -(T : Int) ≤ u → u ≤ T → gB y 22 (xi q u) = Int64.ofInt (Fc w D T N P q u)) ∧ gA y 23 q = oI (chp w D T N P q)
theorem am_r (f : Int → Int) (T : Nat) : ∀ j : Nat, j ≤ 2 * T → am f T j = -(T : Int) + j ∨ (-(T : Int) ≤ am f T j ∧ am f T j < -(T : Int) + j)
  | 0, _ => Or.inl (by show -(T : Int) = _; omega)
  | j + 1, _ => Or.inr (am_s f T j).1
theorem wg_17 {w : Nat → Int} {D : Nat → Int32} {T N P p : Nat} {y0 : ST} (hT : T ≤ 60) (hN : N ≤ 120) (hP : P ≤ 5) (hw : ∀ p, (w p).natAbs ≤ 30000) (hp : p < P) (hF : FX w D T N P y0) : ∀ (M j : Nat) (y : ST), j ≤ 2 * T + 1 → 2 * T + 1 < M + j → fG y0 y → (∀ q, p < q → q < P → CO w D T N P y q) → (∀ u : Int, -(T : Int) ≤ u → u < -(T : Int) + j → gB y 22 (xi p u) = Int64.ofInt (Fc w D T N P p u)) → gA y 23 p = oI (am (Fc w D T N P p) T j) → ∃ y', fX2_weigh_17 M (nI p) (oI (-(T : Int) + j)) y = some y' ∧ fG y0 y' ∧ (∀ q, p ≤ q → q < P → CO w D T N P y' q) := by
  obtain ⟨e3, e4, e9, eD, ew⟩ := hF
  intro M
  induction M with
  | zero => intro j y h1 h2; omega
  | succ M ih =>
    intro j y h1 h2 hf hq hb hc
    rw [fX2_weigh_17, hf.1 3 rfl, e3, ← oI_n (n := T) (by omega)]
    by_cases c : (T : Int) < -(T : Int) + j
    · have : j = 2 * T + 1 := by omega
      subst this
      rw [if_pos (by rw [oI_lt (by omega) (by omega)]; exact c)]
      refine ⟨y, rfl, hf, fun q h3 h4 => ?_⟩
      by_cases e : q = p
      · subst e
        exact ⟨fun u g1 g2 => hb u g1 (by omega), hc⟩
      · exact hq q (by omega) h4
    · rw [if_neg (by rw [oI_lt (by omega) (by omega)]; exact c)]
      have hj : j ≤ 2 * T := by omega
      obtain ⟨u, hu⟩ : ∃ u : Int, u = -(T : Int) + j := ⟨_, rfl⟩
      have hur : -(T : Int) ≤ u ∧ u ≤ T := by omega
      rw [← hu]
      have hoff : (oI u).toInt64 - (gA y 21 p).toInt64 = Int64.ofInt (u - w p) := by
        rw [hf.2 21 rfl, ew p hp, oi_ti, oi_ti, oI_t (by omega) (by omega), oI_t (by have := hw p; omega) (by have := hw p; omega), oi_sub]
      rw [if_pos (ix_nI (by omega) (by decide)), cl_nI (by omega)]
      unfold fX6_count
      rw [Option.bind_some]
      simp only [hf.1 9 rfl, e9, nI_1, hoff]
      have fin : ∀ s0 : Int64, Int64.ofInt ((u - w p) * (u - w p)) + s0 = Int64.ofInt (Fc w D T N P p u) → ∃ y', fX2_weigh_73 (fX2_weigh_17 M) (nI p) (oI u) (Int64.ofInt (u - w p)) s0 y = some y' ∧ fG y0 y' ∧ (∀ q, p ≤ q → q < P → CO w D T N P y' q) := by
        intro s0 hs
        unfold fX2_weigh_73 fX2_weigh_129 fX2_place
        simp only [Option.bind_some]
        rw [pl_x (by omega) (by omega) (by omega), ← oi_mul, hs, if_pos (ix_nI (xi_b (by omega) (by omega) (by omega)) (by decide)), if_pos (ix_nI (xi_b (by omega) (by omega) (by omega)) (by decide)), if_pos (ix_nI (show p < 5 by omega) (by decide)), cl_nI (show p < 2 ^ 31 by omega), cl_nI (show xi p u < 2 ^ 31 by have := xi_b (p := p) (u := u) (by omega) (by omega) (by omega); omega)]
        obtain ⟨Y, hY⟩ : ∃ Y, Y = sB y 22 (nI (xi p u)) (Int64.ofInt (Fc w D T N P p u)) := ⟨_, rfl⟩
        rw [← hY]
        have Yf : fG y0 Y := by rw [hY]; exact hf.sB _ _ _
        have Y23 : gA Y 23 = gA y 23 := by rw [hY]; rfl
        have Y22 : ∀ k, gB Y 22 k = if k = xi p u then Int64.ofInt (Fc w D T N P p u) else gB y 22 k := by
          intro k
          rw [hY]
          show vp_updL (gB y 22) (nI (xi p u)).toNatClampNeg _ k = _
          rw [cl_nI (by have := xi_b (p := p) (u := u) (by omega) (by omega) (by omega); omega), updL_eq]
        have Yq : ∀ q, p < q → q < P → CO w D T N P Y q := by
          intro q h3 h4
          obtain ⟨a1, a2⟩ := hq q h3 h4
          refine ⟨fun v g1 g2 => ?_, by rw [Y23]; exact a2⟩
          rw [Y22, if_neg (fun e => by have := (xi_n (by omega) (by omega) (by omega) (by omega) e).1; omega)]
          exact a1 v g1 g2
        have Yb : ∀ v : Int, -(T : Int) ≤ v → v < -(T : Int) + ((j + 1 : Nat) : Int) → gB Y 22 (xi p v) = Int64.ofInt (Fc w D T N P p v) := by
          intro v g1 g2
          rw [Y22]
          by_cases e : v = u
          · rw [if_pos (by rw [e]), e]
          · rw [if_neg (fun h => e (xi_n (by omega) (by omega) (by omega) (by omega) h).2)]
            exact hb v g1 (by omega)
        have ar := am_r (Fc w D T N P p) T j hj
        have hn : (-(T : Int) + (j : Int)) + 1 = -(T : Int) + ((j + 1 : Nat) : Int) := by omega
        rw [Y23, hc, pl_x (by omega) (by omega) (by omega), if_pos (ix_nI (xi_b (by omega) (by omega) (by omega)) (by decide)), cl_nI (show xi p (am (Fc w D T N P p) T j) < 2 ^ 31 by have := xi_b (p := p) (u := am (Fc w D T N P p) T j) (by omega) (by omega) (by omega); omega), Yb _ (by omega) (by omega), Yb u (by omega) (by omega), oI_1 (by omega), hu, hn]
        have ole := oi_le (Fc_b (D := D) (N := N) (p := p) (u := am (Fc w D T N P p) T j) hP hT hw (by omega) (by omega)) (Fc_b (D := D) (N := N) (p := p) (u := -(T : Int) + j) hP hT hw (by omega) (by omega))
        by_cases q : Fc w D T N P p (am (Fc w D T N P p) T j) ≤ Fc w D T N P p (-(T : Int) + j)
        · rw [if_pos (by rw [ole]; exact q)]
          apply ih (j + 1) Y (by omega) (by omega) Yf Yq Yb
          rw [Y23, hc, am, if_neg (by omega)]
        · rw [if_neg (by rw [ole]; exact q), if_pos (ix_nI (show p < 5 by omega) (by decide))]
          apply ih (j + 1) _ (by omega) (by omega) (Yf.sA rfl _ _)
          · intro q h3 h4
            obtain ⟨a1, a2⟩ := Yq q h3 h4
            refine ⟨a1, ?_⟩
            show upd (gA Y 23) (nI p).toNatClampNeg _ q = _
            rw [cl_nI (by omega), upd_n (by omega)]
            exact a2
          · exact Yb
          · show upd (gA Y 23) (nI p).toNatClampNeg _ p = _
            rw [cl_nI (by omega), upd_s, am, if_pos (by omega)]
      by_cases e : P ≤ p + 1
      · rw [if_pos (nI_le e (by omega))]
        apply fin
        rw [Fc_l e, Int64.add_zero]
      · rw [if_neg (nI_ge (by omega) (by omega))]
        obtain ⟨a1, a2⟩ := hq (p + 1) (by omega) (by omega)
        rw [beh (d := D (p + 1)) (c := chp w D T N P (p + 1)) hT hN (by omega) (by rw [hf.1 3 rfl]; exact e3) (by rw [hf.1 4 rfl]; exact e4) (by rw [hf.2 30 rfl]; exact eD (p + 1) (by omega)) a2 chp_f.1 hur, Option.bind_some]
        have hb' := (bh_f (N := N) (d := D (p + 1)) Fc_c (chp_f (w := w) (D := D) (N := N) (P := P) (p := p + 1)) hur).1.1
        unfold fX2_place
        simp only [Option.bind_some]
        rw [pl_x (by omega) (by omega) (by omega), if_pos (ix_nI (xi_b (by omega) (by omega) (by omega)) (by decide)), cl_nI (by have := xi_b (p := p + 1) (u := bh (D (p + 1)) (chp w D T N P (p + 1)) N u) (by omega) (by omega) (by omega); omega), a1 _ hb'.1 hb'.2]
        apply fin
        rw [Fc_s (p := p) (by omega), oi_add]
theorem wgh {w : Nat → Int} {D : Nat → Int32} {T N P p : Nat} {y0 y : ST} (hT : T ≤ 60) (hN : N ≤ 120) (hP : P ≤ 5) (hw : ∀ p, (w p).natAbs ≤ 30000) (hp : p < P) (hF : FX w D T N P y0) (hf : fG y0 y) (hq : ∀ q, p < q → q < P → CO w D T N P y q) : ∃ y', fX2_weigh (nI p) y = some y' ∧ fG y0 y' ∧ (∀ q, p ≤ q → q < P → CO w D T N P y' q) := by
  unfold fX2_weigh
  have e3 : gI y 3 = nI T := by rw [hf.1 3 rfl]; exact hF.1
  have et : -(nI T) = oI (-(T : Int) + ((0 : Nat) : Int)) := by
    rw [oI_neg (by omega)]
    congr 1
    omega
  rw [if_pos (ix_nI (show p < 5 by omega) (by decide)), show gI (sA y 23 (nI p) (-gI y 3)) 3 = gI y 3 from rfl, e3]
  rw [et]
  apply wg_17 hT hN hP hw hp hF 200 0 _ (by omega) (by omega) (hf.sA rfl _ _)
  · intro q h3 h4
    obtain ⟨a1, a2⟩ := hq q h3 h4
    refine ⟨a1, ?_⟩
    show upd (gA y 23) (nI p).toNatClampNeg _ q = _
    rw [cl_nI (by omega), upd_n (by omega)]
    exact a2
  · intro u g1 g2
    omega
  · show upd (gA y 23) (nI p).toNatClampNeg _ p = _
    rw [cl_nI (by omega), upd_s, am]
    congr 1
    omega
theorem f24 {w : Nat → Int} {D : Nat → Int32} {T N P : Nat} {y0 : ST} (hT : T ≤ 60) (hN : N ≤ 120) (hP : P ≤ 5) (hw : ∀ p, (w p).natAbs ≤ 30000) (hF : FX w D T N P y0) : ∀ (p M : Nat) (y : ST), p ≤ P → p < M → fG y0 y → (∀ q, p ≤ q → q < P → CO w D T N P y q) → ∃ y', fX2_find_24 M (nI p - 1) y = fX2_find_42 y' ∧ fG y0 y' ∧ (∀ q, q < P → CO w D T N P y' q)
  | 0, M, y, h1, h2, hf, hq => by
    obtain ⟨M, rfl⟩ := Nat.exists_eq_succ_of_ne_zero (by omega : M ≠ 0)
    rw [fX2_find_24, if_pos (show nI 0 - 1 < 0 by decide)]
    exact ⟨y, rfl, hf, fun q h => hq q (Nat.zero_le q) h⟩
  | p + 1, M, y, h1, h2, hf, hq => by
    obtain ⟨M, rfl⟩ := Nat.exists_eq_succ_of_ne_zero (by omega : M ≠ 0)
    obtain ⟨b1, b2, b3⟩ := bf2 p (by omega)
    obtain ⟨y1, Y1, Y2, Y3⟩ := wgh hT hN hP hw (p := p) (by omega) hF hf (fun q h3 h4 => hq q (by omega) h4)
    rw [fX2_find_24, b1, if_neg b2, Y1, Option.bind_some, b3]
    exact f24 hT hN hP hw hF p M y1 (by omega) (by omega) Y2 Y3
theorem f76 {w : Nat → Int} {D : Nat → Int32} {T N P : Nat} {y0 : ST} {s : Int64} (hT : T ≤ 60) (hN : N ≤ 120) (hP : P ≤ 5) (hF : FX w D T N P y0) : ∀ (M p : Nat) (y : ST), 1 ≤ p → p ≤ P → P < M + p → fG y0 y → gL y 0 = s → (∀ q, q < P → gA y 23 q = oI (chp w D T N P q)) → (∀ q, q < p → gA y 24 q = oI (ro w D T N P q)) → ∃ y', fX2_find_76 M (nI p) y = some y' ∧ fG y0 y' ∧ gL y' 0 = s ∧ (∀ q, q < P → gA y' 24 q = oI (ro w D T N P q)) := by
  obtain ⟨e3, e4, e9, eD, ew⟩ := hF
  intro M
  induction M with
  | zero => intro p y h0 h1 h2; omega
  | succ M ih =>
    intro p y h0 h1 h2 hf hl h23 hq
    rw [fX2_find_76]
    unfold fX6_count
    rw [Option.bind_some]
    simp only [hf.1 9 rfl, e9]
    by_cases c : P ≤ p
    · rw [if_pos (nI_le c (by omega))]
      exact ⟨y, rfl, hf, hl, fun q h => hq q (by omega)⟩
    · obtain ⟨p, rfl⟩ := Nat.exists_eq_succ_of_ne_zero (by omega : p ≠ 0)
      rw [Nat.succ_eq_add_one] at *
      have e1 : nI (p + 1) - 1 = nI p := (bf2 p (by omega)).1
      rw [if_neg (nI_ge (by omega) (by omega)), e1, if_pos (ix_nI (by omega) (by decide)), cl_nI (by omega), hq p (by omega)]
      rw [beh (d := D (p + 1)) (c := chp w D T N P (p + 1)) hT hN (by omega) (by rw [hf.1 3 rfl]; exact e3) (by rw [hf.1 4 rfl]; exact e4) (by rw [hf.2 30 rfl]; exact eD (p + 1) (by omega)) (h23 (p + 1) (by omega)) chp_f.1 (ro_b p), Option.bind_some, if_pos (ix_nI (by omega) (by decide)), nI_1]
      refine ih (p + 1 + 1) (sA y 24 (nI (p + 1)) _) (by omega) (by omega) (by omega) (hf.sA rfl _ _) hl h23 ?_
      intro q h
      show upd (gA y 24) (nI (p + 1)).toNatClampNeg _ q = _
      rw [cl_nI (by omega), upd_eq]
      by_cases e : q = p + 1
      · rw [if_pos e, e]; rfl
      · rw [if_neg e]; exact hq q (by omega)
def fF (x y : ST) : Prop := fr (fun i => i == 3 || i == 4) (fun a => a == 23 || a == 24) x y
theorem fit_x {w : Nat → Int} {D : Nat → Int32} {T N P : Nat} {y : ST} (hT : T ≤ 60) (hN : N ≤ 120) (hP1 : 1 ≤ P) (hP : P ≤ 5) (hw : ∀ p, (w p).natAbs ≤ 30000) (e9 : gI y 9 = nI P) (eD : ∀ i, i < 5 → gA y 30 i = D i ∧ (D i = 0 ∨ D i = 1)) (ew : ∀ p, p < P → gA y 21 p = oI (w p)) : ∃ y', fX2_find (nI T) (nI N) y = some y' ∧ fF y y' ∧ gL y' 0 = Int64.ofInt (Fc w D T N P 0 (ro w D T N P 0)) ∧ (∀ q, q < P → gA y' 24 q = oI (ro w D T N P q)) := by
  have hh : fX11_held (nI T) 0 60 = some (nI T) := by
    unfold fX11_held
    congr 1
    have e1 : (if nI T < 60 then nI T else 60) = nI T := by
      by_cases c : T = 60
      · subst c; rfl
      · exact if_pos (show nI T < nI 60 from nI_lt (by omega) (by decide))
    rw [e1]
    by_cases c : T = 0
    · subst c; rfl
    · exact if_pos (show nI 0 < nI T from nI_lt (by omega) (by omega))
  have hF : FX w D T N P (sI (sI y 3 (nI T)) 4 (nI N)) := ⟨rfl, rfl, e9, eD, ew⟩
  obtain ⟨y1, Y1, Y2, Y3⟩ := f24 hT hN hP hw hF P 200 _ (Nat.le_refl _) (by omega) fr.rf (fun q h3 h4 => absurd h3 (by omega))
  have hr := ro_b (w := w) (D := D) (T := T) (N := N) (P := P) 0
  have h24 : ∀ q, q < 1 → upd (gA y1 24) (nI 0).toNatClampNeg (oI (ro w D T N P 0)) q = oI (ro w D T N P q) := by
    intro q h
    have : q = 0 := by omega
    subst this
    rw [cl_nI (by omega), upd_s]
  obtain ⟨y2, Z1, Z2, Z3, Z4⟩ := f76 (s := Int64.ofInt (Fc w D T N P 0 (ro w D T N P 0))) hT hN hP hF 200 1 (sL (sA y1 24 (nI 0) (oI (ro w D T N P 0))) 0 (Int64.ofInt (Fc w D T N P 0 (ro w D T N P 0)))) (Nat.le_refl _) hP1 (by omega) ((Y2.sA rfl _ _).sL _ _) rfl (fun q h => (Y3 q h).2) h24
  refine ⟨y2, ?_, ?_, Z3, Z4⟩
  · unfold fX2_find
    rw [hh, Option.bind_some]
    unfold fX6_count
    rw [Option.bind_some]
    simp only [show gI (sI (sI y 3 (nI T)) 4 (nI N)) 9 = gI y 9 from rfl, e9]
    rw [Y1]
    unfold fX2_find_42 fX2_place
    have e0 : (0 : Int32).toNatClampNeg = 0 := by decide
    have c0 : gA y1 23 0 = oI (ro w D T N P 0) := (Y3 0 (by omega)).2
    have u0 : ∀ v : Int32, gA (sA y1 24 0 v) 24 0 = v := by
      intro v
      show upd (gA y1 24) (0 : Int32).toNatClampNeg v 0 = v
      rw [e0, upd_s]
    simp only [if_pos (show ixok 0 5 = true by decide), Option.bind_some, e0, c0, u0]
    rw [show (0 : Int32) * 121 + 60 + oI (ro w D T N P 0) = nI (xi 0 (ro w D T N P 0)) from pl_x (p := 0) (by omega) (by omega) (by omega), if_pos (ix_nI (xi_b (by omega) (by omega) (by omega)) (by decide)), cl_nI (by have := xi_b (p := 0) (u := ro w D T N P 0) (by omega) (by omega) (by omega); omega)]
    rw [show gB (sA y1 24 0 (oI (ro w D T N P 0))) 22 (xi 0 (ro w D T N P 0)) = gB y1 22 (xi 0 (ro w D T N P 0)) from rfl, (Y3 0 (by omega)).1 _ hr.1 hr.2]
    exact Z1
  · have q1 : fF y (sI (sI y 3 (nI T)) 4 (nI N)) := (fr.rf.sI rfl _).sI rfl _
    exact q1.tr (Z2.sub (fun i _ => rfl) (fun a h => h))

/-! the nearest allowed row: first least costs, over numbers -/
def besb (d : Int32) (N v u : Int) : Bool := if d = 0 then decide (-N ≤ v - u ∧ v - u ≤ N) else decide (v = u)
def bh (d : Int32) (c N u : Int) : Int := if d = 0 then (if c < u - N then u - N else if u + N < c then u + N else c) else u
def am (f : Int → Int) (T : Nat) : Nat → Int
  | 0 => -(T : Int)
  | j + 1 => if f (-(T : Int) + (j : Int)) < f (am f T j) then -(T : Int) + (j : Int) else am f T j
def FA (f : Int → Int) (Q : Int → Prop) (v : Int) : Prop := Q v ∧ (∀ v', Q v' → f v ≤ f v') ∧ (∀ v', Q v' → v' < v → f v < f v')
theorem FA.u {f : Int → Int} {Q : Int → Prop} {v v' : Int} (h : FA f Q v) (h' : FA f Q v') : v = v' := by
  rcases Int.lt_trichotomy v v' with q | q | q
  · have := h'.2.2 v h.1 q
    have := h.2.1 v' h'.1
    omega
  · exact q
  · have := h.2.2 v' h'.1 q
    have := h'.2.1 v h.1
    omega
theorem FA.q {f : Int → Int} {Q Q' : Int → Prop} {v : Int} (h : FA f Q v) (e : ∀ v, Q v ↔ Q' v) : FA f Q' v := ⟨(e v).mp h.1, fun v' h' => h.2.1 v' ((e v').mpr h'), fun v' h' => h.2.2 v' ((e v').mpr h')⟩
theorem am_s (f : Int → Int) (T : Nat) : ∀ j : Nat, FA f (fun v => -(T : Int) ≤ v ∧ v < -(T : Int) + ((j + 1 : Nat) : Int)) (am f T (j + 1))
  | 0 => by
    have e : am f T 1 = -(T : Int) := by
      show (if f (-(T : Int) + ((0 : Nat) : Int)) < f (-(T : Int)) then -(T : Int) + ((0 : Nat) : Int) else -(T : Int)) = _
      rw [show -(T : Int) + ((0 : Nat) : Int) = -(T : Int) by omega]
      split <;> rfl
    rw [e]
    refine ⟨⟨by omega, by omega⟩, fun v' h' => ?_, fun v' h' hl => ?_⟩
    · have : v' = -(T : Int) := by omega
      rw [this]; exact Int.le_refl _
    · omega
  | j + 1 => by
    obtain ⟨h1, h2, h3⟩ := am_s f T j
    rw [am]
    by_cases c : f (-(T : Int) + ((j + 1 : Nat) : Int)) < f (am f T (j + 1))
    · rw [if_pos c]
      refine ⟨⟨by omega, by omega⟩, fun v' h' => ?_, fun v' h' hl => ?_⟩
      · by_cases e : v' = -(T : Int) + ((j + 1 : Nat) : Int)
        · rw [e]; exact Int.le_refl _
        · have := h2 v' ⟨h'.1, by omega⟩
          omega
      · have := h2 v' ⟨h'.1, by omega⟩
        omega
    · rw [if_neg c]
      refine ⟨⟨h1.1, by omega⟩, fun v' h' => ?_, fun v' h' hl => ?_⟩
      · by_cases e : v' = -(T : Int) + ((j + 1 : Nat) : Int)
        · rw [e]; omega
        · exact h2 v' ⟨h'.1, by omega⟩
      · exact h3 v' ⟨h'.1, by omega⟩ hl
theorem am_f (f : Int → Int) (T : Nat) : FA f (fun v => -(T : Int) ≤ v ∧ v ≤ T) (am f T (2 * T + 1)) := (am_s f T (2 * T)).q (fun v => by constructor <;> (intro h; omega))
def cvx (f : Int → Int) (T : Nat) : Prop := ∀ u : Int, -(T : Int) < u → u < T → 2 * f u ≤ f (u - 1) + f (u + 1)
theorem up1 {f : Int → Int} {T : Nat} {c : Int} (h : cvx f T) (hf : FA f (fun v => -(T : Int) ≤ v ∧ v ≤ T) c) : ∀ j : Nat, c + j < T → f (c + j) ≤ f (c + j + 1)
  | 0, hj => by
    have := hf.2.1 (c + 1) ⟨by have := hf.1; omega, by omega⟩
    rw [show c + ((0 : Nat) : Int) = c by omega]
    exact this
  | j + 1, hj => by
    have ih := up1 h hf j (by omega)
    have h1 := hf.1.1
    have q := h (c + j + 1) (by omega) (by omega)
    rw [show c + (j : Int) + 1 - 1 = c + j by omega] at q
    rw [show c + ((j + 1 : Nat) : Int) = c + j + 1 by omega]
    omega
theorem upm {f : Int → Int} {T : Nat} {c : Int} (h : cvx f T) (hf : FA f (fun v => -(T : Int) ≤ v ∧ v ≤ T) c) (a : Int) (ha : c ≤ a) : ∀ j : Nat, a + j ≤ T → f a ≤ f (a + j)
  | 0, hj => by rw [show a + ((0 : Nat) : Int) = a by omega]; exact Int.le_refl _
  | j + 1, hj => by
    have ih := upm h hf a ha j (by omega)
    have q := up1 h hf (a + j - c).toNat (by omega)
    rw [show c + ((a + j - c).toNat : Int) = a + j by omega] at q
    rw [show a + ((j + 1 : Nat) : Int) = a + j + 1 by omega]
    omega
theorem dn1 {f : Int → Int} {T : Nat} {c : Int} (h : cvx f T) (hf : FA f (fun v => -(T : Int) ≤ v ∧ v ≤ T) c) : ∀ j : Nat, -(T : Int) ≤ c - 1 - j → f (c - j) < f (c - 1 - j)
  | 0, hj => by
    have := hf.2.2 (c - 1) ⟨by omega, by have := hf.1; omega⟩ (by omega)
    rw [show c - ((0 : Nat) : Int) = c by omega, show c - 1 - ((0 : Nat) : Int) = c - 1 by omega]
    exact this
  | j + 1, hj => by
    have ih := dn1 h hf j (by omega)
    have h1 := hf.1.2
    have q := h (c - 1 - j) (by omega) (by omega)
    rw [show c - 1 - (j : Int) + 1 = c - j by omega] at q
    rw [show c - ((j + 1 : Nat) : Int) = c - 1 - j by omega, show c - 1 - ((j + 1 : Nat) : Int) = c - 1 - j - 1 by omega]
    omega
theorem dnm {f : Int → Int} {T : Nat} {c : Int} (h : cvx f T) (hf : FA f (fun v => -(T : Int) ≤ v ∧ v ≤ T) c) (b : Int) (hb : b ≤ c) : ∀ j : Nat, -(T : Int) ≤ b - 1 - j → f b < f (b - 1 - j)
  | 0, hj => by
    have q := dn1 h hf (c - b).toNat (by omega)
    rw [show c - ((c - b).toNat : Int) = b by omega, show c - 1 - ((c - b).toNat : Int) = b - 1 by omega] at q
    rw [show b - 1 - ((0 : Nat) : Int) = b - 1 by omega]
    exact q
  | j + 1, hj => by
    have ih := dnm h hf b hb j (by omega)
    have q := dn1 h hf (c - b + 1 + j).toNat (by omega)
    rw [show c - ((c - b + 1 + j).toNat : Int) = b - 1 - j by omega, show c - 1 - ((c - b + 1 + j).toNat : Int) = b - 1 - j - 1 by omega] at q
    rw [show b - 1 - ((j + 1 : Nat) : Int) = b - 1 - j - 1 by omega]
    omega
/-- of those beside u the first of least cost -/
theorem bh_f {f : Int → Int} {T N : Nat} {c u : Int} {d : Int32} (h : cvx f T) (hf : FA f (fun v => -(T : Int) ≤ v ∧ v ≤ T) c) (hu : -(T : Int) ≤ u ∧ u ≤ T) : FA f (fun v => (-(T : Int) ≤ v ∧ v ≤ T) ∧ besb d N v u = true) (bh d c N u) := by
  unfold besb bh
  have h1 := hf.1
  by_cases e : d = 0
  · simp only [if_pos e, decide_eq_true_eq]
    by_cases q1 : c < u - N
    · rw [if_pos q1]
      refine ⟨⟨⟨by omega, by omega⟩, by omega, by omega⟩, fun v' h' => ?_, fun v' h' hl => ?_⟩
      · have := upm h hf (u - N) (by omega) (v' - (u - N)).toNat (by omega)
        rw [show u - (N : Int) + ((v' - (u - N)).toNat : Int) = v' by omega] at this
        exact this
      · omega
    · rw [if_neg q1]
      by_cases q2 : u + N < c
      · rw [if_pos q2]
        have key : ∀ v', -(T : Int) ≤ v' → v' < u + N → f (u + N) < f v' := by
          intro v' g1 g2
          have := dnm h hf (u + N) (by omega) (u + N - 1 - v').toNat (by omega)
          rw [show u + (N : Int) - 1 - ((u + N - 1 - v').toNat : Int) = v' by omega] at this
          exact this
        refine ⟨⟨⟨by omega, by omega⟩, by omega, by omega⟩, fun v' h' => ?_, fun v' h' hl => key v' h'.1.1 hl⟩
        by_cases g : v' = u + N
        · rw [g]; exact Int.le_refl _
        · have := key v' h'.1.1 (by omega)
          omega
      · rw [if_neg q2]
        exact ⟨⟨h1, by omega, by omega⟩, fun v' h' => hf.2.1 v' h'.1, fun v' h' hl => hf.2.2 v' h'.1 hl⟩
  · simp only [if_neg e, decide_eq_true_eq]
    refine ⟨⟨hu, rfl⟩, fun v' h' => ?_, fun v' h' hl => ?_⟩
    · rw [h'.2]; exact Int.le_refl _
    · omega
theorem bh_c {f : Int → Int} {T N : Nat} {c : Int} {d : Int32} (h : cvx f T) (hf : FA f (fun v => -(T : Int) ≤ v ∧ v ≤ T) c) : cvx (fun u => f (bh d c N u)) T := by
  intro u hu1 hu2
  show 2 * f (bh d c N u) ≤ f (bh d c N (u - 1)) + f (bh d c N (u + 1))
  have h1 := hf.1
  have r1 := (bh_f (N := N) (d := d) h hf (u := u - 1) ⟨by omega, by omega⟩).1.1
  have r2 := (bh_f (N := N) (d := d) h hf (u := u + 1) ⟨by omega, by omega⟩).1.1
  have m1 := hf.2.1 _ r1
  have m2 := hf.2.1 _ r2
  revert m1 m2
  unfold bh
  by_cases e : d = 0
  · simp only [if_pos e]
    by_cases q1 : c < u - N
    · intro _ _
      have q := h (u - N) (by omega) (by omega)
      rw [if_pos q1, if_pos (show c < u + 1 - N by omega)]
      rw [show u + 1 - (N : Int) = u - N + 1 by omega]
      by_cases q3 : c < u - 1 - N
      · rw [if_pos q3, show u - 1 - (N : Int) = u - N - 1 by omega]
        exact q
      · rw [if_neg q3, if_neg (by omega), show c = u - N - 1 by omega]
        exact q
    · by_cases q2 : u + N < c
      · intro _ _
        have q := h (u + N) (by omega) (by omega)
        rw [if_neg q1, if_pos q2, if_neg (show ¬ c < u - 1 - N by omega), if_pos (show u - 1 + N < c by omega), if_neg (show ¬ c < u + 1 - N by omega)]
        rw [show u - 1 + (N : Int) = u + N - 1 by omega]
        by_cases q3 : u + 1 + N < c
        · rw [if_pos q3, show u + 1 + (N : Int) = u + N + 1 by omega]
          exact q
        · rw [if_neg q3, show c = u + N + 1 by omega]
          exact q
      · rw [if_neg q1, if_neg q2]
        intro m1 m2
        omega
  · simp only [if_neg e]
    intro _ _
    exact h u hu1 hu2
def cst (w : Nat → Int) (D : Nat → Int32) (T N : Nat) : Nat → Nat → Int → Int
  | 0 => fun p u => (u - w p) * (u - w p)
  | r + 1 => fun p u => (u - w p) * (u - w p) + cst w D T N r (p + 1) (bh (D (p + 1)) (am (cst w D T N r (p + 1)) T (2 * T + 1)) N u)
theorem sq_c (t : Int) : (t - 1) * (t - 1) + (t + 1) * (t + 1) = 2 * (t * t) + 2 := by
  rw [Int.sub_mul, Int.mul_sub, Int.add_mul, Int.mul_add]
  omega
theorem cs_c {w : Nat → Int} {D : Nat → Int32} {T N : Nat} : ∀ r p, cvx (cst w D T N r p) T
  | 0, p => by
    intro u _ _
    show 2 * ((u - w p) * (u - w p)) ≤ (u - 1 - w p) * (u - 1 - w p) + (u + 1 - w p) * (u + 1 - w p)
    have := sq_c (u - w p)
    rw [show u - 1 - w p = u - w p - 1 by omega, show u + 1 - w p = u - w p + 1 by omega]
    omega
  | r + 1, p => by
    intro u h1 h2
    have q := bh_c (N := N) (d := D (p + 1)) (cs_c r (p + 1)) (am_f (cst w D T N r (p + 1)) T) u h1 h2
    have := sq_c (u - w p)
    show 2 * ((u - w p) * (u - w p) + cst w D T N r (p + 1) (bh (D (p + 1)) (am (cst w D T N r (p + 1)) T (2 * T + 1)) N u)) ≤ ((u - 1 - w p) * (u - 1 - w p) + cst w D T N r (p + 1) (bh (D (p + 1)) (am (cst w D T N r (p + 1)) T (2 * T + 1)) N (u - 1))) + ((u + 1 - w p) * (u + 1 - w p) + cst w D T N r (p + 1) (bh (D (p + 1)) (am (cst w D T N r (p + 1)) T (2 * T + 1)) N (u + 1)))
    rw [show u - 1 - w p = u - w p - 1 by omega, show u + 1 - w p = u - w p + 1 by omega]
    simp only at q
    omega
theorem sq_b {t : Int} (h : t.natAbs ≤ 30060) : 0 ≤ t * t ∧ t * t ≤ 903603600 := by
  have h1 := mulb h h
  have h2 : 0 ≤ t * t := by
    rcases Int.le_total 0 t with q | q
    · exact Int.mul_nonneg q q
    · exact Int.mul_nonneg_of_nonpos_of_nonpos q q
  omega
theorem cs_b {w : Nat → Int} {D : Nat → Int32} {T N : Nat} (hT : T ≤ 60) (hw : ∀ p, (w p).natAbs ≤ 30000) : ∀ (r p : Nat) (u : Int), -(T : Int) ≤ u → u ≤ T → 0 ≤ cst w D T N r p u ∧ cst w D T N r p u ≤ 903603600 * ((r : Int) + 1)
  | 0, p, u, h1, h2 => by
    have := sq_b (t := u - w p) (by have := hw p; omega)
    show 0 ≤ (u - w p) * (u - w p) ∧ (u - w p) * (u - w p) ≤ _
    omega
  | r + 1, p, u, h1, h2 => by
    have := sq_b (t := u - w p) (by have := hw p; omega)
    have hb := (bh_f (N := N) (d := D (p + 1)) (cs_c r (p + 1)) (am_f (cst w D T N r (p + 1)) T) (u := u) ⟨h1, h2⟩).1.1
    have ih := cs_b (D := D) (N := N) hT hw r (p + 1) _ hb.1 hb.2
    show 0 ≤ (u - w p) * (u - w p) + cst w D T N r (p + 1) (bh (D (p + 1)) (am (cst w D T N r (p + 1)) T (2 * T + 1)) N u) ∧ (u - w p) * (u - w p) + cst w D T N r (p + 1) (bh (D (p + 1)) (am (cst w D T N r (p + 1)) T (2 * T + 1)) N u) ≤ _
    omega
/-- the cost of part p of P, its first least, the row -/
def Fc (w : Nat → Int) (D : Nat → Int32) (T N P p : Nat) : Int → Int := cst w D T N (P - 1 - p) p
def chp (w : Nat → Int) (D : Nat → Int32) (T N P p : Nat) : Int := am (Fc w D T N P p) T (2 * T + 1)
def ro (w : Nat → Int) (D : Nat → Int32) (T N P : Nat) : Nat → Int
  | 0 => chp w D T N P 0
  | p + 1 => bh (D (p + 1)) (chp w D T N P (p + 1)) N (ro w D T N P p)
theorem Fc_l {w : Nat → Int} {D : Nat → Int32} {T N P p : Nat} (h : P ≤ p + 1) (u : Int) : Fc w D T N P p u = (u - w p) * (u - w p) := by
  unfold Fc
  rw [show P - 1 - p = 0 by omega]
  rfl
theorem Fc_s {w : Nat → Int} {D : Nat → Int32} {T N P p : Nat} (h : p + 1 < P) (u : Int) : Fc w D T N P p u = (u - w p) * (u - w p) + Fc w D T N P (p + 1) (bh (D (p + 1)) (chp w D T N P (p + 1)) N u) := by
  unfold chp Fc
  rw [show P - 1 - p = P - 1 - (p + 1) + 1 by omega]
  rfl
theorem Fc_c {w : Nat → Int} {D : Nat → Int32} {T N P p : Nat} : cvx (Fc w D T N P p) T := cs_c _ _
theorem chp_f {w : Nat → Int} {D : Nat → Int32} {T N P p : Nat} : FA (Fc w D T N P p) (fun v => -(T : Int) ≤ v ∧ v ≤ T) (chp w D T N P p) := am_f _ _
theorem Fc_b {w : Nat → Int} {D : Nat → Int32} {T N P p : Nat} (hP : P ≤ 5) (hT : T ≤ 60) (hw : ∀ p, (w p).natAbs ≤ 30000) {u : Int} (h1 : -(T : Int) ≤ u) (h2 : u ≤ T) : 0 ≤ Fc w D T N P p u ∧ Fc w D T N P p u ≤ 4518018000 := by
  have := cs_b (D := D) (N := N) hT hw (P - 1 - p) p u h1 h2
  unfold Fc
  omega
theorem ro_b {w : Nat → Int} {D : Nat → Int32} {T N P : Nat} : ∀ p, -(T : Int) ≤ ro w D T N P p ∧ ro w D T N P p ≤ T
  | 0 => (chp_f (w := w) (D := D) (N := N) (P := P) (p := 0)).1
  | p + 1 => (bh_f (N := N) (d := D (p + 1)) Fc_c (chp_f (w := w) (D := D) (N := N) (P := P) (p := p + 1)) (ro_b p)).1.1
/-! signed numbers in both machines -/
def oI (u : Int) : Int32 := Int32.ofInt u
theorem oI_t {u : Int} (h1 : -2147483648 ≤ u) (h2 : u ≤ 2147483647) : (oI u).toInt = u := by
  unfold oI
  rw [Int32.toInt_ofInt]
  exact bm32 h1 h2
theorem oI_of {v : Int32} {u : Int} (h : v.toInt = u) (h1 : -2147483648 ≤ u) (h2 : u ≤ 2147483647) : v = oI u := by
  apply Int32.toInt_inj.mp
  rw [h, oI_t h1 h2]
theorem oI_n {n : Nat} (h : n < 2147483648) : oI (n : Int) = nI n := by
  apply Int32.toInt_inj.mp
  rw [oI_t (by omega) (by omega), nI_toInt (by omega)]
theorem oI_lt {a b : Int} (ha : a.natAbs ≤ 1000000) (hb : b.natAbs ≤ 1000000) : (oI a < oI b) = (a < b) := by
  apply propext
  rw [Int32.lt_iff_toInt_lt, oI_t (by omega) (by omega), oI_t (by omega) (by omega)]
theorem oI_add {a b : Int} (ha : a.natAbs ≤ 1000000) (hb : b.natAbs ≤ 1000000) : oI a + oI b = oI (a + b) := by
  apply oI_of _ (by omega) (by omega)
  have e1 := oI_t (u := a) (by omega) (by omega)
  have e2 := oI_t (u := b) (by omega) (by omega)
  rw [ti_add (by omega) (by omega), e1, e2]
theorem oI_sub {a b : Int} (ha : a.natAbs ≤ 1000000) (hb : b.natAbs ≤ 1000000) : oI a - oI b = oI (a - b) := by
  apply oI_of _ (by omega) (by omega)
  have e1 := oI_t (u := a) (by omega) (by omega)
  have e2 := oI_t (u := b) (by omega) (by omega)
  rw [ti_sub (by omega) (by omega), e1, e2]
theorem oI_1 {a : Int} (ha : a.natAbs ≤ 1000) : oI a + 1 = oI (a + 1) := oI_add (b := 1) (by omega) (by decide)
theorem oI_neg {n : Nat} (h : n ≤ 1000) : -(nI n) = oI (-(n : Int)) := by
  apply oI_of _ (by omega) (by omega)
  have e1 := nI_toInt (n := n) (by omega)
  rw [ti_neg (by omega), e1]
theorem oI_q {v : Int32} : v = oI v.toInt := oI_of rfl v.le_toInt (by have := v.toInt_lt; omega)
theorem oI_inj {a b : Int} (ha : a.natAbs ≤ 1000000) (hb : b.natAbs ≤ 1000000) (h : oI a = oI b) : a = b := by
  have := congrArg Int32.toInt h
  rw [oI_t (by omega) (by omega), oI_t (by omega) (by omega)] at this
  exact this
def xi (p : Nat) (u : Int) : Nat := 121 * p + (60 + u).toNat
theorem xi_b {p : Nat} {u : Int} (hp : p < 5) (h1 : -60 ≤ u) (h2 : u ≤ 60) : xi p u < 605 := by unfold xi; omega
theorem xi_n {p q : Nat} {u v : Int} (h1 : -60 ≤ u) (h2 : u ≤ 60) (g1 : -60 ≤ v) (g2 : v ≤ 60) (h : xi p u = xi q v) : p = q ∧ u = v := by unfold xi at h; omega
theorem pl_x {p : Nat} {u : Int} (hp : p < 5) (h1 : -60 ≤ u) (h2 : u ≤ 60) : nI p * 121 + 60 + oI u = nI (xi p u) := by
  rw [show (121 : Int32) = nI 121 from rfl, pk_mul, show (60 : Int32) = nI 60 from rfl, nI_add, ← oI_n (by omega), oI_add (by omega) (by omega), ← oI_n (by unfold xi; omega)]
  congr 1
  unfold xi
  omega
theorem pl_m {p : Nat} {u : Int} (hp : p < 5) (h1 : -60 ≤ u) (h2 : u ≤ 60) : 121 * nI p + oI u + 60 = nI (xi p u) := by
  rw [show (121 : Int32) = nI 121 from rfl, pk_mul, show (60 : Int32) = oI 60 from rfl, ← oI_n (by omega), oI_add (by omega) (by omega), oI_add (by omega) (by omega), ← oI_n (by unfold xi; omega)]
  congr 1
  unfold xi
  omega
theorem oi_le {a b : Int} (ha : 0 ≤ a ∧ a ≤ 4518018000) (hb : 0 ≤ b ∧ b ≤ 4518018000) : (Int64.ofInt a ≤ Int64.ofInt b) = (a ≤ b) := by
  apply propext
  rw [Int64.le_iff_toInt_le, oi_small (by omega), oi_small (by omega)]
theorem oi_sub (a b : Int) : Int64.ofInt (a - b) = Int64.ofInt a - Int64.ofInt b := Int64.ofInt_sub ..

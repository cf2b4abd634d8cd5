/-! steady: both sides do the same with their polynomials -/
def cs (x x' : ST) : Prop := x'.1 = x.1 ∧ x'.2.2.1 = x.2.2.1
theorem cs.rf {x : ST} : cs x x := ⟨rfl, rfl⟩
theorem cs.sB {x y : ST} (h : cs x y) (k : Nat) (i : Int32) (v : Int64) : cs x (sB y k i v) := h
theorem cs.sH {x y : ST} (h : cs x y) (k : Nat) (f : Nat → Int64) : cs x (sH y k f) := h
theorem Rel_cs {k : Nat} {x m x' m' : ST} (h : Rel k x m) (hx : cs x x') (hm : cs m m') : Rel k x' m' := by
  unfold Rel at h ⊢
  show RCount (x'.1 11) (m'.1 0) (x'.1 9) (m'.1 1) ∧ REq 128 0 255 (x'.2.2.1 36) (m'.2.2.1 1) ∧ REq 8 0 3000 (x'.2.2.1 37) (m'.2.2.1 2) ∧ RSet (x'.2.2.1 32) (m'.2.2.1 4) (m'.2.2.1 5) (m'.2.2.1 6) ∧ REq 40 (-9) 9 (x'.2.2.1 41) (m'.2.2.1 3) ∧ RPoke (m'.1 0) (x'.2.2.1 42) (x'.2.2.1 43) (x'.2.2.1 44) (x'.2.2.1 45) (x'.2.2.1 46) (m'.2.2.1 7) (m'.2.2.1 8) (m'.2.2.1 9) ∧ RDead (x'.2.2.1 30) (m'.2.2.1 10) ∧ RUnits k (x'.2.2.1 31) (m'.2.2.1 19) ∧ x'.1 10 = m'.1 4 ∧ RKeep (x'.1 5) (x'.1 6) (x'.1 7) (x'.1 8) (m'.1 5) (m'.1 6) (m'.1 7) (m'.1 8) ∧ RLog k (x'.1 1) (x'.1 2) (m'.1 8) (x'.2.2.1 20) (m'.2.2.1 20) (m'.2.2.1 21) (m'.2.2.1 22) ∧ REq 10 (-50) 50 (x'.2.2.1 27) (m'.2.2.1 23) ∧ REq 96 (-99) 99 (x'.2.2.1 25) (m'.2.2.1 26) ∧ REq 3 (-31) 31 (x'.2.2.1 26) (m'.2.2.1 27) ∧ RSheet (x'.2.2.1 33) (x'.2.2.1 34) (x'.2.2.1 35) (m'.2.2.1 28) (m'.2.2.1 29) (m'.2.2.1 30)
  rw [hx.1, hx.2, hm.1, hm.2]
  exact h
def ab (v : Int64) : Int64 := if 0 ≤ v then v else -v
theorem ab_x (v : Int64) : (if 0 < v then v else -v) = ab v := by
  unfold ab
  by_cases h : 0 < v
  · rw [if_pos h, if_pos (Int64.le_of_lt h)]
  · rw [if_neg h]
    by_cases h2 : 0 ≤ v
    · have : v = 0 := by
        rw [Int64.lt_iff_toInt_lt] at h
        rw [Int64.le_iff_toInt_le] at h2
        apply Int64.toInt_inj.mp
        have z : (0 : Int64).toInt = 0 := by decide
        omega
      subst this
      decide
    · rw [if_neg h2]
theorem size_m (v : Int64) : fX12_size v = some (ab v) := by
  unfold fX12_size ab
  by_cases h : 0 ≤ v
  · rw [if_pos h, if_pos h]
  · rw [if_neg h, if_neg h]
def dg (P : Nat → Int64) : Nat → Option Nat
  | 0 => none
  | k + 1 => if P k = 0 then dg P k else some k
def cd : Option Nat → Int32
  | none => -1
  | some d => nI d
theorem dg_lt {P : Nat → Int64} : ∀ {k d : Nat}, dg P k = some d → d < k
  | 0, d, h => by cases h
  | k + 1, d, h => by
    unfold dg at h
    by_cases c : P k = 0
    · rw [if_pos c] at h
      have := dg_lt h
      omega
    · rw [if_neg c] at h
      cases h
      omega
def pol (f : Nat → Int32) (g : Int32) (j : Nat) : Int64 := 100 * (f j).toInt64 + g.toInt64 * (f (5 + j)).toInt64
def low (P : Nat → Int64) (d k : Nat) : Int64 := P d * P (k + 1) - P 0 * P (d - 1 - k)
-- the class
theorem ev_x {x : ST} {g : Int32} : ∀ (n i : Nat) (X : ST), i ≤ 5 → 5 < n + i → cs x X → (∀ j, j < i → gB X 28 j = pol (gA x 27) g j) → ∃ X', fX5_isSteady_2 n g (nI i) X = fX5_isSteady_43 X' ∧ cs x X' ∧ ∀ j, j < 5 → gB X' 28 j = pol (gA x 27) g j := by
  intro n
  induction n with
  | zero => intro i X h1 h2; omega
  | succ n ih =>
    intro i X h1 h2 hc hP
    rw [fX5_isSteady_2]
    by_cases q : 5 ≤ i
    · have : i = 5 := by omega
      subst this
      rw [if_pos (lit_le (v := 5) (a := 5) (b := 5) rfl (Nat.le_refl _) (by decide))]
      exact ⟨X, rfl, hc, hP⟩
    · rw [if_neg (lit_nle (v := 5) (a := 5) (b := i) rfl (by omega) (by decide)), show (5 : Int32) + nI i = nI (5 + i) from nI_add 5 i, if_pos (ix_nI (by omega) (by decide)), if_pos (ix_nI (by omega) (by decide)), if_pos (ix_nI (by omega) (by decide)), cl_nI (show i < 2 ^ 31 by omega), cl_nI (show 5 + i < 2 ^ 31 by omega), nI_1]
      refine ih (i + 1) _ (by omega) (by omega) (hc.sB _ _ _) (fun j hj => ?_)
      unfold sB
      rw [gB_sH, updL_eq, cl_nI (by omega)]
      by_cases e : j = i
      · subst e
        rw [if_pos rfl]
        unfold pol
        rw [show gA X 27 = gA x 27 from congrFun hc.2 27]
      · rw [if_neg e]
        exact hP j (by omega)
theorem dg_x {X : ST} {P : Nat → Int64} (hP : ∀ j, j < 5 → gB X 28 j = P j) : ∀ (k n : Nat), k ≤ 5 → k < n → fX5_isSteady_45 n (nI k - 1) X = fX5_isSteady_66 (cd (dg P k)) X := by
  intro k
  induction k with
  | zero =>
    intro n h1 h2
    obtain ⟨n, rfl⟩ : ∃ z, n = z + 1 := ⟨n - 1, by omega⟩
    rw [fX5_isSteady_45, if_pos (show nI 0 - 1 < 0 by decide)]
    rfl
  | succ k ih =>
    intro n h1 h2
    obtain ⟨n, rfl⟩ : ∃ z, n = z + 1 := ⟨n - 1, by omega⟩
    have e : nI (k + 1) - 1 = nI k := nI_pred k
    rw [fX5_isSteady_45, e, if_neg (nI_pos (by omega)), if_pos (ix_nI (by omega) (by decide)), cl_nI (by omega), hP k (by omega)]
    unfold dg
    by_cases c : P k = 0
    · rw [if_pos c, if_pos c, show nI k + (-1) = nI k - 1 by rw [Int32.sub_eq_add_neg]]
      exact ih n (by omega) (by omega)
    · rw [if_neg c, if_neg c]
      rfl
theorem low_x {x : ST} {P : Nat → Int64} {d : Nat} (h1 : 1 ≤ d) (h4 : d ≤ 4) : ∀ (n i : Nat) (X : ST), i ≤ d → d < n + i → cs x X → (∀ j, j < 5 → gB X 28 j = P j) → (∀ j, j < i → gB X 29 j = low P d j) → ∃ X', fX5_lower_2 n (nI d) (nI i) X = some X' ∧ cs x X' ∧ (∀ j, j < d → gB X' 28 j = low P d j) := by
  intro n
  induction n with
  | zero => intro i X h1 h2; omega
  | succ n ih =>
    intro i X h2 h3 hc hP hL
    rw [fX5_lower_2]
    by_cases q : d ≤ i
    · have : i = d := by omega
      subst this
      rw [if_pos (nI_le q (by omega))]
      unfold fX5_lower_52
      have hcp : cpok 0 0 (nI i) 5 5 = true := by
        rcases (show i = 1 ∨ i = 2 ∨ i = 3 ∨ i = 4 by omega) with rfl | rfl | rfl | rfl <;> decide
      rw [if_pos hcp]
      refine ⟨_, rfl, hc.sH _ _, fun j hj => ?_⟩
      rw [gB_sH]
      have z : (0 : Int32).toNatClampNeg = 0 := by decide
      unfold va_cpy
      rw [z, cl_nI (by omega), if_pos (by omega)]
      simp only [Nat.zero_add, Nat.sub_zero]
      exact hL j hj
    · have z : (0 : Int32).toNatClampNeg = 0 := by decide
      have e1 : nI d - 1 - nI i = nI (d - 1 - i) := by
        rw [show (1 : Int32) = nI 1 from rfl, pk_sub (by omega), pk_sub (by omega)]
      rw [if_neg (nI_ge (by omega) (by omega)), e1, nI_1, if_pos (ix_nI (by omega) (by decide)), if_pos (ix_nI (by omega) (by decide)), if_pos (show ixok 0 5 = true by decide), if_pos (ix_nI (by omega) (by decide)), if_pos (ix_nI (by omega) (by decide)), z, cl_nI (show d < 2 ^ 31 by omega), cl_nI (show i + 1 < 2 ^ 31 by omega), cl_nI (show d - 1 - i < 2 ^ 31 by omega), hP d (by omega), hP (i + 1) (by omega), hP 0 (by omega), hP (d - 1 - i) (by omega)]
      refine ih (i + 1) _ (by omega) (by omega) (hc.sB _ _ _) (fun j hj => hP j hj) (fun j hj => ?_)
      unfold sB
      rw [gB_sH, updL_eq, cl_nI (by omega)]
      by_cases e : j = i
      · subst e
        rw [if_pos rfl]
        rfl
      · rw [if_neg e]
        exact hL j (by omega)
theorem lit_gt {a : Nat} {v : Int32} (e : v = nI a) {b : Nat} (h : a < b) (hb : b < 2 ^ 31) : ¬ nI b ≤ v := e ▸ nI_ge h hb
/-- the answer: the polynomial P of degree d (at most 4) -/
def stz : Nat → (Nat → Int64) → Int32
  | 0, _ => 1
  | 1, P => if ab (P 0) < ab (P 1) then 1 else 0
  | 2, P => if ab (P 0) < ab (P 2) then (if ab (P 2 + P 0) ≤ ab (P 1) then 0 else 1) else 0
  | d + 3, P => if ab (P 0) < ab (P (d + 3)) then stz (d + 2) (low P (d + 3)) else 0
theorem less_x {X : ST} {P : Nat → Int64} {d : Nat} (h4 : d ≤ 4) (hP : ∀ j, j ≤ d → gB X 28 j = P j) : fX5_lastIsLess (nI d) X = some (if ab (P 0) < ab (P d) then 1 else 0, X) := by
  unfold fX5_lastIsLess
  have z : (0 : Int32).toNatClampNeg = 0 := by decide
  rw [if_pos (show ixok 0 5 = true by decide), if_pos (ix_nI (by omega) (by decide)), z, cl_nI (by omega), ab_x, ab_x, hP 0 (by omega), hP d (by omega), if_pos zb0, if_pos zb1]
  by_cases c : ab (P 0) < ab (P d)
  · rw [if_neg (Int64.not_le.mpr c), if_pos c]
  · rw [if_pos (Int64.not_lt.mp c), if_neg c]
theorem low_ext {P Q : Nat → Int64} {d : Nat} (h : ∀ j, j ≤ d → P j = Q j) {k : Nat} (hk : k < d) : low P d k = low Q d k := by
  unfold low
  rw [h d (by omega), h (k + 1) (by omega), h 0 (by omega), h (d - 1 - k) (by omega)]
theorem stz_ext : ∀ (d : Nat) {P Q : Nat → Int64}, (∀ j, j ≤ d → P j = Q j) → stz d P = stz d Q
  | 0, _, _, _ => rfl
  | 1, P, Q, h => by
    unfold stz
    rw [h 0 (by omega), h 1 (by omega)]
  | 2, P, Q, h => by
    unfold stz
    rw [h 0 (by omega), h 1 (by omega), h 2 (by omega)]
  | d + 3, P, Q, h => by
    unfold stz
    rw [h 0 (by omega), h (d + 3) (by omega), stz_ext (d + 2) (fun j hj => low_ext h (by omega))]
theorem zer_x {x : ST} : ∀ (d n : Nat) (X : ST) (P : Nat → Int64), d ≤ 4 → d < n → cs x X → (∀ j, j ≤ d → gB X 28 j = P j) → ∃ X', fX5_zerosWithin_2 n (nI d) X = some (stz d P, X') ∧ cs x X' := by
  intro d
  induction d with
  | zero =>
    intro n X P h1 h2 hc hP
    obtain ⟨n, rfl⟩ : ∃ z, n = z + 1 := ⟨n - 1, by omega⟩
    rw [fX5_zerosWithin_2, if_pos (show nI 0 ≤ 2 by decide)]
    unfold fX5_zerosWithin_28 fX5_zerosWithin_88
    rw [if_neg (show ¬ nI 0 = 2 by decide), if_pos (show nI 0 = 0 from rfl), if_pos zb1]
    exact ⟨X, rfl, hc⟩
  | succ d ih =>
    intro n X P h1 h2 hc hP
    obtain ⟨n, rfl⟩ : ∃ z, n = z + 1 := ⟨n - 1, by omega⟩
    rw [fX5_zerosWithin_2]
    rcases (show d = 0 ∨ d = 1 ∨ 2 ≤ d by omega) with rfl | rfl | hd
    · rw [if_pos (show nI (0 + 1) ≤ 2 by decide)]
      unfold fX5_zerosWithin_28 fX5_zerosWithin_88
      rw [if_neg (show ¬ nI (0 + 1) = 2 by decide), if_neg (show ¬ nI (0 + 1) = 0 by decide), less_x (d := 1) (by omega) hP, Option.bind_some]
      unfold stz
      by_cases c : ab (P 0) < ab (P 1)
      · simp only [if_pos c, if_neg one_ne, if_pos zb1]
        exact ⟨X, rfl, hc⟩
      · simp only [if_neg c, if_true, if_pos zb0]
        exact ⟨X, rfl, hc⟩
    · rw [if_pos (show nI (1 + 1) ≤ 2 by decide)]
      unfold fX5_zerosWithin_28 fX5_zerosWithin_88
      have z0 : (0 : Int32).toNatClampNeg = 0 := by decide
      have z1 : (1 : Int32).toNatClampNeg = 1 := by decide
      have z2 : (2 : Int32).toNatClampNeg = 2 := by decide
      rw [if_pos (show nI (1 + 1) = 2 by decide), show fX5_lastIsLess 2 X = _ from less_x (d := 2) (by omega) hP, Option.bind_some]
      unfold stz
      by_cases c : ab (P 0) < ab (P 2)
      · simp only [if_pos c, if_neg one_ne, if_pos zb1, if_pos zb0, if_pos (show ixok 1 5 = true by decide), if_pos (show ixok 2 5 = true by decide), if_pos (show ixok 0 5 = true by decide), z0, z1, z2, ab_x, hP 0 (by omega), hP 1 (by omega), hP 2 (by omega)]
        by_cases c2 : ab (P 2 + P 0) ≤ ab (P 1)
        · simp only [if_pos c2]
          exact ⟨X, rfl, hc⟩
        · simp only [if_neg c2]
          exact ⟨X, rfl, hc⟩
      · simp only [if_neg c, if_true, if_pos zb0]
        exact ⟨X, rfl, hc⟩
    · obtain ⟨e, rfl⟩ : ∃ e, d = e + 2 := ⟨d - 2, by omega⟩
      rw [if_neg (lit_gt (v := 2) (a := 2) (b := e + 2 + 1) rfl (by omega) (by omega)), less_x (d := e + 2 + 1) (by omega) hP, Option.bind_some]
      show ∃ X', _ = some (if ab (P 0) < ab (P (e + 3)) then stz (e + 2) (low P (e + 3)) else 0, X') ∧ _
      by_cases c : ab (P 0) < ab (P (e + 2 + 1))
      · simp only [if_pos c, if_neg one_ne]
        unfold fX5_lower
        have hP' : ∀ j, j < 5 → gB X 28 j = gB X 28 j := fun _ _ => rfl
        obtain ⟨X1, E1, C1, L1⟩ := low_x (x := x) (P := gB X 28) (d := e + 2 + 1) (by omega) (by omega) 200 0 X (by omega) (by omega) hc hP' (fun j hj => absurd hj (Nat.not_lt_zero _))
        rw [show fX5_lower_2 200 (nI (e + 2 + 1)) 0 X = some X1 from E1, Option.bind_some]
        obtain ⟨X2, E2, C2⟩ := ih n X1 (low P (e + 3)) (by omega) (by omega) C1 (fun j hj => by
          rw [L1 j (by omega)]
          exact low_ext hP (by omega))
        rw [show nI (e + 2 + 1) + (-1) = nI (e + 2) from pk_m1 (e + 2)]
        exact ⟨X2, E2, C2⟩
      · simp only [if_neg c, if_true, if_pos zb0]
        exact ⟨X, rfl, hc⟩
def stv (f : Nat → Int32) (g : Int32) : Int32 := match dg (pol f g) 5 with
  | none => 0
  | some d => stz d (pol f g)
theorem stz01 : ∀ (d : Nat) (P : Nat → Int64), stz d P = 0 ∨ stz d P = 1
  | 0, _ => Or.inr rfl
  | 1, P => by unfold stz; split <;> simp
  | 2, P => by
    unfold stz
    split
    · split <;> simp
    · simp
  | d + 3, P => by
    unfold stz
    split
    · exact stz01 (d + 2) _
    · simp
theorem steady_x (x : ST) (g : Int32) : ∃ X', fX5_isSteady g x = some (stv (gA x 27) g, X') ∧ cs x X' := by
  unfold fX5_isSteady
  obtain ⟨X1, E1, C1, P1⟩ := ev_x (x := x) (g := g) 200 0 x (by omega) (by omega) cs.rf (fun j hj => absurd hj (Nat.not_lt_zero _))
  rw [show fX5_isSteady_2 200 g 0 x = _ from E1]
  unfold fX5_isSteady_43
  have E2 := dg_x (X := X1) P1 5 200 (by omega) (by omega)
  rw [show fX5_isSteady_45 200 4 X1 = _ from E2]
  unfold fX5_isSteady_66 stv
  cases hd : dg (pol (gA x 27) g) 5 with
  | none =>
    rw [if_pos (show cd none < 0 by decide), if_pos zb0]
    exact ⟨X1, rfl, C1⟩
  | some d =>
    have hlt := dg_lt hd
    rw [if_neg (show ¬ cd (some d) < 0 from nI_pos (by omega))]
    unfold fX5_zerosWithin
    obtain ⟨X2, E3, C2⟩ := zer_x (x := x) d 200 X1 (pol (gA x 27) g) (by omega) (by omega) C1 (fun j hj => P1 j (by omega))
    rw [show fX5_zerosWithin_2 200 (cd (some d)) X1 = _ from E3, Option.bind_some, if_pos zb0, if_pos zb1]
    show ∃ X', _ = some (stz d (pol (gA x 27) g), X') ∧ _
    rcases stz01 d (pol (gA x 27) g) with e | e
    · simp only [e, if_true]
      exact ⟨X2, rfl, C2⟩
    · simp only [e, if_neg one_ne]
      exact ⟨X2, rfl, C2⟩
-- the reference
theorem ev_m {m : ST} {g : Int32} : ∀ (n i : Nat) (M : ST), i ≤ 5 → 5 < n + i → cs m M → (∀ j, j < i → gB M 24 j = pol (gA m 23) g j) → ∃ M', fX12_isSteady_4 n g (cd (dg (pol (gA m 23) g) i)) (nI i) M = fX12_isSteady_62 (cd (dg (pol (gA m 23) g) 5)) M' ∧ cs m M' ∧ ∀ j, j < 5 → gB M' 24 j = pol (gA m 23) g j := by
  intro n
  induction n with
  | zero => intro i X h1 h2; omega
  | succ n ih =>
    intro i X h1 h2 hc hP
    rw [fX12_isSteady_4]
    by_cases q : 5 ≤ i
    · have : i = 5 := by omega
      subst this
      rw [if_pos (lit_le (v := 5) (a := 5) (b := 5) rfl (Nat.le_refl _) (by decide))]
      exact ⟨X, rfl, hc, hP⟩
    · rw [if_neg (lit_nle (v := 5) (a := 5) (b := i) rfl (by omega) (by decide)), show (5 : Int32) + nI i = nI (5 + i) from nI_add 5 i, if_pos (ix_nI (by omega) (by decide)), if_pos (ix_nI (by omega) (by decide)), if_pos (ix_nI (by omega) (by decide)), if_pos (ix_nI (by omega) (by decide)), cl_nI (show i < 2 ^ 31 by omega), cl_nI (show 5 + i < 2 ^ 31 by omega)]
      have hA : gA X 23 = gA m 23 := congrFun hc.2 23
      have e0 : 100 * (gA X 23 i).toInt64 + g.toInt64 * (gA X 23 (5 + i)).toInt64 = pol (gA m 23) g i := by
        unfold pol
        rw [hA]
      rw [e0]
      have hB : ∀ j, j < i + 1 → gB (sB X 24 (nI i) (pol (gA m 23) g i)) 24 j = pol (gA m 23) g j := by
        intro j hj
        unfold sB
        rw [gB_sH, updL_eq, cl_nI (by omega)]
        by_cases e : j = i
        · subst e; rw [if_pos rfl]
        · rw [if_neg e]; exact hP j (by omega)
      obtain ⟨M', E, C, P'⟩ := ih (i + 1) _ (by omega) (by omega) (hc.sB 24 (nI i) (pol (gA m 23) g i)) hB
      refine ⟨M', ?_, C, P'⟩
      rw [← E, hB i (by omega)]
      unfold fX12_isSteady_55
      rw [nI_1]
      conv => rhs; unfold dg
      by_cases c : pol (gA m 23) g i = 0
      · rw [if_pos c, if_pos c]
      · rw [if_neg c, if_neg c]
        rfl
theorem low_m {m : ST} {kb : Int32 → ST → Option (Int32 × ST)} {P : Nat → Int64} {d : Nat} (h1 : 1 ≤ d) (h4 : d ≤ 4) : ∀ (n i : Nat) (X : ST), i ≤ d → d < n + i → cs m X → (∀ j, j < 5 → gB X 24 j = P j) → (∀ j, j < i → gB X 25 j = low P d j) → ∃ X', fX12_isSteady_99 kb n (nI d) (nI i) X = fX12_isSteady_149 kb (nI d) X' ∧ cs m X' ∧ (∀ j, j < d → gB X' 25 j = low P d j) := by
  intro n
  induction n with
  | zero => intro i X h1 h2; omega
  | succ n ih =>
    intro i X h2 h3 hc hP hL
    rw [fX12_isSteady_99]
    by_cases q : d ≤ i
    · have : i = d := by omega
      subst this
      rw [if_pos (nI_le q (by omega))]
      exact ⟨X, rfl, hc, hL⟩
    · have z : (0 : Int32).toNatClampNeg = 0 := by decide
      have e1 : nI d - 1 - nI i = nI (d - 1 - i) := by
        rw [show (1 : Int32) = nI 1 from rfl, pk_sub (by omega), pk_sub (by omega)]
      rw [if_neg (nI_ge (by omega) (by omega)), e1, nI_1, if_pos (ix_nI (by omega) (by decide)), if_pos (ix_nI (by omega) (by decide)), if_pos (show ixok 0 5 = true by decide), if_pos (ix_nI (by omega) (by decide)), if_pos (ix_nI (by omega) (by decide)), z, cl_nI (show d < 2 ^ 31 by omega), cl_nI (show i + 1 < 2 ^ 31 by omega), cl_nI (show d - 1 - i < 2 ^ 31 by omega), hP d (by omega), hP (i + 1) (by omega), hP 0 (by omega), hP (d - 1 - i) (by omega)]
      refine ih (i + 1) _ (by omega) (by omega) (hc.sB _ _ _) (fun j hj => hP j hj) (fun j hj => ?_)
      unfold sB
      rw [gB_sH, updL_eq, cl_nI (by omega)]
      by_cases e : j = i
      · subst e
        rw [if_pos rfl]
        rfl
      · rw [if_neg e]
        exact hL j (by omega)
theorem cp_m {m : ST} {kb : Int32 → ST → Option (Int32 × ST)} {Q : Nat → Int64} {d : Nat} (h4 : d ≤ 3) : ∀ (n i : Nat) (X : ST), i ≤ d + 1 → d + 1 < n + i → cs m X → (∀ j, j ≤ d → gB X 25 j = Q j) → (∀ j, j < i → gB X 24 j = Q j) → ∃ X', fX12_isSteady_154 kb n (nI d) (nI i) X = kb (nI d) X' ∧ cs m X' ∧ (∀ j, j ≤ d → gB X' 24 j = Q j) := by
  intro n
  induction n with
  | zero => intro i X h1 h2; omega
  | succ n ih =>
    intro i X h2 h3 hc hP hL
    rw [fX12_isSteady_154]
    by_cases q : d < i
    · rw [if_pos (nI_lt q (by omega))]
      exact ⟨X, rfl, hc, fun j hj => hL j (by omega)⟩
    · rw [if_neg (nI_nlt (by omega) (by omega)), if_pos (ix_nI (by omega) (by decide)), if_pos (ix_nI (by omega) (by decide)), cl_nI (by omega), hP i (by omega), nI_1]
      refine ih (i + 1) _ (by omega) (by omega) (hc.sB _ _ _) (fun j hj => hP j hj) (fun j hj => ?_)
      unfold sB
      rw [gB_sH, updL_eq, cl_nI (by omega)]
      by_cases e : j = i
      · subst e; rw [if_pos rfl]
      · rw [if_neg e]; exact hL j (by omega)
theorem zer_m {m : ST} : ∀ (d n : Nat) (X : ST) (P : Nat → Int64), d ≤ 4 → d < n → cs m X → (∀ j, j ≤ d → gB X 24 j = P j) → ∃ X', fX12_isSteady_68 n (nI d) X = some (stz d P, X') ∧ cs m X' := by
  have z0 : (0 : Int32).toNatClampNeg = 0 := by decide
  have z1 : (1 : Int32).toNatClampNeg = 1 := by decide
  have z2 : (2 : Int32).toNatClampNeg = 2 := by decide
  intro d
  induction d with
  | zero =>
    intro n X P h1 h2 hc hP
    obtain ⟨n, rfl⟩ : ∃ z, n = z + 1 := ⟨n - 1, by omega⟩
    rw [fX12_isSteady_68, if_pos (show nI 0 ≤ 2 by decide)]
    unfold fX12_isSteady_180 fX12_isSteady_208 fX12_isSteady_242
    rw [if_pos (show nI 0 ≤ 0 by decide), if_pos (show nI 0 < 2 by decide), if_pos zb1]
    exact ⟨X, rfl, hc⟩
  | succ d ih =>
    intro n X P h1 h2 hc hP
    obtain ⟨n, rfl⟩ : ∃ z, n = z + 1 := ⟨n - 1, by omega⟩
    rw [fX12_isSteady_68]
    rcases (show d = 0 ∨ d = 1 ∨ 2 ≤ d by omega) with rfl | rfl | hd
    · rw [if_pos (show nI (0 + 1) ≤ 2 by decide)]
      unfold fX12_isSteady_180 fX12_isSteady_208 fX12_isSteady_242
      rw [if_neg (show ¬ nI (0 + 1) ≤ 0 by decide), if_pos (show ixok 0 5 = true by decide), size_m, Option.bind_some, if_pos (show ixok (nI (0 + 1)) 5 = true by decide), size_m, Option.bind_some, if_pos (show nI (0 + 1) < 2 by decide), z0, cl_nI (by decide), hP 0 (by omega), hP (0 + 1) (by omega), if_pos zb0, if_pos zb1]
      show ∃ X', _ = some (if ab (P 0) < ab (P 1) then 1 else 0, X') ∧ _
      by_cases c : ab (P 0) < ab (P 1)
      · rw [if_pos c, if_pos c]; exact ⟨X, rfl, hc⟩
      · rw [if_neg c, if_neg c]; exact ⟨X, rfl, hc⟩
    · rw [if_pos (show nI (1 + 1) ≤ 2 by decide)]
      unfold fX12_isSteady_180 fX12_isSteady_208 fX12_isSteady_242
      rw [if_neg (show ¬ nI (1 + 1) ≤ 0 by decide), if_pos (show ixok 0 5 = true by decide), size_m, Option.bind_some, if_pos (show ixok (nI (1 + 1)) 5 = true by decide), size_m, Option.bind_some, if_neg (show ¬ nI (1 + 1) < 2 by decide), if_pos (show ixok 1 5 = true by decide), size_m, Option.bind_some, if_pos (show ixok 2 5 = true by decide), size_m, Option.bind_some, z0, z1, z2, cl_nI (by decide), hP 0 (by omega), hP 1 (by omega), hP (1 + 1) (by omega), if_pos zb0, if_pos zb1]
      show ∃ X', (if ab (P 0) < ab (P 2) then if ixok 0 5 = true then if ab (P 2 + P 0) ≤ ab (P 1) then some ((0 : Int32), X) else some (1, X) else none else some (0, X)) = some (if ab (P 0) < ab (P 2) then (if ab (P 2 + P 0) ≤ ab (P 1) then 0 else 1) else 0, X') ∧ _
      rw [if_pos (show ixok 0 5 = true by decide)]
      by_cases c : ab (P 0) < ab (P 2)
      · rw [if_pos c, if_pos c]
        by_cases c2 : ab (P 2 + P 0) ≤ ab (P 1)
        · rw [if_pos c2, if_pos c2]; exact ⟨X, rfl, hc⟩
        · rw [if_neg c2, if_neg c2]; exact ⟨X, rfl, hc⟩
      · rw [if_neg c, if_neg c]; exact ⟨X, rfl, hc⟩
    · obtain ⟨e, rfl⟩ : ∃ e, d = e + 2 := ⟨d - 2, by omega⟩
      rw [if_neg (lit_gt (v := 2) (a := 2) (b := e + 2 + 1) rfl (by omega) (by omega)), if_pos (show ixok 0 5 = true by decide), size_m, Option.bind_some, if_pos (ix_nI (by omega) (by decide)), size_m, Option.bind_some, z0, cl_nI (by omega), hP 0 (by omega), hP (e + 2 + 1) (by omega), if_pos zb0]
      show ∃ X', _ = some (if ab (P 0) < ab (P (e + 3)) then stz (e + 2) (low P (e + 3)) else 0, X') ∧ _
      by_cases c : ab (P 0) < ab (P (e + 2 + 1))
      · simp only [if_pos c]
        have hP' : ∀ j, j < 5 → gB X 24 j = gB X 24 j := fun _ _ => rfl
        obtain ⟨X1, E1, C1, L1⟩ := low_m (m := m) (kb := fX12_isSteady_68 n) (P := gB X 24) (d := e + 2 + 1) (by omega) (by omega) 200 0 X (by omega) (by omega) hc hP' (fun j hj => absurd hj (Nat.not_lt_zero _))
        rw [show fX12_isSteady_99 (fX12_isSteady_68 n) 200 (nI (e + 2 + 1)) 0 X = _ from E1]
        unfold fX12_isSteady_149
        rw [show nI (e + 2 + 1) + (-1) = nI (e + 2) from pk_m1 (e + 2)]
        obtain ⟨X2, E2, C2, L2⟩ := cp_m (m := m) (kb := fX12_isSteady_68 n) (Q := low P (e + 3)) (d := e + 2) (by omega) 200 0 X1 (by omega) (by omega) C1 (fun j hj => by
          rw [L1 j (by omega)]
          exact low_ext hP (by omega)) (fun j hj => absurd hj (Nat.not_lt_zero _))
        rw [show fX12_isSteady_154 (fX12_isSteady_68 n) 200 (nI (e + 2)) 0 X1 = _ from E2]
        exact ih n X2 (low P (e + 3)) (by omega) (by omega) C2 L2
      · simp only [if_neg c]
        exact ⟨X, rfl, hc⟩
theorem steady_m (m : ST) (g : Int32) : ∃ X', fX12_isSteady g m = some (stv (gA m 23) g, X') ∧ cs m X' := by
  unfold fX12_isSteady
  obtain ⟨X1, E1, C1, P1⟩ := ev_m (m := m) (g := g) 200 0 m (by omega) (by omega) cs.rf (fun j hj => absurd hj (Nat.not_lt_zero _))
  rw [show fX12_isSteady_4 200 g (-1) 0 m = _ from E1]
  unfold fX12_isSteady_62 stv
  cases hd : dg (pol (gA m 23) g) 5 with
  | none =>
    rw [if_neg (show ¬ 0 ≤ cd none by decide), if_pos zb0]
    exact ⟨X1, rfl, C1⟩
  | some d =>
    have hlt := dg_lt hd
    rw [if_pos (show 0 ≤ cd (some d) from nI_pos' (by omega))]
    exact zer_m (m := m) d 200 X1 (pol (gA m 23) g) (by omega) (by omega) C1 (fun j hj => P1 j (by omega))
theorem dg_ext {P Q : Nat → Int64} : ∀ k : Nat, (∀ j, j < k → P j = Q j) → dg P k = dg Q k
  | 0, _ => rfl
  | k + 1, h => by
    unfold dg
    rw [h k (by omega), dg_ext k (fun j hj => h j (by omega))]
theorem stv_ext {f f' : Nat → Int32} (h : ∀ j, j < 10 → f j = f' j) (g : Int32) : stv f g = stv f' g := by
  have hP : ∀ j, j < 5 → pol f g j = pol f' g j := fun j hj => by
    unfold pol
    rw [h j (by omega), h (5 + j) (by omega)]
  unfold stv
  rw [dg_ext 5 hP]
  cases hd : dg (pol f' g) 5 with
  | none => rfl
  | some d => exact stz_ext d (fun j hj => hP j (by have := dg_lt hd; omega))
theorem Rel_stv {k : Nat} {x m : ST} (h : Rel k x m) (g : Int32) : stv (gA x 27) g = stv (gA m 23) g := by
  obtain ⟨g1, g2, g3, g4, g5, g6, g7, g8, g9, g10, g11, g12, g13⟩ := h
  exact stv_ext (fun j hj => (g12 j hj).1) g
theorem stv01 (f : Nat → Int32) (g : Int32) : stv f g = 0 ∨ stv f g = 1 := by
  unfold stv
  cases dg (pol f g) 5 with
  | none => exact Or.inl rfl
  | some d => exact stz01 d _
theorem op_steady {k : Nat} {x m : ST} (h : Rel k x m) (hk : k < 512) (v1 : Int32) : Ans (k + 1) (fX11_steady v1 x) (fX12_steady v1 m) := by
  unfold fX11_steady fX12_steady
  simp only [wi, in_eq 0 100 0 100 rfl rfl, Option.bind_some]
  rcases wb_c v1 0 100 with e1 | ⟨e1, l1, u1⟩
  · simp only [e1, if_true]
    exact ⟨_, _, _, rfl, rfl, h.mono⟩
  simp only [e1, if_neg one_ne]
  obtain ⟨X, E, C⟩ := steady_x x v1
  obtain ⟨M, E', C'⟩ := steady_m m v1
  rw [E, E', Rel_stv h, Option.bind_some, Option.bind_some]
  have hR := Rel_cs h.mono C C'
  rcases stv01 (gA m 23) v1 with e | e
  · simp only [e, if_true]; exact ⟨_, _, _, rfl, rfl, hR⟩
  · simp only [e, if_neg one_ne]; exact ⟨_, _, _, rfl, rfl, hR⟩
theorem unst {k : Nat} : ∀ (n : Nat) (x m : ST) (a b : Nat), Rel k x m → b ≤ 100 → b + 1 < n + a → a ≤ b + 1 → Ans k (fX11_unsteady_24 n (nI b) (nI a) x) (fX12_unsteady_27 n (nI b) (nI a) m) := by
  intro n
  induction n with
  | zero => 
    intro x m a b h hb h2 ha
    omega
  | succ n ih =>
    intro x m a b h hb h2 ha
    rw [fX11_unsteady_24, fX12_unsteady_27]
    by_cases c : b < a
    · rw [if_pos (nI_lt c (by omega)), if_pos (nI_lt c (by omega))]
      exact ⟨_, _, _, rfl, rfl, h⟩
    · rw [if_neg (nI_nlt (by omega) (by omega)), if_neg (nI_nlt (by omega) (by omega))]
      obtain ⟨X, E, C⟩ := steady_x x (nI a)
      obtain ⟨M, E', C'⟩ := steady_m m (nI a)
      rw [E, E', Rel_stv h, Option.bind_some, Option.bind_some, nI_1]
      have hR := Rel_cs h C C'
      rcases stv01 (gA m 23) (nI a) with e | e
      · simp only [e, if_true]; exact ⟨_, _, _, rfl, rfl, hR⟩
      · simp only [e, if_neg one_ne]
        exact ih X M (a + 1) b hR hb (by omega) (by omega)
theorem op_unsteady {k : Nat} {x m : ST} (h : Rel k x m) (hk : k < 512) (v1 v2 : Int32) : Ans (k + 1) (fX11_unsteady v1 v2 x) (fX12_unsteady v1 v2 m) := by
  have z0 : (0 : Int32).toInt = 0 := by decide
  have z100 : (100 : Int32).toInt = 100 := by decide
  unfold fX11_unsteady fX12_unsteady
  simp only [wi, in_eq 0 v2 0 _ rfl rfl, in_eq 0 100 0 100 rfl rfl, Option.bind_some]
  by_cases c : 0 ≤ v1.toInt ∧ v1.toInt ≤ v2.toInt ∧ v2.toInt ≤ 100
  · rw [wb_1 (v := v1) (lo := 0) (hi := 100) (by omega) (by omega), wb_1 (v := v2) (lo := v1) (hi := 100) (by omega) (by omega), wb_1 (v := v1) (lo := 0) (hi := v2) (by omega) (by omega), wb_1 (v := v2) (lo := 0) (hi := 100) (by omega) (by omega)]
    simp only [if_neg one_ne]
    have e1 := nI_of_toInt (v := v1) c.1
    have e2 := nI_of_toInt (v := v2) (by omega)
    have b1 : v1.toInt.toNat ≤ 100 := by omega
    have b2 : v2.toInt.toNat ≤ 100 := by omega
    generalize v1.toInt.toNat = a at e1 b1
    generalize v2.toInt.toNat = b at e2 b2
    subst e1
    subst e2
    exact unst 200 x m a b h.mono b2 (by omega) (by rw [nI_toInt (by omega), nI_toInt (by omega)] at c; omega)
  · have hL : wb v1 0 100 = 0 ∨ (wb v1 0 100 = 1 ∧ wb v2 v1 100 = 0) := by
      rcases wb_c v1 0 100 with e | ⟨e, l1, u1⟩
      · exact Or.inl e
      · refine Or.inr ⟨e, wb_0 (by omega)⟩
    have hM : wb v1 0 v2 = 0 ∨ (wb v1 0 v2 = 1 ∧ wb v2 0 100 = 0) := by
      rcases wb_c v1 0 v2 with e | ⟨e, l1, u1⟩
      · exact Or.inl e
      · refine Or.inr ⟨e, wb_0 (by omega)⟩
    have E1 : (if wb v1 0 100 = 0 then some ((-1 : Int32), x) else if wb v2 v1 100 = 0 then some (-1, x) else fX11_unsteady_24 200 v2 v1 x) = some (-1, x) := by
      rcases hL with e | ⟨e, e'⟩
      · rw [if_pos e]
      · rw [e, if_neg one_ne, if_pos e']
    have E2 : (if wb v1 0 v2 = 0 then some ((-1 : Int32), m) else if wb v2 0 100 = 0 then some (-1, m) else fX12_unsteady_27 200 v2 v1 m) = some (-1, m) := by
      rcases hM with e | ⟨e, e'⟩
      · rw [if_pos e]
      · rw [e, if_neg one_ne, if_pos e']
    rw [E1, E2]
    exact ⟨_, _, _, rfl, rfl, h.mono⟩

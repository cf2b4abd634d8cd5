/-! what a call may write without changing what Rel looks at -/
def sXi : Nat → Bool := fun i => i == 0 || i == 3 || i == 4 || i == 12
def sXa : Nat → Bool := fun a => a == 12 || a == 13 || a == 14 || a == 15 || a == 16 || a == 17 || a == 18 || a == 19 || a == 21 || a == 22 || a == 23 || a == 24 || a == 28 || a == 29 || a == 38 || a == 39 || a == 40
def sMi : Nat → Bool := fun i => i == 2 || i == 3
def sMa : Nat → Bool := fun a => a == 11 || a == 12 || a == 13 || a == 14 || a == 15 || a == 16 || a == 17 || a == 18 || a == 24 || a == 25
def fr (p q : Nat → Bool) (x y : ST) : Prop := (∀ i, p i = false → gI y i = gI x i) ∧ ∀ a, q a = false → gA y a = gA x a
abbrev csX (x y : ST) : Prop := fr sXi sXa x y
abbrev csM (x y : ST) : Prop := fr sMi sMa x y
theorem fr.rf {p q : Nat → Bool} {x : ST} : fr p q x x := ⟨fun _ _ => rfl, fun _ _ => rfl⟩
theorem fr.tr {p q : Nat → Bool} {x y z : ST} (h : fr p q x y) (h2 : fr p q y z) : fr p q x z := ⟨fun i hi => (h2.1 i hi).trans (h.1 i hi), fun a ha => (h2.2 a ha).trans (h.2 a ha)⟩
theorem fr.sF {p q : Nat → Bool} {x y : ST} (h : fr p q x y) {k : Nat} (hk : q k = true) (f : Nat → Int32) : fr p q x (sF y k f) := by
  refine ⟨h.1, fun a ha => ?_⟩
  rw [← h.2 a ha]
  have : a ≠ k := by
    intro e; rw [e, hk] at ha; cases ha
  show va_up y.2.2.1 k f a = _
  simp [va_up, this]
theorem fr.sA {p q : Nat → Bool} {x y : ST} (h : fr p q x y) {k : Nat} (hk : q k = true) (i v : Int32) : fr p q x (sA y k i v) := h.sF hk _
theorem fr.sI {p q : Nat → Bool} {x y : ST} (h : fr p q x y) {k : Nat} (hk : p k = true) (v : Int32) : fr p q x (sI y k v) := by
  refine ⟨fun a ha => ?_, h.2⟩
  rw [← h.1 a ha]
  have : a ≠ k := by
    intro e; rw [e, hk] at ha; cases ha
  show va_up y.1 k v a = _
  simp [va_up, this]
theorem fr.sL {p q : Nat → Bool} {x y : ST} (h : fr p q x y) (k : Nat) (v : Int64) : fr p q x (sL y k v) := h
theorem fr.sH {p q : Nat → Bool} {x y : ST} (h : fr p q x y) (k : Nat) (f : Nat → Int64) : fr p q x (sH y k f) := h
theorem fr.sB {p q : Nat → Bool} {x y : ST} (h : fr p q x y) (k : Nat) (i : Int32) (v : Int64) : fr p q x (sB y k i v) := h
theorem Rel_fr {k : Nat} {x m x' m' : ST} (h : Rel k x m) (hx : csX x x') (hm : csM m m') : Rel k x' m' := by
  unfold Rel at h ⊢
  rw [hx.1 11 rfl, hx.1 9 rfl, hx.1 10 rfl, hx.1 5 rfl, hx.1 6 rfl, hx.1 7 rfl, hx.1 8 rfl, hx.1 1 rfl, hx.1 2 rfl,
    hm.1 0 rfl, hm.1 1 rfl, hm.1 4 rfl, hm.1 5 rfl, hm.1 6 rfl, hm.1 7 rfl, hm.1 8 rfl,
    hx.2 36 rfl, hx.2 37 rfl, hx.2 32 rfl, hx.2 41 rfl, hx.2 42 rfl, hx.2 43 rfl, hx.2 44 rfl, hx.2 45 rfl, hx.2 46 rfl, hx.2 30 rfl, hx.2 31 rfl, hx.2 20 rfl, hx.2 27 rfl, hx.2 25 rfl, hx.2 26 rfl, hx.2 33 rfl, hx.2 34 rfl, hx.2 35 rfl,
    hm.2 1 rfl, hm.2 2 rfl, hm.2 4 rfl, hm.2 5 rfl, hm.2 6 rfl, hm.2 3 rfl, hm.2 7 rfl, hm.2 8 rfl, hm.2 9 rfl, hm.2 10 rfl, hm.2 19 rfl, hm.2 20 rfl, hm.2 21 rfl, hm.2 22 rfl, hm.2 23 rfl, hm.2 26 rfl, hm.2 27 rfl, hm.2 28 rfl, hm.2 29 rfl, hm.2 30 rfl]
  exact h
/-! spots: light, lost, middle -/
def lg (f : Nat → Int32) (D : Int32) (s i : Nat) : Int32 := if 0 < f (16 * s + i) - D then f (16 * s + i) - D else 0
def wg (s i : Nat) : Nat := if s % 2 = 0 then i % 4 else i / 4
def al (f : Nat → Int32) (D : Int32) (s : Nat) : Nat → Int32
  | 0 => 0
  | n + 1 => al f D s n + lg f D s n
def wt (f : Nat → Int32) (D : Int32) (s : Nat) : Nat → Int32
  | 0 => 0
  | n + 1 => wt f D s n + nI (wg s n) * lg f D s n
def lo (f : Nat → Int32) (D M : Int32) (s : Nat) : Int32 := if M ≤ al f D s 16 then 0 else 1
def md (f : Nat → Int32) (D : Int32) (s : Nat) : Int32 := 1000 * wt f D s 16 / al f D s 16
theorem lg_b {f : Nat → Int32} {D : Int32} {s i : Nat} (h : inb (f (16 * s + i)) 0 255) (hD : inb D 0 255) : inb (lg f D s i) 0 255 := by
  obtain ⟨h1, h2⟩ := h
  obtain ⟨h3, h4⟩ := hD
  have e : (f (16 * s + i) - D).toInt = (f (16 * s + i)).toInt - D.toInt := ti_sub (by omega) (by omega)
  unfold lg inb
  have z : (0 : Int32).toInt = 0 := by decide
  by_cases c : 0 < f (16 * s + i) - D
  · rw [if_pos c]
    rw [Int32.lt_iff_toInt_lt] at c
    omega
  · rw [if_neg c]; omega
theorem al_b {f : Nat → Int32} {D : Int32} {s : Nat} (hD : inb D 0 255) : ∀ n : Nat, n ≤ 16 → (∀ i, i < n → inb (f (16 * s + i)) 0 255) → 0 ≤ (al f D s n).toInt ∧ (al f D s n).toInt ≤ 255 * n ∧ 0 ≤ (wt f D s n).toInt ∧ (wt f D s n).toInt ≤ 3 * (al f D s n).toInt
  | 0, _, _ => ⟨show (0 : Int) ≤ (0 : Int32).toInt by decide, show (0 : Int32).toInt ≤ 255 * ((0 : Nat) : Int) by decide, show (0 : Int) ≤ (0 : Int32).toInt by decide, show (0 : Int32).toInt ≤ 3 * (0 : Int32).toInt by decide⟩
  | n + 1, h, hf => by
    obtain ⟨h1, h2, h3, h4⟩ := al_b (f := f) (s := s) hD n (by omega) (fun i hi => hf i (by omega))
    obtain ⟨l1, l2⟩ := lg_b (hf n (by omega)) hD
    have w3 : wg s n ≤ 3 := by unfold wg; split <;> omega
    unfold al wt
    have e1 : (nI (wg s n) * lg f D s n).toInt = (wg s n : Int) * (lg f D s n).toInt := by
      have b1 : (0 : Int) ≤ (wg s n : Int) * (lg f D s n).toInt := Int.mul_nonneg (by omega) l1
      have b2 : (wg s n : Int) * (lg f D s n).toInt ≤ 3 * (lg f D s n).toInt := Int.mul_le_mul_of_nonneg_right (by omega) l1
      rw [ti_mul, nI_toInt (by omega)]
      · rw [nI_toInt (by omega)]; omega
      · rw [nI_toInt (by omega)]; omega
    have b1 : (0 : Int) ≤ (wg s n : Int) * (lg f D s n).toInt := Int.mul_nonneg (by omega) l1
    have b2 : (wg s n : Int) * (lg f D s n).toInt ≤ 3 * (lg f D s n).toInt := Int.mul_le_mul_of_nonneg_right (by omega) l1
    rw [ti_add (by omega) (by omega), ti_add (by omega) (by omega), e1]
    refine ⟨by omega, by omega, by omega, by omega⟩
theorem par2 (s : Nat) (hs : s < 8) : nI s - nI s / 2 * 2 = nI (s % 2) := pk_rem (d := 2) (by omega) (by decide) (by decide)
theorem par4 (s : Nat) (hs : s < 16) : nI s - nI s / 4 * 4 = nI (s % 4) := pk_rem (d := 4) (by omega) (by decide) (by decide)
theorem div4 : ∀ s, s < 16 → nI s / 4 = nI (s / 4) := by decide
theorem lg_m {m : ST} {s i : Nat} (hs : s < 8) (hi : i < 16) : fX12_lightOf (nI s) (nI i) m = some (lg (gA m 1) (gA m 4 0) s i, m) := by
  unfold fX12_lightOf lg
  have e0 : (0 : Int32).toNatClampNeg = 0 := by decide
  rw [i16', if_pos (ix_nI (by omega) (by decide)), if_pos (show ixok 0 7 = true by decide), cl_nI (by omega), e0]
  by_cases c : gA m 1 (16 * s + i) - gA m 4 0 ≤ 0
  · rw [if_pos c, if_neg (Int32.not_lt.mpr c)]
  · rw [if_neg c, if_pos (Int32.not_le.mp c)]
theorem al_m {m : ST} {s : Nat} (hs : s < 8) : ∀ n i : Nat, i ≤ 16 → 16 < n + i → fX12_allLight_4 n (nI s) (al (gA m 1) (gA m 4 0) s i) (nI i) m = some (al (gA m 1) (gA m 4 0) s 16, m) := by
  intro n
  induction n with
  | zero => intro i h1 h2; omega
  | succ n ih =>
    intro i h1 h2
    rw [fX12_allLight_4]
    by_cases q : 16 ≤ i
    · have : i = 16 := by omega
      subst this
      rw [if_pos (lit_le (v := 16) (a := 16) (b := 16) rfl (Nat.le_refl _) (by decide))]
    · rw [if_neg (lit_nle (v := 16) (a := 16) (b := i) rfl (by omega) (by decide)), lg_m hs (by omega), Option.bind_some, nI_1]
      exact ih (i + 1) (by omega) (by omega)
theorem all_m {m : ST} {s : Nat} (hs : s < 8) : fX12_allLight (nI s) m = some (al (gA m 1) (gA m 4 0) s 16, m) := by
  unfold fX12_allLight
  exact al_m hs 200 0 (by omega) (by omega)
theorem lo_m {m : ST} {s : Nat} (hs : s < 8) : fX12_isLost (nI s) m = some (lo (gA m 1) (gA m 4 0) (gA m 4 1) s, m) := by
  unfold fX12_isLost lo
  have e1 : (1 : Int32).toNatClampNeg = 1 := by decide
  rw [all_m hs, Option.bind_some]
  simp only [e1]
  rw [if_pos (show ixok 1 7 = true by decide), if_pos zb0, if_pos zb1]
  by_cases c : gA m 4 1 ≤ al (gA m 1) (gA m 4 0) s 16
  · rw [if_pos c, if_pos c]
  · rw [if_neg c, if_neg c]
theorem wt_m {m : ST} {s : Nat} (hs : s < 8) : ∀ n i : Nat, i ≤ 16 → 16 < n + i → fX12_middleOf_4 n (nI s) (wt (gA m 1) (gA m 4 0) s i) (nI i) m = fX12_middleOf_41 (nI s) (wt (gA m 1) (gA m 4 0) s 16) m := by
  intro n
  induction n with
  | zero => intro i h1 h2; omega
  | succ n ih =>
    intro i h1 h2
    rw [fX12_middleOf_4]
    by_cases q : 16 ≤ i
    · have : i = 16 := by omega
      subst this
      rw [if_pos (lit_le (v := 16) (a := 16) (b := 16) rfl (Nat.le_refl _) (by decide))]
    · have ih2 := ih (i + 1) (by omega) (by omega)
      rw [if_neg (lit_nle (v := 16) (a := 16) (b := i) rfl (by omega) (by decide)), if_neg (show ¬ (2 : Int32) = 0 by decide), if_neg (show ¬ (4 : Int32) = 0 by decide), par2 s hs, par4 i (by omega), div4 i (by omega)]
      unfold fX12_middleOf_26
      rw [lg_m hs (by omega), Option.bind_some, Option.bind_some, nI_1]
      rw [wt] at ih2
      unfold wg at ih2
      by_cases c : s % 2 = 0
      · rw [c, if_pos (show nI 0 = 0 from rfl)]
        rw [if_pos c] at ih2
        exact ih2
      · have : s % 2 = 1 := by omega
        rw [this, if_neg (show ¬ nI 1 = 0 by decide)]
        rw [if_neg c] at ih2
        exact ih2
theorem md_m {m : ST} {s : Nat} (hs : s < 8) (h0 : ¬ al (gA m 1) (gA m 4 0) s 16 = 0) : fX12_middleOf (nI s) m = some (md (gA m 1) (gA m 4 0) s, m) := by
  unfold fX12_middleOf
  rw [show fX12_middleOf_4 200 (nI s) 0 0 m = _ from wt_m hs 200 0 (by omega) (by omega)]
  unfold fX12_middleOf_41
  rw [all_m hs, Option.bind_some]
  simp only [if_neg h0]
  rfl
theorem sl_m {m : ST} {s : Nat} (hs : s < 8) (h0 : ¬ al (gA m 1) (gA m 4 0) s 16 = 0) : fX12_slopeOf (nI s) m = some (md (gA m 1) (gA m 4 0) s - gA m 2 s, m) := by
  unfold fX12_slopeOf
  rw [md_m hs h0, Option.bind_some, if_pos (ix_nI hs (by decide)), cl_nI (by omega)]
/-- where nothing is lost the light isn't 0 -/
theorem lo_0 {f : Nat → Int32} {D M : Int32} {s : Nat} (hM : 1 ≤ M.toInt) (h : lo f D M s = 0) : 1 ≤ (al f D s 16).toInt := by
  unfold lo at h
  by_cases c : M ≤ al f D s 16
  · rw [Int32.le_iff_toInt_le] at c; omega
  · rw [if_neg c] at h; exact absurd h (by decide)
theorem md_b {f : Nat → Int32} {D M : Int32} {s : Nat} (hD : inb D 0 255) (hf : ∀ i, i < 16 → inb (f (16 * s + i)) 0 255) : inb (md f D s) 0 3000 := by
  obtain ⟨h1, h2, h3, h4⟩ := al_b (f := f) (s := s) hD 16 (by omega) hf
  have k : (1000 : Int32).toInt = 1000 := by decide
  have e : (1000 * wt f D s 16).toInt = 1000 * (wt f D s 16).toInt := by
    rw [ti_mul, k]
    · rw [k]; omega
    · rw [k]; omega
  unfold md inb
  rw [ti_div (by omega), e, Int.tdiv_eq_ediv_of_nonneg (by omega)]
  by_cases c : (al f D s 16).toInt = 0
  · rw [c, Int.ediv_zero]; omega
  · refine ⟨Int.ediv_nonneg (by omega) h1, ?_⟩
    have : 1000 * (wt f D s 16).toInt / (al f D s 16).toInt < 3001 := Int.ediv_lt_of_lt_mul (by omega) (by omega)
    omega
-- the class
theorem one_x {x : ST} {s : Nat} {D : Int32} (hs : s < 8) : ∀ n i : Nat, i ≤ 16 → 16 < n + i → fX9_measureOne_8 n (nI s) D (al (gA x 36) D s i) (wt (gA x 36) D s i) (nI i) x = fX9_measureOne_71 (nI s) (al (gA x 36) D s 16) (wt (gA x 36) D s 16) x := by
  intro n
  induction n with
  | zero => intro i h1 h2; omega
  | succ n ih =>
    intro i h1 h2
    rw [fX9_measureOne_8]
    by_cases q : 16 ≤ i
    · have : i = 16 := by omega
      subst this
      rw [if_pos (lit_le (v := 16) (a := 16) (b := 16) rfl (Nat.le_refl _) (by decide))]
    · have ih2 := ih (i + 1) (by omega) (by omega)
      rw [if_neg (lit_nle (v := 16) (a := 16) (b := i) rfl (by omega) (by decide)), i16, if_pos (ix_nI (by omega) (by decide)), if_neg (show ¬ (2 : Int32) = 0 by decide), if_neg (show ¬ (4 : Int32) = 0 by decide), par2 s hs, par4 i (by omega), div4 i (by omega), cl_nI (by omega)]
      unfold fX9_measureOne_61
      rw [show (if 0 < gA x 36 (16 * s + i) - D then gA x 36 (16 * s + i) - D else 0) = lg (gA x 36) D s i from rfl, nI_1]
      rw [al, wt] at ih2
      unfold wg at ih2
      by_cases c : s % 2 = 0
      · rw [c, if_pos (show nI 0 = 0 from rfl), Int32.mul_comm]
        rw [if_pos c] at ih2
        exact ih2
      · have : s % 2 = 1 := by omega
        rw [this, if_neg (show ¬ nI 1 = 0 by decide), Int32.mul_comm]
        rw [if_neg c] at ih2
        exact ih2
def mdx (f : Nat → Int32) (D : Int32) (s : Nat) : Int32 := if al f D s 16 ≤ 0 then 0 else md f D s
theorem one_x' {x : ST} {s : Nat} {D : Int32} (hs : s < 8) : fX9_measureOne (nI s) D x = some (sA (sA x 38 (nI s) (al (gA x 36) D s 16)) 39 (nI s) (mdx (gA x 36) D s)) := by
  unfold fX9_measureOne
  rw [show fX9_measureOne_8 200 (nI s) D 0 0 0 x = _ from one_x hs 200 0 (by omega) (by omega)]
  unfold fX9_measureOne_71 fX11_cut mdx
  rw [if_pos (ix_nI hs (by decide))]
  by_cases c : al (gA x 36) D s 16 ≤ 0
  · rw [if_pos c, if_pos c, Option.bind_some, if_pos (ix_nI hs (by decide))]
  · have c2 : ¬ al (gA x 36) D s 16 = 0 := by intro e; rw [e] at c; exact c (by decide)
    rw [if_neg c, if_neg c2, if_neg c, Option.bind_some, if_pos (ix_nI hs (by decide))]
    rfl
theorem meas_x {x : ST} {S : Nat} {D M : Int32} (hS : S ≤ 8) (es : gI x 11 = nI S) : ∀ n t : Nat, t ≤ S → S < n + t → ∀ y : ST, csX x y → (∀ q, q < t → gA y 38 q = al (gA x 36) D q 16 ∧ gA y 39 q = mdx (gA x 36) D q ∧ gA y 40 q = lo (gA x 36) D M q) → gI y 12 = psum (lo (gA x 36) D M) t →
    ∃ y', fX9_measure_7 n D M (nI t) y = some y' ∧ csX x y' ∧ (∀ q, q < S → gA y' 38 q = al (gA x 36) D q 16 ∧ gA y' 39 q = mdx (gA x 36) D q ∧ gA y' 40 q = lo (gA x 36) D M q) ∧ gI y' 12 = psum (lo (gA x 36) D M) S := by
  intro n
  induction n with
  | zero => intro i h1 h2; omega
  | succ n ih =>
    intro t h1 h2 y hf hq hl
    rw [fX9_measure_7, hf.1 11 rfl, es]
    by_cases c : S ≤ t
    · have : t = S := by omega
      subst this
      rw [if_pos (nI_le c (by omega))]
      exact ⟨y, rfl, hf, hq, hl⟩
    · rw [if_neg (nI_ge (by omega) (by omega)), one_x' (by omega), Option.bind_some, if_pos (ix_nI (by omega) (by decide)), hf.2 36 rfl, cl_nI (by omega)]
      generalize hz : sA (sA y 38 (nI t) (al (gA x 36) D t 16)) 39 (nI t) (mdx (gA x 36) D t) = z
      have z38 : gA z 38 = upd (gA y 38) t (al (gA x 36) D t 16) := by
        rw [← hz]; show upd (gA y 38) (nI t).toNatClampNeg _ = _; rw [cl_nI (by omega)]
      have z39 : gA z 39 = upd (gA y 39) t (mdx (gA x 36) D t) := by
        rw [← hz]; show upd (gA y 39) (nI t).toNatClampNeg _ = _; rw [cl_nI (by omega)]
      have z40 : gA z 40 = gA y 40 := by rw [← hz]; rfl
      have z12 : gI z 12 = gI y 12 := by rw [← hz]; rfl
      have zf : csX x z := by rw [← hz]; exact (hf.sA rfl _ _).sA rfl _ _
      have key : ∀ b : Int32, (b = 0 ∨ b = 1) → lo (gA x 36) D M t = b → ∃ y', fX9_measure_41 (fX9_measure_7 n) D M (nI t) b (nI t) z = some y' ∧ csX x y' ∧ (∀ q, q < S → gA y' 38 q = al (gA x 36) D q 16 ∧ gA y' 39 q = mdx (gA x 36) D q ∧ gA y' 40 q = lo (gA x 36) D M q) ∧ gI y' 12 = psum (lo (gA x 36) D M) S := by
        intro b hb hlo
        have hn : vp_nar .boolean b = b := by rcases hb with rfl | rfl; exact nar0; exact nar1
        unfold fX9_measure_41 fX9_measure_61
        rw [if_pos (ix_nI (by omega) (by decide)), hn, cl_nI (by omega), nI_1]
        have e40 : gA (sA z 40 (nI t) b) 40 = upd (gA y 40) t b := by
          rw [← z40]; show upd (gA z 40) (nI t).toNatClampNeg _ = _; rw [cl_nI (by omega)]
        rw [e40, upd_s]
        have fin : ∃ y', fX9_measure_7 n D M (nI (t + 1)) (sI (sA z 40 (nI t) b) 12 (gI z 12 + b)) = some y' ∧ csX x y' ∧ (∀ q, q < S → gA y' 38 q = al (gA x 36) D q 16 ∧ gA y' 39 q = mdx (gA x 36) D q ∧ gA y' 40 q = lo (gA x 36) D M q) ∧ gI y' 12 = psum (lo (gA x 36) D M) S := by
          apply ih (t + 1) (by omega) (by omega) _ ((zf.sA rfl _ _).sI rfl _)
          · intro q hq'
            show gA z 38 q = _ ∧ gA z 39 q = _ ∧ gA (sA z 40 (nI t) b) 40 q = _
            rw [z38, z39, e40, upd_eq, upd_eq, upd_eq]
            by_cases e : q = t
            · subst e
              rw [if_pos rfl, if_pos rfl, if_pos rfl]
              exact ⟨rfl, rfl, hlo.symm⟩
            · rw [if_neg e, if_neg e, if_neg e]
              exact hq q (by omega)
          · show gI z 12 + b = psum (lo (gA x 36) D M) t + lo (gA x 36) D M t
            rw [z12, hl, hlo]
        rcases hb with rfl | rfl
        · rw [if_pos (ix_nI (by omega) (by decide)), if_pos rfl]; exact fin
        · rw [if_pos (ix_nI (by omega) (by decide)), if_neg one_ne]; exact fin
      rw [z38, upd_s]
      by_cases d : M ≤ al (gA x 36) D t 16
      · rw [if_pos d]
        exact key 0 (Or.inl rfl) (by unfold lo; rw [if_pos d])
      · rw [if_neg d]
        exact key 1 (Or.inr rfl) (by unfold lo; rw [if_neg d])
theorem measure_x {x : ST} {S : Nat} {D M : Int32} (hS : S ≤ 8) (es : gI x 11 = nI S) : ∃ y', fX9_measure D M x = some y' ∧ csX x y' ∧ (∀ q, q < S → gA y' 38 q = al (gA x 36) D q 16 ∧ gA y' 39 q = mdx (gA x 36) D q ∧ gA y' 40 q = lo (gA x 36) D M q) ∧ gI y' 12 = psum (lo (gA x 36) D M) S := by
  unfold fX9_measure
  exact meas_x hS es 200 0 (by omega) (by omega) (sI x 12 0) (fr.rf.sI rfl _) (fun q h => absurd h (Nat.not_lt_zero q)) rfl
theorem al_c {f g : Nat → Int32} {D : Int32} {s : Nat} : ∀ {n : Nat}, (∀ i, i < n → f (16 * s + i) = g (16 * s + i)) → al f D s n = al g D s n ∧ wt f D s n = wt g D s n
  | 0, _ => ⟨rfl, rfl⟩
  | n + 1, h => by
    obtain ⟨h1, h2⟩ := al_c (D := D) (n := n) (fun i hi => h i (by omega))
    unfold al wt lg
    rw [h1, h2, h n (by omega)]
    exact ⟨rfl, rfl⟩
theorem lo_01 (f : Nat → Int32) (D M : Int32) (s : Nat) : lo f D M s = 0 ∨ lo f D M s = 1 := by
  unfold lo
  split
  · exact Or.inl rfl
  · exact Or.inr rfl
theorem op_spot {k : Nat} {x m : ST} (h : Rel k x m) (hk : k < 512) (v1 v2 : Int32) : Ans (k + 1) (fX11_spot v1 v2 x) (fX12_spot v1 v2 m) := by
  have hm := h.mono
  obtain ⟨s, s1, s8, ex, em⟩ := h.s
  have hs := nI_m1 (n := s) (by omega)
  obtain ⟨g1, g2, g3, g4, g5⟩ := h
  unfold fX11_spot fX12_spot
  simp only [isSpot_x, isSpot_m, ex, em, wi, in_eq 0 3 0 3 rfl rfl, Option.bind_some]
  rcases wb_n v1 _ s hs with e1 | ⟨e1, l, hl, rfl⟩
  · simp only [e1, if_true]
    exact ⟨_, _, _, rfl, rfl, hm⟩
  simp only [e1, if_neg one_ne]
  rcases wb_n v2 3 4 (by decide) with e2 | ⟨e2, w, hw, rfl⟩
  · simp only [e2, if_true]
    exact ⟨_, _, _, rfl, rfl, hm⟩
  simp only [e2, if_neg one_ne]
  have e0 : (0 : Int32).toNatClampNeg = 0 := by decide
  have e1' : (1 : Int32).toNatClampNeg = 1 := by decide
  unfold fX7_get
  simp only [if_pos (show ixok 0 7 = true by decide), if_pos (show ixok 1 7 = true by decide), Option.bind_some, e0, e1', (g4 0 (by omega)).1, (g4 1 (by omega)).1]
  obtain ⟨y, Y1, Y2, Y3, Y4⟩ := measure_x (x := x) (D := gA m 4 0) (M := gA m 4 1) s8 ex
  rw [Y1, Option.bind_some]
  obtain ⟨y38, y39, y40⟩ := Y3 l hl
  have hc := al_c (f := gA x 36) (g := gA m 1) (D := gA m 4 0) (s := l) (n := 16) (fun i hi => (g2 (16 * l + i) (by omega)).1)
  have clo : lo (gA x 36) (gA m 4 0) (gA m 4 1) l = lo (gA m 1) (gA m 4 0) (gA m 4 1) l := by unfold lo; rw [hc.1]
  have cmd : md (gA x 36) (gA m 4 0) l = md (gA m 1) (gA m 4 0) l := by unfold md; rw [hc.1, hc.2]
  rw [hc.1] at y38
  rw [clo] at y40
  have hM : 1 ≤ (gA m 4 1).toInt := (g4 1 (by omega)).2.2.2.1
  unfold fX9_isLost fX9_lightOf fX9_middleOf fX9_slopeOf
  have hzb : zb01 (lo (gA m 1) (gA m 4 0) (gA m 4 1) l) = true := by
    rcases lo_01 (gA m 1) (gA m 4 0) (gA m 4 1) l with e | e <;> rw [e]
    · exact zb0
    · exact zb1
  simp only [if_pos (ix_nI (show l < 8 by omega) (by decide)), cl_nI (show l < 2 ^ 31 by omega), y38, y40, if_pos hzb, Option.bind_some, lo_m (m := m) (show l < 8 by omega), all_m (m := m) (show l < 8 by omega)]
  have hr : Rel (k + 1) y m := Rel_fr hm Y2 fr.rf
  have hmd : lo (gA m 1) (gA m 4 0) (gA m 4 1) l = 0 → ¬ al (gA m 1) (gA m 4 0) l 16 = 0 ∧ gA y 39 l = md (gA m 1) (gA m 4 0) l := by
    intro e
    have := lo_0 hM e
    refine ⟨?_, ?_⟩
    · intro e'; rw [e'] at this; exact absurd this (by decide)
    · rw [y39]
      unfold mdx
      rw [cmd, hc.1, if_neg]
      rw [Int32.le_iff_toInt_le]
      have z : (0 : Int32).toInt = 0 := by decide
      omega
  rcases (show w = 0 ∨ w = 1 ∨ w = 2 ∨ w = 3 by omega) with rfl | rfl | rfl | rfl
  · rw [if_pos (show nI 0 = 0 from rfl), if_neg (show ¬ 2 ≤ nI 0 by decide), if_pos (show nI 0 = 0 from rfl)]
    exact ⟨_, _, _, rfl, rfl, hr⟩
  · rw [if_neg (show ¬ nI 1 = 0 by decide), if_pos (show nI 1 = 1 from rfl), if_neg (show ¬ 2 ≤ nI 1 by decide), if_neg (show ¬ nI 1 = 0 by decide)]
    by_cases c : lo (gA m 1) (gA m 4 0) (gA m 4 1) l = 0
    · rw [if_pos c, if_pos c]
      exact ⟨_, _, _, rfl, rfl, hr⟩
    · rw [if_neg c, if_neg c]
      exact ⟨_, _, _, rfl, rfl, hr⟩
  · rw [if_neg (show ¬ nI 2 = 0 by decide), if_neg (show ¬ nI 2 = 1 by decide), if_pos (show nI 2 = 2 from rfl), if_pos (show 2 ≤ nI 2 by decide), if_pos (show nI 2 = 2 from rfl)]
    by_cases c : lo (gA m 1) (gA m 4 0) (gA m 4 1) l = 0
    · rw [if_pos c, if_pos c, md_m (by omega) (hmd c).1, (hmd c).2]
      exact ⟨_, _, _, rfl, rfl, hr⟩
    · rw [if_neg c, if_neg c]
      exact ⟨_, _, _, rfl, rfl, hr⟩
  · rw [if_neg (show ¬ nI 3 = 0 by decide), if_neg (show ¬ nI 3 = 1 by decide), if_neg (show ¬ nI 3 = 2 by decide), if_pos (show 2 ≤ nI 3 by decide), if_neg (show ¬ nI 3 = 2 by decide)]
    by_cases c : lo (gA m 1) (gA m 4 0) (gA m 4 1) l = 0
    · rw [if_pos c, if_pos c, sl_m (by omega) (hmd c).1, (hmd c).2, Y2.2 37 rfl, (g3 l (by omega)).1]
      exact ⟨_, _, _, rfl, rfl, hr⟩
    · rw [if_neg c, if_neg c]
      exact ⟨_, _, _, rfl, rfl, hr⟩

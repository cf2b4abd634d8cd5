/-! guess -/
def gsum (f g : Nat → Int32) (a b sh : Nat) : Nat → Int64
  | 0 => 0
  | n + 1 => gsum f g a b sh n + ab ((f (40 * a + n)).toInt64 - (g (40 * b + (n + sh) % 32)).toInt64)
theorem apart_x {x : ST} {a b sh : Nat} (ha : a < 4) (hb : b < 4) (hs : sh < 32) : ∀ n i : Nat, i ≤ 32 → 32 < n + i → fX8_apart_6 n (nI a) (nI b) (nI sh) (gsum (gA x 35) (gA x 35) a b sh i) (nI i) x = some (gsum (gA x 35) (gA x 35) a b sh 32, x) := by
  intro n
  induction n with
  | zero => intro i h1 h2; omega
  | succ n ih =>
    intro i h1 h2
    rw [fX8_apart_6]
    by_cases q : 32 ≤ i
    · have : i = 32 := by omega
      subst this
      rw [if_pos (lit_le (v := 32) (a := 32) (b := 32) rfl (Nat.le_refl _) (by decide))]
    · have hm : (i + sh) % 32 < 32 := Nat.mod_lt _ (by decide)
      have e1 : (nI i + nI sh) - (nI i + nI sh) / 32 * 32 = nI ((i + sh) % 32) := by
        rw [nI_add]
        exact pk_rem (d := 32) (by omega) (by decide) (by decide)
      rw [if_neg (lit_nle (v := 32) (a := 32) (b := i) rfl (by omega) (by decide))]
      unfold fX8_at
      rw [i40, if_pos (ix_nI (by omega) (by decide)), Option.bind_some, if_neg (show ¬ (32 : Int32) = 0 by decide), e1, i40, if_pos (ix_nI (by omega) (by decide)), Option.bind_some]
      simp only [cl_nI (show 40 * a + i < 2 ^ 31 by omega), cl_nI (show 40 * b + (i + sh) % 32 < 2 ^ 31 by omega), ab_x, nI_1]
      exact ih (i + 1) (by omega) (by omega)
theorem gsum_m {m : ST} {kb : Int32 → Int32 → Int32 → Int64 → Int32 → ST → Option (Int32 × ST)} {a b sh : Nat} {v4 : Int32} {v5 : Int64} (ha : a < 4) (hb : b < 4) (hs : sh < 32) : ∀ n i : Nat, i ≤ 32 → 32 < n + i → fX12_guess_115 kb n (nI a) (nI b) v4 v5 (nI sh) (gsum (gA m 30) (gA m 30) a b sh i) (nI i) m = fX12_guess_169 kb (nI a) (nI b) v4 v5 (nI sh) (gsum (gA m 30) (gA m 30) a b sh 32) m := by
  intro n
  induction n with
  | zero => intro i h1 h2; omega
  | succ n ih =>
    intro i h1 h2
    rw [fX12_guess_115]
    by_cases q : 32 ≤ i
    · have : i = 32 := by omega
      subst this
      rw [if_pos (lit_le (v := 32) (a := 32) (b := 32) rfl (Nat.le_refl _) (by decide))]
    · have hm : (i + sh) % 32 < 32 := Nat.mod_lt _ (by decide)
      have e1 : (nI i + nI sh) - (nI i + nI sh) / 32 * 32 = nI ((i + sh) % 32) := by
        rw [nI_add]
        exact pk_rem (d := 32) (by omega) (by decide) (by decide)
      rw [if_neg (lit_nle (v := 32) (a := 32) (b := i) rfl (by omega) (by decide)), i40', if_pos (ix_nI (by omega) (by decide)), if_neg (show ¬ (32 : Int32) = 0 by decide), e1, i40', if_pos (ix_nI (by omega) (by decide)), size_m, Option.bind_some, cl_nI (by omega), cl_nI (by omega), nI_1]
      exact ih (i + 1) (by omega) (by omega)
theorem gsum_eq {f g : Nat → Int32} {a b sh : Nat} (hf : ∀ i, i < 32 → f (40 * a + i) = g (40 * a + i)) (hg : ∀ i, i < 32 → f (40 * b + i) = g (40 * b + i)) : ∀ n : Nat, n ≤ 32 → gsum f f a b sh n = gsum g g a b sh n
  | 0, _ => rfl
  | n + 1, h => by
    unfold gsum
    rw [gsum_eq hf hg n (by omega), hf n (by omega), hg ((n + sh) % 32) (Nat.mod_lt _ (by decide))]
theorem ab_b {x y : Int32} : 0 ≤ (ab (x.toInt64 - y.toInt64)).toInt ∧ (ab (x.toInt64 - y.toInt64)).toInt ≤ 4294967295 := by
  have h1 := x.toInt_lt
  have h2 := x.le_toInt
  have h3 := y.toInt_lt
  have h4 := y.le_toInt
  have e : (x.toInt64 - y.toInt64).toInt = x.toInt - y.toInt := by
    rw [Int64.toInt_sub, Int32.toInt_toInt64, Int32.toInt_toInt64]
    exact bm64 (by omega) (by omega)
  unfold ab
  by_cases c : 0 ≤ x.toInt64 - y.toInt64
  · rw [if_pos c]
    rw [Int64.le_iff_toInt_le] at c
    have z : (0 : Int64).toInt = 0 := by decide
    omega
  · rw [if_neg c]
    rw [Int64.le_iff_toInt_le] at c
    have z : (0 : Int64).toInt = 0 := by decide
    rw [Int64.toInt_neg, e, bm64 (by omega) (by omega)]
    omega
theorem gsum_b {f g : Nat → Int32} {a b sh : Nat} : ∀ n : Nat, n ≤ 32 → 0 ≤ (gsum f g a b sh n).toInt ∧ (gsum f g a b sh n).toInt ≤ 4294967295 * n
  | 0, _ => ⟨by decide, by decide⟩
  | n + 1, h => by
    obtain ⟨h1, h2⟩ := gsum_b (f := f) (g := g) (a := a) (b := b) (sh := sh) n (by omega)
    obtain ⟨h3, h4⟩ := ab_b (x := f (40 * a + n)) (y := g (40 * b + (n + sh) % 32))
    unfold gsum
    rw [Int64.toInt_add, bm64 (by omega) (by omega)]
    exact ⟨by omega, by push_cast; omega⟩
/-- the best shift among the first n, and its sum -/
def best (S : Nat → Int64) : Nat → Nat × Int64
  | 0 => (0, S 0)
  | n + 1 => if (best S n).2 ≤ S (n + 1) then best S n else (n + 1, S (n + 1))
theorem guess_x {x : ST} {S : Nat → Int64} {a b : Nat} (hS : ∀ sh, sh < 32 → fX8_apart (nI a) (nI b) (nI sh) x = some (S sh, x)) : ∀ n i : Nat, i ≤ 31 → 31 < n + i → fX11_guess_55 n (nI a) (nI b) (nI (best S i).1) (best S i).2 (nI (i + 1)) x = some (nI (best S 31).1, x) := by
  intro n
  induction n with
  | zero => intro i h1 h2; omega
  | succ n ih =>
    intro i h1 h2
    rw [fX11_guess_55]
    by_cases q : 31 ≤ i
    · have : i = 31 := by omega
      subst this
      rw [if_pos (lit_le (v := 32) (a := 32) (b := 31 + 1) rfl (Nat.le_refl _) (by decide))]
    · rw [if_neg (lit_nle (v := 32) (a := 32) (b := i + 1) rfl (by omega) (by decide)), hS (i + 1) (by omega), Option.bind_some]
      unfold fX11_guess_91
      have ih2 := ih (i + 1) (by omega) (by omega)
      rw [nI_1]
      by_cases c : (best S i).2 ≤ S (i + 1)
      · rw [if_pos c]
        rw [best, if_pos c] at ih2
        exact ih2
      · rw [if_neg c]
        rw [best, if_neg c] at ih2
        exact ih2
theorem guess_m {m : ST} {S : Nat → Int64} {a b : Nat} (ha : a < 4) (hb : b < 4) (hS : ∀ sh, sh < 32 → gsum (gA m 30) (gA m 30) a b sh 32 = S sh) (h0 : ∀ sh, ¬ S sh < 0 ∨ 32 ≤ sh) : ∀ n i : Nat, i ≤ 31 → 31 < n + i → fX12_guess_102 n (nI a) (nI b) (nI (best S i).1) (best S i).2 (nI (i + 1)) m = some (nI (best S 31).1, m) := by
  have hpos : ∀ i, i ≤ 31 → ¬ (best S i).2 < 0 := by
    intro i
    induction i with
    | zero => intro _; rcases h0 0 with h | h; exact h; omega
    | succ i ih =>
      intro hi
      unfold best
      by_cases c : (best S i).2 ≤ S (i + 1)
      · rw [if_pos c]; exact ih (by omega)
      · rw [if_neg c]
        rcases h0 (i + 1) with h | h
        · exact h
        · omega
  intro n
  induction n with
  | zero => intro i h1 h2; omega
  | succ n ih =>
    intro i h1 h2
    rw [fX12_guess_102]
    by_cases q : 31 ≤ i
    · have : i = 31 := by omega
      subst this
      rw [if_pos (lit_le (v := 32) (a := 32) (b := 31 + 1) rfl (Nat.le_refl _) (by decide))]
    · rw [if_neg (lit_nle (v := 32) (a := 32) (b := i + 1) rfl (by omega) (by decide))]
      have G := gsum_m (m := m) (kb := fX12_guess_102 n) (a := a) (b := b) (sh := i + 1) (v4 := nI (best S i).1) (v5 := (best S i).2) ha hb (by omega) 200 0 (by omega) (by omega)
      rw [show fX12_guess_115 (fX12_guess_102 n) 200 (nI a) (nI b) (nI (best S i).1) (best S i).2 (nI (i + 1)) 0 0 m = _ from G, hS (i + 1) (by omega)]
      unfold fX12_guess_169 fX12_guess_184 fX12_guess_192
      have ih2 := ih (i + 1) (by omega) (by omega)
      rw [if_neg (hpos i (by omega)), nI_1]
      by_cases c : (best S i).2 ≤ S (i + 1)
      · rw [if_pos c]
        rw [best, if_pos c] at ih2
        exact ih2
      · rw [if_neg c]
        rw [best, if_neg c] at ih2
        exact ih2
/-- the earlier of two refusals, as the reference tells it -/
theorem earlier_x (p q : Int32) : fX11_earlier p q = some (if p = 0 then q else if q = 0 then p else if p < q then q else p) := by
  unfold fX11_earlier
  by_cases c : p = 0
  · rw [if_pos c, if_pos c]
  · rw [if_neg c, if_neg c]
    by_cases c2 : q = 0
    · rw [if_pos c2, if_pos c2]
    · rw [if_neg c2, if_neg c2]
theorem op_guess {k : Nat} {x m : ST} (h : Rel k x m) (hk : k < 512) (v1 v2 v3 : Int32) : Ans (k + 1) (fX11_guess v1 v2 v3 x) (fX12_guess v1 v2 v3 m) := by
  have hm := h.mono
  have hh := h
  obtain ⟨g1, g2, g3, g4, g5, g6, g7, g8, g9, g10, g11, g12, g13, g14, g15⟩ := h
  have e0 : fX8_refusal v1 v3 0 32 x = some (rfs m v1 v3 0 32, x) := refusal_x hh v1 v3 0 32 (by omega)
  have e0' : fX8_refusal v2 v3 0 32 x = some (rfs m v2 v3 0 32, x) := refusal_x hh v2 v3 0 32 (by omega)
  unfold fX11_guess fX12_guess
  simp only [e0, e0', isSheet_m, in_eq 0 3 0 3 rfl rfl, Option.bind_some, earlier_x]
  have hbad : ∀ q : Int32, rfs m v1 v3 0 32 = -1 ∨ rfs m v2 v3 0 32 = -1 → (if rfs m v1 v3 0 32 = 0 then rfs m v2 v3 0 32 else if rfs m v2 v3 0 32 = 0 then rfs m v1 v3 0 32 else if rfs m v1 v3 0 32 < rfs m v2 v3 0 32 then rfs m v2 v3 0 32 else rfs m v1 v3 0 32) = -1 := by
    intro _ hq
    rcases rfs_c m v1 v3 0 32 with a | a | a | a | a <;> rcases rfs_c m v2 v3 0 32 with b | b | b | b | b <;> rw [a, b] at hq ⊢ <;> first | decide | (exfalso; revert hq; decide)
  sorry

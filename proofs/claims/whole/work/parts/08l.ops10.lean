/-! guess -/
def gsum (f g : Nat → Int32) (a b sh : Nat) : Nat → Int64
  | 0 => 0
  | n + 1 => gsum f g a b sh n + ab ((f (40 * a + n)).toInt64 - (g (40 * b + (n + sh) % 32)).toInt64)
theorem apart_x {x : ST} {a b sh : Nat} (ha : a < 4) (hb : b < 4) (hs : sh < 32) : ∀ n i : Nat, i ≤ 32 → 32 < n + i → fX8_apart_6 n (nI a) (nI b) (nI sh) (gsum (gA x 35) (gA x 35) a b sh i) (nI i) x = some (gsum (gA x 35) (gA x 35) a b sh 32, x) := by
  intro n
  induction n with
  | zero => intro i h1 h2; omega
  | succ n ih =>
    intro i h1 h2
    rw [fX8_apart_6]
    by_cases q : 32 ≤ i
    · have : i = 32 := by omega
      subst this
      rw [if_pos (lit_le (v := 32) (a := 32) (b := 32) rfl (Nat.le_refl _) (by decide))]
    · have hm : (i + sh) % 32 < 32 := Nat.mod_lt _ (by decide)
      have e1 : (nI i + nI sh) - (nI i + nI sh) / 32 * 32 = nI ((i + sh) % 32) := by
        rw [nI_add]
        exact pk_rem (d := 32) (by omega) (by decide) (by decide)
      rw [if_neg (lit_nle (v := 32) (a := 32) (b := i) rfl (by omega) (by decide))]
      unfold fX8_at
      rw [i40, if_pos (ix_nI (by omega) (by decide)), Option.bind_some, if_neg (show ¬ (32 : Int32) = 0 by decide), e1, i40, if_pos (ix_nI (by omega) (by decide)), Option.bind_some]
      simp only [cl_nI (show 40 * a + i < 2 ^ 31 by omega), cl_nI (show 40 * b + (i + sh) % 32 < 2 ^ 31 by omega), ab_x, nI_1]
      exact ih (i + 1) (by omega) (by omega)
theorem gsum_m {m : ST} {kb : Int32 → Int32 → Int32 → Int64 → Int32 → ST → Option (Int32 × ST)} {a b sh : Nat} {v4 : Int32} {v5 : Int64} (ha : a < 4) (hb : b < 4) (hs : sh < 32) : ∀ n i : Nat, i ≤ 32 → 32 < n + i → fX12_guess_115 kb n (nI a) (nI b) v4 v5 (nI sh) (gsum (gA m 30) (gA m 30) a b sh i) (nI i) m = fX12_guess_169 kb (nI a) (nI b) v4 v5 (nI sh) (gsum (gA m 30) (gA m 30) a b sh 32) m := by
  intro n
  induction n with
  | zero => intro i h1 h2; omega
  | succ n ih =>
    intro i h1 h2
    rw [fX12_guess_115]
    by_cases q : 32 ≤ i
    · have : i = 32 := by omega
      subst this
      rw [if_pos (lit_le (v := 32) (a := 32) (b := 32) rfl (Nat.le_refl _) (by decide))]
    · have hm : (i + sh) % 32 < 32 := Nat.mod_lt _ (by decide)
      have e1 : (nI i + nI sh) - (nI i + nI sh) / 32 * 32 = nI ((i + sh) % 32) := by
        rw [nI_add]
        exact pk_rem (d := 32) (by omega) (by decide) (by decide)
      rw [if_neg (lit_nle (v := 32) (a := 32) (b := i) rfl (by omega) (by decide)), i40', if_pos (ix_nI (by omega) (by decide)), if_neg (show ¬ (32 : Int32) = 0 by decide), e1, i40', if_pos (ix_nI (by omega) (by decide)), size_m, Option.bind_some, cl_nI (by omega), cl_nI (by omega), nI_1]
      exact ih (i + 1) (by omega) (by omega)
theorem gsum_eq {f g : Nat → Int32} {a b sh : Nat} (hf : ∀ i, i < 32 → f (40 * a + i) = g (40 * a + i)) (hg : ∀ i, i < 32 → f (40 * b + i) = g (40 * b + i)) : ∀ n : Nat, n ≤ 32 → gsum f f a b sh n = gsum g g a b sh n
  | 0, _ => rfl
  | n + 1, h => by
    unfold gsum
    rw [gsum_eq hf hg n (by omega), hf n (by omega), hg ((n + sh) % 32) (Nat.mod_lt _ (by decide))]
theorem ab_b {x y : Int32} : 0 ≤ (ab (x.toInt64 - y.toInt64)).toInt ∧ (ab (x.toInt64 - y.toInt64)).toInt ≤ 4294967295 := by
  have h1 := x.toInt_lt
  have h2 := x.le_toInt
  have h3 := y.toInt_lt
  have h4 := y.le_toInt
  have e : (x.toInt64 - y.toInt64).toInt = x.toInt - y.toInt := by
    rw [Int64.toInt_sub, Int32.toInt_toInt64, Int32.toInt_toInt64]
    exact bm64 (by omega) (by omega)
  unfold ab
  by_cases c : 0 ≤ x.toInt64 - y.toInt64
  · rw [if_pos c]
    rw [Int64.le_iff_toInt_le] at c
    have z : (0 : Int64).toInt = 0 := by decide
    omega
  · rw [if_neg c]
    rw [Int64.le_iff_toInt_le] at c
    have z : (0 : Int64).toInt = 0 := by decide
    rw [Int64.toInt_neg, e, bm64 (by omega) (by omega)]
    omega
theorem gsum_b {f g : Nat → Int32} {a b sh : Nat} : ∀ n : Nat, n ≤ 32 → 0 ≤ (gsum f g a b sh n).toInt ∧ (gsum f g a b sh n).toInt ≤ 4294967295 * n
  | 0, _ => ⟨show (0:Int) ≤ (0:Int64).toInt by decide, show (0:Int64).toInt ≤ 4294967295 * ((0:Nat):Int) by decide⟩
  | n + 1, h => by
    obtain ⟨h1, h2⟩ := gsum_b (f := f) (g := g) (a := a) (b := b) (sh := sh) n (by omega)
    obtain ⟨h3, h4⟩ := ab_b (x := f (40 * a + n)) (y := g (40 * b + (n + sh) % 32))
    unfold gsum
    rw [Int64.toInt_add, bm64 (by omega) (by omega)]
    exact ⟨by omega, by push_cast; omega⟩
/-- the best shift among the first n, and its sum -/
def best (S : Nat → Int64) : Nat → Nat × Int64
  | 0 => (0, S 0)
  | n + 1 => if (best S n).2 ≤ S (n + 1) then best S n else (n + 1, S (n + 1))
theorem guess_x {x : ST} {S : Nat → Int64} {a b : Nat} (hS : ∀ sh, sh < 32 → fX8_apart (nI a) (nI b) (nI sh) x = some (S sh, x)) : ∀ n i : Nat, i ≤ 31 → 31 < n + i → fX11_guess_55 n (nI a) (nI b) (nI (best S i).1) (best S i).2 (nI (i + 1)) x = some (nI (best S 31).1, x) := by
  intro n
  induction n with
  | zero => intro i h1 h2; omega
  | succ n ih =>
    intro i h1 h2
    rw [fX11_guess_55]
    by_cases q : 31 ≤ i
    · have : i = 31 := by omega
      subst this
      rw [if_pos (lit_le (v := 32) (a := 32) (b := 31 + 1) rfl (Nat.le_refl _) (by decide))]
    · rw [if_neg (lit_nle (v := 32) (a := 32) (b := i + 1) rfl (by omega) (by decide)), hS (i + 1) (by omega), Option.bind_some]
      unfold fX11_guess_91
      have ih2 := ih (i + 1) (by omega) (by omega)
      rw [nI_1]
      by_cases c : (best S i).2 ≤ S (i + 1)
      · rw [if_pos c]
        rw [best, if_pos c] at ih2
        exact ih2
      · rw [if_neg c]
        rw [best, if_neg c] at ih2
        exact ih2
theorem guess_m {m : ST} {S : Nat → Int64} {a b : Nat} (ha : a < 4) (hb : b < 4) (hS : ∀ sh, sh < 32 → gsum (gA m 30) (gA m 30) a b sh 32 = S sh) (h0 : ∀ sh, ¬ S sh < 0 ∨ 32 ≤ sh) : ∀ n i : Nat, i ≤ 31 → 31 < n + i → fX12_guess_102 n (nI a) (nI b) (nI (best S i).1) (best S i).2 (nI (i + 1)) m = some (nI (best S 31).1, m) := by
  have hpos : ∀ i, i ≤ 31 → ¬ (best S i).2 < 0 := by
    intro i
    induction i with
    | zero => intro _; rcases h0 0 with h | h; exact h; omega
    | succ i ih =>
      intro hi
      unfold best
      by_cases c : (best S i).2 ≤ S (i + 1)
      · rw [if_pos c]; exact ih (by omega)
      · rw [if_neg c]
        rcases h0 (i + 1) with h | h
        · exact h
        · omega
  intro n
  induction n with
  | zero => intro i h1 h2; omega
  | succ n ih =>
    intro i h1 h2
    rw [fX12_guess_102]
    by_cases q : 31 ≤ i
    · have : i = 31 := by omega
      subst this
      rw [if_pos (lit_le (v := 32) (a := 32) (b := 31 + 1) rfl (Nat.le_refl _) (by decide))]
    · rw [if_neg (lit_nle (v := 32) (a := 32) (b := i + 1) rfl (by omega) (by decide))]
      have G := gsum_m (m := m) (kb := fX12_guess_102 n) (a := a) (b := b) (sh := i + 1) (v4 := nI (best S i).1) (v5 := (best S i).2) ha hb (by omega) 200 0 (by omega) (by omega)
      rw [show fX12_guess_115 (fX12_guess_102 n) 200 (nI a) (nI b) (nI (best S i).1) (best S i).2 (nI (i + 1)) 0 0 m = _ from G, hS (i + 1) (by omega)]
      unfold fX12_guess_169 fX12_guess_184 fX12_guess_192
      have ih2 := ih (i + 1) (by omega) (by omega)
      rw [if_neg (hpos i (by omega)), nI_1]
      by_cases c : (best S i).2 ≤ S (i + 1)
      · rw [if_pos c]
        rw [best, if_pos c] at ih2
        exact ih2
      · rw [if_neg c]
        rw [best, if_neg c] at ih2
        exact ih2
/-- the earlier of two refusals, as the reference tells it -/
theorem earlier_x (p q : Int32) : fX11_earlier p q = some (if p = 0 then q else if q = 0 then p else if p < q then q else p) := by
  unfold fX11_earlier
  by_cases c : p = 0
  · rw [if_pos c, if_pos c]
  · rw [if_neg c, if_neg c]
    by_cases c2 : q = 0
    · rw [if_pos c2, if_pos c2]
    · rw [if_neg c2, if_neg c2]
theorem rfs_val {k : Nat} {x m : ST} (h : Rel k x m) {j : Nat} (hj : j < 4) {v : Int32} (hv : wb v 0 2 = 1) : (gA m 28 j < 0 ∧ rfs m (nI j) v 0 32 = -11) ∨ (¬ gA m 28 j < 0 ∧ 0 ≤ gA m 28 j ∧ ¬ gA m 28 j = v ∧ rfs m (nI j) v 0 32 = -12) ∨ (¬ gA m 28 j < 0 ∧ 0 ≤ gA m 28 j ∧ gA m 28 j = v ∧ gA m 29 j < 32 ∧ ¬ 32 ≤ gA m 29 j ∧ rfs m (nI j) v 0 32 = -13) ∨ (¬ gA m 28 j < 0 ∧ 0 ≤ gA m 28 j ∧ gA m 28 j = v ∧ ¬ gA m 29 j < 32 ∧ 32 ≤ gA m 29 j ∧ rfs m (nI j) v 0 32 = 0) := by
  obtain ⟨g1, g2, g3, g4, g5, g6, g7, g8, g9, g10, g11, g12, g13, g14, g15⟩ := h
  have hw : wb (nI j) 0 3 = 1 := wb_1 (by rw [nI_toInt (by omega)]; exact Int.natCast_nonneg j) (by rw [nI_toInt (by omega)]; show (j : Int) ≤ 3; omega)
  have e : rfs m (nI j) v 0 32 = if gA m 28 j = v then (if wb 0 0 (gA m 29 j - 32) = 0 then -13 else 0) else if 0 ≤ gA m 28 j then -12 else -11 := by
    unfold rfs
    rw [hw, hv, if_neg one_ne, if_neg one_ne, cl_nI (by omega)]
  rcases wb_c v 0 2 with c | ⟨-, l2, u2⟩
  · rw [hv] at c; exact absurd c one_ne
  have z0 : (0 : Int32).toInt = 0 := by decide
  rcases g15 j hj with ⟨q1, q2⟩ | ⟨n, n40, q1, q2, q3, q4, q5⟩
  · left
    have hne : ¬ (-1 : Int32) = v := by
      intro e
      rw [← e] at l2
      exact absurd l2 (by decide)
    rw [e, q2, if_neg hne]
    exact ⟨by decide, by decide⟩
  · right
    have h0 : (0 : Int32) ≤ gA m 28 j := by
      rw [le0]; exact q4.1
    have h0' : ¬ gA m 28 j < 0 := by
      rw [lt0]; have := q4.1; omega
    by_cases c1 : gA m 28 j = v
    · right
      have hsub : (nI n - nI 32).toInt = (n : Int) - 32 := pk_sub_toInt (by omega) (by omega)
      have h32 : (32 : Int32).toInt = 32 := by decide
      have hn : (nI n).toInt = n := nI_toInt (by omega)
      rw [e, if_pos c1, q2]
      by_cases c2 : n < 32
      · left
        refine ⟨h0', h0, c1, by rw [Int32.lt_iff_toInt_lt]; omega, by rw [Int32.le_iff_toInt_le]; omega, ?_⟩
        rw [show (32 : Int32) = nI 32 from rfl, wb_0 (Or.inr (by rw [hsub, z0]; omega)), if_pos rfl]
      · right
        refine ⟨h0', h0, c1, by rw [Int32.lt_iff_toInt_lt]; omega, by rw [Int32.le_iff_toInt_le]; omega, ?_⟩
        rw [show (32 : Int32) = nI 32 from rfl, wb_1 (by omega) (by rw [hsub, z0]; omega), if_neg one_ne]
    · left
      rw [e, if_neg c1, if_pos h0]
      exact ⟨h0', h0, c1, rfl⟩
theorem op_guess {k : Nat} {x m : ST} (h : Rel k x m) (hk : k < 512) (v1 v2 v3 : Int32) : Ans (k + 1) (fX11_guess v1 v2 v3 x) (fX12_guess v1 v2 v3 m) := by
  have hm := h.mono
  have hh := h
  have e0 : fX8_refusal v1 v3 0 32 x = some (rfs m v1 v3 0 32, x) := refusal_x hh v1 v3 0 32 (by omega)
  have e0' : fX8_refusal v2 v3 0 32 x = some (rfs m v2 v3 0 32, x) := refusal_x hh v2 v3 0 32 (by omega)
  unfold fX11_guess fX12_guess
  simp only [e0, e0', isSheet_m, in_eq 0 3 0 3 rfl rfl, Option.bind_some, earlier_x]
  have hbad : rfs m v1 v3 0 32 = -1 ∨ rfs m v2 v3 0 32 = -1 → (if rfs m v1 v3 0 32 = 0 then rfs m v2 v3 0 32 else if rfs m v2 v3 0 32 = 0 then rfs m v1 v3 0 32 else if rfs m v1 v3 0 32 < rfs m v2 v3 0 32 then rfs m v2 v3 0 32 else rfs m v1 v3 0 32) = -1 := by
    intro hq
    rcases rfs_c m v1 v3 0 32 with a | a | a | a | a <;> rcases rfs_c m v2 v3 0 32 with b | b | b | b | b <;> rw [a, b] at hq ⊢ <;> first | decide | (exfalso; revert hq; decide)
  by_cases c1 : (if wb v1 0 3 = 0 then (0 : Int32) else if wb v3 0 2 = 0 then 0 else 1) = 0
  · rw [hbad (Or.inl (rfs_bad c1)), if_neg (by decide), if_pos c1]
    exact ⟨_, _, _, rfl, rfl, hm⟩
  rw [if_neg c1]
  obtain ⟨w1, w3⟩ := rfs_good c1
  rcases wb_n v2 3 4 (by decide) with c2 | ⟨c2, b, hb, rfl⟩
  · have : rfs m v2 v3 0 32 = -1 := by unfold rfs; rw [if_pos c2]
    rw [hbad (Or.inr this), if_neg (by decide), if_pos c2]
    exact ⟨_, _, _, rfl, rfl, hm⟩
  rw [if_neg (show ¬ wb (nI b) 0 3 = 0 by rw [c2]; exact one_ne)]
  rcases wb_n v1 3 4 (by decide) with c3 | ⟨c3, a, ha, rfl⟩
  · rw [w1] at c3; exact absurd c3 one_ne
  simp only [if_pos (ix_nI (show a < 4 from ha) (by decide)), if_pos (ix_nI (show b < 4 from hb) (by decide)), cl_nI (show a < 2 ^ 31 by omega), cl_nI (show b < 2 ^ 31 by omega)]
  rcases rfs_val hh ha w3 with ⟨a1, a2⟩ | ⟨a1, a2, a3, a4⟩ | ⟨a1, a2, a3, a4, a5, a6⟩ | ⟨a1, a2, a3, a4, a5, a6⟩
  · rw [a2, if_pos a1]
    rcases rfs_c m (nI b) v3 0 32 with e | e | e | e | e
    · rw [e]; exact ⟨_, _, _, rfl, rfl, hm⟩
    · rcases rfs_val hh hb w3 with ⟨b1, b2⟩ | ⟨b1, b2, b3, b4⟩ | ⟨b1, b2, b3, b4, b5, b6⟩ | ⟨b1, b2, b3, b4, b5, b6⟩ <;> exfalso
      · rw [e] at b2; exact absurd b2 (by decide)
      · rw [e] at b4; exact absurd b4 (by decide)
      · rw [e] at b6; exact absurd b6 (by decide)
      · rw [e] at b6; exact absurd b6 (by decide)
    · rw [e]; exact ⟨_, _, _, rfl, rfl, hm⟩
    · rw [e]; exact ⟨_, _, _, rfl, rfl, hm⟩
    · rw [e]; exact ⟨_, _, _, rfl, rfl, hm⟩
  · rw [a4, if_neg a1, if_neg a3]
    rcases rfs_val hh hb w3 with ⟨b1, b2⟩ | ⟨b1, b2, b3, b4⟩ | ⟨b1, b2, b3, b4, b5, b6⟩ | ⟨b1, b2, b3, b4, b5, b6⟩
    · rw [b2, if_neg (show ¬ 0 ≤ gA m 28 b by rw [le0]; rw [lt0] at b1; omega)]; exact ⟨_, _, _, rfl, rfl, hm⟩
    · rw [b4, if_pos b2]; exact ⟨_, _, _, rfl, rfl, hm⟩
    · rw [b6, if_pos b2]; exact ⟨_, _, _, rfl, rfl, hm⟩
    · rw [b6, if_pos b2]; exact ⟨_, _, _, rfl, rfl, hm⟩
  · rw [a6, if_neg a1, if_pos a3, if_pos a4]
    rcases rfs_val hh hb w3 with ⟨b1, b2⟩ | ⟨b1, b2, b3, b4⟩ | ⟨b1, b2, b3, b4, b5, b6⟩ | ⟨b1, b2, b3, b4, b5, b6⟩
    · rw [b2, if_neg (show ¬ 0 ≤ gA m 28 b by rw [le0]; rw [lt0] at b1; omega)]; exact ⟨_, _, _, rfl, rfl, hm⟩
    · rw [b4, if_pos b2, if_neg b3]; exact ⟨_, _, _, rfl, rfl, hm⟩
    · rw [b6, if_pos b2, if_pos b3]; exact ⟨_, _, _, rfl, rfl, hm⟩
    · rw [b6, if_pos b2, if_pos b3]; exact ⟨_, _, _, rfl, rfl, hm⟩
  · rw [a6, if_neg a1, if_pos a3, if_neg a4]
    rcases rfs_val hh hb w3 with ⟨b1, b2⟩ | ⟨b1, b2, b3, b4⟩ | ⟨b1, b2, b3, b4, b5, b6⟩ | ⟨b1, b2, b3, b4, b5, b6⟩
    · rw [b2, if_neg (show ¬ 0 ≤ gA m 28 b by rw [le0]; rw [lt0] at b1; omega)]; exact ⟨_, _, _, rfl, rfl, hm⟩
    · rw [b4, if_pos b2, if_neg b3]; exact ⟨_, _, _, rfl, rfl, hm⟩
    · rw [b6, if_pos b2, if_pos b3, if_neg b5]; exact ⟨_, _, _, rfl, rfl, hm⟩
    · rw [b6, if_pos b2, if_pos b3, if_pos b5]
      rw [if_pos rfl, if_pos rfl]
      obtain ⟨j1, n1, i1, hj1, ev1, -, hn1, hn1', -, -, -, -, -, hq1⟩ := rfs_ok hh (v1 := nI a) (v2 := v3) (v3 := 0) (c := 32) (by omega) a6
      obtain ⟨j2, n2, i2, hj2, ev2, -, hn2, hn2', -, -, -, -, -, hq2⟩ := rfs_ok hh (v1 := nI b) (v2 := v3) (v3 := 0) (c := 32) (by omega) b6
      have ej1 : j1 = a := by
        have := congrArg Int32.toInt ev1
        rw [nI_toInt (by omega), nI_toInt (by omega)] at this
        omega
      have ej2 : j2 = b := by
        have := congrArg Int32.toInt ev2
        rw [nI_toInt (by omega), nI_toInt (by omega)] at this
        omega
      rw [ej1] at hq1
      rw [ej2] at hq2
      have hS : ∀ sh, sh < 32 → fX8_apart (nI a) (nI b) (nI sh) x = some (gsum (gA m 30) (gA m 30) a b sh 32, x) := by
        intro sh hsh
        unfold fX8_apart
        rw [show fX8_apart_6 200 (nI a) (nI b) (nI sh) 0 0 x = _ from apart_x ha hb hsh 200 0 (by omega) (by omega)]
        rw [gsum_eq (fun i hi => hq1 i (by omega)) (fun i hi => hq2 i (by omega)) 32 (by omega)]
      have h0 : ∀ sh, ¬ gsum (gA m 30) (gA m 30) a b sh 32 < 0 := by
        intro sh hc
        rw [Int64.lt_iff_toInt_lt] at hc
        have := (gsum_b (f := gA m 30) (g := gA m 30) (a := a) (b := b) (sh := sh) 32 (by omega)).1
        have z : (0 : Int64).toInt = 0 := by decide
        omega
      rw [show (0 : Int32) = nI 0 from rfl, hS 0 (by omega), Option.bind_some]
      have E1 := guess_x (S := fun sh => gsum (gA m 30) (gA m 30) a b sh 32) hS 200 0 (by omega) (by omega)
      rw [show fX11_guess_55 200 (nI a) (nI b) (nI 0) (gsum (gA m 30) (gA m 30) a b 0 32, x).fst 1 (gsum (gA m 30) (gA m 30) a b 0 32, x).snd = _ from E1]
      have E2 := guess_m (m := m) (S := fun sh => gsum (gA m 30) (gA m 30) a b sh 32) ha hb (fun _ _ => rfl) (fun sh => Or.inl (h0 sh)) 199 0 (by omega) (by omega)
      refine ⟨_, _, _, rfl, ?_, hm⟩
      rw [fX12_guess_102, if_neg (by decide)]
      have G := gsum_m (m := m) (kb := fX12_guess_102 199) (a := a) (b := b) (sh := 0) (v4 := 0) (v5 := -1) ha hb (by omega) 200 0 (by omega) (by omega)
      rw [show fX12_guess_115 (fX12_guess_102 199) 200 (nI a) (nI b) (nI 0) (-1) (nI 0) 0 0 m = _ from G]
      unfold fX12_guess_169 fX12_guess_184 fX12_guess_192
      rw [if_pos (by decide)]
      exact E2

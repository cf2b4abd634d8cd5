theorem told_loop {m : ST} {p q c : Nat} (hp : p < 5) (hq : q < 8) (hc : c ≤ 9) (e7 : gA m 7 p = nI c) (hby : ∀ j, j < c → inb (gA m 8 (9 * p + j)) 1 99) : ∀ n i : Nat, i ≤ c → c < n + i → fX12_told_71 n (nI q) (nI p) (pmin (fun j => gA m 9 (8 * (9 * p + j) + q) / gA m 8 (9 * p + j)) i) (pmax (fun j => gA m 9 (8 * (9 * p + j) + q) / gA m 8 (9 * p + j)) i) (nI i) m = some (pmax (fun j => gA m 9 (8 * (9 * p + j) + q) / gA m 8 (9 * p + j)) c - pmin (fun j => gA m 9 (8 * (9 * p + j) + q) / gA m 8 (9 * p + j)) c, m) := by
  intro n
  induction n with
  | zero => intro i h1 h2; omega
  | succ n ih =>
    intro i h1 h2
    rw [fX12_told_71, if_pos (ix_nI hp (by decide)), cl_nI (by omega), e7]
    by_cases hic : c ≤ i
    · have : i = c := by omega
      subst this
      rw [if_pos (nI_le hic (by omega))]
    · rw [if_neg (nI_ge (by omega) (by omega))]
      have i1 : 8 * (9 * nI p + nI i) + nI q = nI (8 * (9 * p + i) + q) := by
        simp only [show (8 : Int32) = nI 8 from rfl, show (9 : Int32) = nI 9 from rfl, pk_mul, nI_add]
      have i2 : 9 * nI p + nI i = nI (9 * p + i) := by
        simp only [show (9 : Int32) = nI 9 from rfl, pk_mul, nI_add]
      unfold fX12_changeOf
      have hb0 : ¬ gA m 8 (9 * p + i) = 0 := by
        intro e
        have := (hby i (by omega)).1
        rw [e] at this
        exact absurd this (by decide)
      rw [i1, i2, if_pos (ix_nI (by omega) (by decide)), Option.bind_some]
      simp only [if_pos (ix_nI (show 9 * p + i < 45 by omega) (by decide)), cl_nI (show 9 * p + i < 2 ^ 31 by omega), cl_nI (show 8 * (9 * p + i) + q < 2 ^ 31 by omega), if_neg hb0]
      have ih2 := ih (i + 1) (by omega) (by omega)
      rw [← nI_1] at ih2
      rw [← ih2]
      unfold fX12_told_119 fX12_told_135
      simp only [pmin, pmax]
      by_cases c1 : pmin (fun j => gA m 9 (8 * (9 * p + j) + q) / gA m 8 (9 * p + j)) i ≤ gA m 9 (8 * (9 * p + i) + q) / gA m 8 (9 * p + i)
      · rw [if_pos c1, if_neg (Int32.not_lt.mpr c1)]
        by_cases c2 : gA m 9 (8 * (9 * p + i) + q) / gA m 8 (9 * p + i) ≤ pmax (fun j => gA m 9 (8 * (9 * p + j) + q) / gA m 8 (9 * p + j)) i
        · rw [if_pos c2, if_neg (Int32.not_lt.mpr c2)]
        · rw [if_neg c2, if_pos (Int32.not_le.mp c2)]
      · rw [if_neg c1, if_pos (Int32.not_le.mp c1)]
        by_cases c2 : gA m 9 (8 * (9 * p + i) + q) / gA m 8 (9 * p + i) ≤ pmax (fun j => gA m 9 (8 * (9 * p + j) + q) / gA m 8 (9 * p + j)) i
        · rw [if_pos c2, if_neg (Int32.not_lt.mpr c2)]
        · rw [if_neg c2, if_pos (Int32.not_le.mp c2)]
theorem nI_lts {a s : Nat} (h : a < s) (hs : s < 2 ^ 31) : nI a < nI s := nI_lt h hs
theorem op_told {k : Nat} {x m : ST} (h : Rel k x m) (hk : k < 512) (v1 v2 v3 : Int32) : Ans (k + 1) (fX11_told v1 v2 v3 x) (fX12_told v1 v2 v3 m) := by
  obtain ⟨s, s1, s8, ex, em⟩ := h.s
  obtain ⟨p, p1, p5, px, pm⟩ := h.p
  have hs := nI_m1 (n := s) (by omega)
  have hp := nI_m1 (n := p) (by omega)
  unfold fX11_told fX12_told
  simp only [isSpot_x, isSpot_m, isPart_x, isPart_m, ex, em, px, pm, Option.bind_some, wi, in_eq 0 1 0 1 rfl rfl]
  rcases wb_n v1 _ s hs with e1 | ⟨e1, j1, hj1, rfl⟩
  · simp only [e1, if_true]
    exact ⟨_, _, _, rfl, rfl, h.mono⟩
  simp only [e1, if_neg one_ne]
  rcases wb_n v2 _ p hp with e2 | ⟨e2, j2, hj2, rfl⟩
  · simp only [e2, if_true]
    exact ⟨_, _, _, rfl, rfl, h.mono⟩
  simp only [e2, if_neg one_ne]
  rcases wb_c v3 0 1 with e3 | ⟨e3, l3, u3⟩
  · simp only [e3, if_true]
    exact ⟨_, _, _, rfl, rfl, h.mono⟩
  simp only [e3, if_neg one_ne]
  obtain ⟨h1, h2, h3, h4, h5, h6, h7⟩ := h.mono
  unfold fX10_number fX10_pokesOf fX10_doubt
  simp only [i5, i5', if_pos (ix_nI (show 5 * j1 + j2 < 40 by omega) (by decide)), if_pos (ix_nI (show j2 < 5 by omega) (by decide)), cl_nI (show 5 * j1 + j2 < 2 ^ 31 by omega), cl_nI (show j2 < 2 ^ 31 by omega), Option.bind_some]
  by_cases c : v3 = 0
  · simp only [if_pos c, (h5 (5 * j1 + j2) (by omega)).1]
    exact ⟨_, _, _, rfl, rfl, h.mono⟩
  simp only [if_neg c]
  obtain ⟨n, n9, q1, q2, q3, q4⟩ := h6 j2 (by omega)
  rw [q1, q2]
  by_cases hn : n = 0
  · subst hn
    rw [if_pos (show nI 0 = 0 from rfl), if_pos (show nI 0 = 0 from rfl)]
    exact ⟨_, _, _, rfl, rfl, h.mono⟩
  · have hne := nI_ne0 (show 0 < n by omega) (by omega)
    rw [if_neg hne, if_neg hne]
    obtain ⟨q5, q6⟩ := q4 hn
    obtain ⟨q7, q8, q9, q10⟩ := q6 j1 (by rw [em]; exact nI_lt (by omega) (by omega)) (by omega)
    have L := told_loop (m := m) (p := j2) (q := j1) (c := n) (by omega) (by omega) n9 q2 q3 200 0 (by omega) (by omega)
    rw [q9, q10]
    exact ⟨_, _, _, rfl, L, h.mono⟩
theorem fm30 : ∀ e, e < 30 → ∀ i, i < 30 → fJ9_floorMod_7cf53 (nI e - 1 - nI i) 30 = some (nI ((e + 59 - i) % 30)) := by decide +kernel
theorem op_log {k : Nat} {x m : ST} (h : Rel k x m) (hk : k < 512) (v1 v2 : Int32) : Ans (k + 1) (fX11_log v1 v2 x) (fX12_log v1 v2 m) := by
  have hm := h.mono
  obtain ⟨h1, h2, h3, h4, h5, h6, h7, h8, h9, h10, ⟨⟨d, hd, ed, ek, en⟩, hl⟩, h12⟩ := h
  have hs := nI_m1 (n := min d 30) (by omega)
  unfold fX11_log fX12_log fX1_has
  rw [ed]
  have eM : (if 30 ≤ nI d then fX12_log_18 v1 v2 30 m else fX12_log_18 v1 v2 (nI d) m) = fX12_log_18 v1 v2 (nI (min d 30)) m := by
    by_cases c : 30 ≤ d
    · have c' : (30 : Int32) ≤ nI d := nI_le (a := 30) c (by omega)
      rw [if_pos c', Nat.min_eq_right c]
      rfl
    · have c' : ¬ (30 : Int32) ≤ nI d := nI_ge (b := 30) (by omega) (by decide)
      rw [if_neg c', Nat.min_eq_left (by omega)]
  rw [eM]
  unfold fX12_log_18
  simp only [ek, Option.bind_some, wi, if_pos (wb01 _ _ _), in_eq 0 (nI (min d 30) - 1) 0 _ rfl rfl, in_eq 0 2 0 2 rfl rfl]
  rcases wb_n v1 _ (min d 30) hs with e1 | ⟨e1, j, hj, rfl⟩
  · simp only [e1, if_true]
    exact ⟨_, _, _, rfl, rfl, hm⟩
  simp only [e1, if_neg one_ne]
  rcases wb_n v2 2 3 (by decide) with e2 | ⟨e2, w, hw, rfl⟩
  · simp only [e2, if_true]
    exact ⟨_, _, _, rfl, rfl, hm⟩
  simp only [e2, if_neg one_ne]
  have i1 : nI d - 1 - nI j = nI (d - 1 - j) := by
    rw [show (1 : Int32) = nI 1 from rfl, pk_sub (by omega), pk_sub (by omega)]
  have i2 : nI (d - 1 - j) - nI (d - 1 - j) / 30 * 30 = nI ((d - 1 - j) % 30) := pk_rem (d := 30) (by omega) (by decide) (by decide)
  have hlt : (d - 1 - j) % 30 < 30 := Nat.mod_lt _ (by decide)
  have i3 : (d % 30 + 59 - j) % 30 = (d - 1 - j) % 30 := by omega
  unfold fX1_read
  rw [en, fm30 (d % 30) (Nat.mod_lt _ (by decide)) j (by omega), i3, ed, i1, i2]
  have i4 : nI ((d - 1 - j) % 30) * 3 + nI w = nI (3 * ((d - 1 - j) % 30) + w) := by
    rw [show (3 : Int32) = nI 3 from rfl, pk_mul, nI_add, Nat.mul_comm]
  simp only [Option.bind_some, i4, if_pos (ix_nI (show 3 * ((d - 1 - j) % 30) + w < 90 by omega) (by decide)), if_pos (ix_nI (show (d - 1 - j) % 30 < 30 from hlt) (by decide)), cl_nI (show 3 * ((d - 1 - j) % 30) + w < 2 ^ 31 by omega), cl_nI (show (d - 1 - j) % 30 < 2 ^ 31 by omega), if_neg (show ¬ (30 : Int32) = 0 by decide)]
  obtain ⟨b1, b2, b3⟩ := hl _ hlt
  rcases (show w = 0 ∨ w = 1 ∨ w = 2 by omega) with rfl | rfl | rfl
  · rw [if_pos (show nI 0 = 0 from rfl)]
    show Ans (k + 1) (some (gA x 20 (3 * ((d - 1 - j) % 30)), x)) _
    rw [b1]
    exact ⟨_, _, _, rfl, rfl, hm⟩
  · rw [if_neg (show ¬ nI 1 = 0 by decide), if_pos (show nI 1 = 1 from rfl), b2]
    exact ⟨_, _, _, rfl, rfl, hm⟩
  · rw [if_neg (show ¬ nI 2 = 0 by decide), if_neg (show ¬ nI 2 = 1 by decide), b3]
    exact ⟨_, _, _, rfl, rfl, hm⟩
/-! shed -/
theorem sum_x {x : ST} {p : Nat} (hp : p ≤ 5) (ex : gI x 9 = nI p) : ∀ n i : Nat, i ≤ p → p < n + i → fX6_sum_4 n (psum (gA x 31) i) (nI i) x = some (psum (gA x 31) p, x) := by
  intro n
  induction n with
  | zero => intro i h1 h2; omega
  | succ n ih =>
    intro i h1 h2
    rw [fX6_sum_4, ex]
    by_cases c : p ≤ i
    · have : i = p := by omega
      subst this
      rw [if_pos (nI_le c (by omega))]
    · rw [if_neg (nI_ge (by omega) (by omega)), if_pos (ix_nI (by omega) (by decide)), cl_nI (by omega), nI_1]
      exact ih (i + 1) (by omega) (by omega)
theorem sum_m {m : ST} {p : Nat} (hp : p ≤ 5) (ex : gI m 1 = nI p) : ∀ n i : Nat, i ≤ p → p < n + i → fX12_unitsAll_4 n (psum (gA m 19) i) (nI i) m = some (psum (gA m 19) p, m) := by
  intro n
  induction n with
  | zero => intro i h1 h2; omega
  | succ n ih =>
    intro i h1 h2
    rw [fX12_unitsAll_4, ex]
    by_cases c : p ≤ i
    · have : i = p := by omega
      subst this
      rw [if_pos (nI_le c (by omega))]
    · rw [if_neg (nI_ge (by omega) (by omega)), if_pos (ix_nI (by omega) (by decide)), cl_nI (by omega), nI_1]
      exact ih (i + 1) (by omega) (by omega)
theorem psum_eq {f g : Nat → Int32} : ∀ n : Nat, (∀ j, j < n → f j = g j) → psum f n = psum g n
  | 0, _ => rfl
  | n + 1, h => by
    unfold psum
    rw [psum_eq n (fun j hj => h j (by omega)), h n (by omega)]
def dsub (f : Nat → Int32) (q : Int32) (n : Nat) : Nat → Int32 := fun j => if j < n then f j - q else f j
theorem dsub_0 (f : Nat → Int32) (q : Int32) : dsub f q 0 = f := by
  funext j; simp [dsub]
theorem dsub_s (f : Nat → Int32) (q : Int32) (n : Nat) : upd (dsub f q n) n (dsub f q n n - q) = dsub f q (n + 1) := by
  funext j
  rw [upd_eq]
  unfold dsub
  rw [if_neg (Nat.lt_irrefl n)]
  by_cases h : j = n
  · subst h; rw [if_pos rfl, if_pos (by omega)]
  · rw [if_neg h]
    by_cases h2 : j < n
    · rw [if_pos h2, if_pos (by omega)]
    · rw [if_neg h2, if_neg (by omega)]
theorem give_x {x : ST} {p : Nat} {q : Int32} (hp : p ≤ 5) (ex : gI x 9 = nI p) : ∀ n i : Nat, i ≤ p → p < n + i → fX6_giveToTip_14 n q (nI i) (sF x 31 (dsub (gA x 31) q i)) = some (q, sI (sF x 31 (dsub (gA x 31) q p)) 10 (gI x 10 + q)) := by
  intro n
  induction n with
  | zero => intro i h1 h2; omega
  | succ n ih =>
    intro i h1 h2
    rw [fX6_giveToTip_14, show gI (sF x 31 (dsub (gA x 31) q i)) 9 = nI p from ex]
    by_cases c : p ≤ i
    · have : i = p := by omega
      subst this
      rw [if_pos (nI_le c (by omega))]
      rfl
    · rw [if_neg (nI_ge (by omega) (by omega)), if_pos (ix_nI (by omega) (by decide)), if_pos (ix_nI (by omega) (by decide)), sA_sF, gA_sF, cl_nI (by omega), dsub_s, nI_1]
      exact ih (i + 1) (by omega) (by omega)
theorem give_m {m : ST} {p : Nat} {q : Int32} (hp : p ≤ 5) (ex : gI m 1 = nI p) : ∀ n i : Nat, i ≤ p → p < n + i → fX12_shed_22 n q (nI i) (sF m 19 (dsub (gA m 19) q i)) = some (q, sF m 19 (dsub (gA m 19) q p)) := by
  intro n
  induction n with
  | zero => intro i h1 h2; omega
  | succ n ih =>
    intro i h1 h2
    rw [fX12_shed_22, show gI (sF m 19 (dsub (gA m 19) q i)) 1 = nI p from ex]
    by_cases c : p ≤ i
    · have : i = p := by omega
      subst this
      rw [if_pos (nI_le c (by omega))]
    · rw [if_neg (nI_ge (by omega) (by omega)), if_pos (ix_nI (by omega) (by decide)), if_pos (ix_nI (by omega) (by decide)), sA_sF, gA_sF, cl_nI (by omega), dsub_s, nI_1]
      exact ih (i + 1) (by omega) (by omega)
theorem sqe (u q : Int) : (u - q) * (u - q) = u * u - 2 * (q * u) + q * q := by
  rw [Int.sub_mul, Int.mul_sub, Int.mul_sub, Int.mul_comm u q]
  omega
theorem tq_pos (S : Int) (n : Nat) (h : 0 ≤ S) : (n : Int) * (S.tdiv n * S.tdiv n) ≤ S.tdiv n * S := by
  rcases Nat.eq_zero_or_pos n with rfl | hn
  · simp
  rw [Int.tdiv_eq_ediv_of_nonneg h]
  have h1 : 0 ≤ S / (n : Int) := Int.ediv_nonneg h (by omega)
  have h2 : (n : Int) * (S / n) ≤ S := by
    have a1 := Int.emod_nonneg S (show (n : Int) ≠ 0 by omega)
    have a2 := Int.mul_ediv_add_emod S n
    omega
  have := Int.mul_le_mul_of_nonneg_left h2 h1
  rw [← Int.mul_assoc, Int.mul_comm (S / (n : Int)) n, Int.mul_assoc] at this
  exact this
theorem tq (S : Int) (n : Nat) : (n : Int) * (S.tdiv n * S.tdiv n) ≤ S.tdiv n * S := by
  rcases Int.le_total 0 S with h | h
  · exact tq_pos S n h
  · have := tq_pos (-S) n (by omega)
    rw [Int.neg_tdiv, Int.neg_mul_neg, Int.neg_mul_neg] at this
    exact this

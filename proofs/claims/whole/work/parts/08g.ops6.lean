/-! rows of items: all within bounds, copied -/
def AW (f : Nat → Int32) (lo hi : Int32) (a c : Nat) : Prop := ∀ t, t < c → wb (f (a + t)) lo hi = 1
theorem aw_dec (f : Nat → Int32) (lo hi : Int32) (a : Nat) : ∀ c : Nat, AW f lo hi a c ∨ ∃ s, s < c ∧ wb (f (a + s)) lo hi = 0 ∧ ∀ t, t < s → wb (f (a + t)) lo hi = 1
  | 0 => Or.inl (fun t h => absurd h (Nat.not_lt_zero t))
  | c + 1 => by
    rcases aw_dec f lo hi a c with h | ⟨s, h1, h2, h3⟩
    · rcases wb_c (f (a + c)) lo hi with e | ⟨e, -⟩
      · exact Or.inr ⟨c, by omega, e, h⟩
      · refine Or.inl (fun t ht => ?_)
        by_cases q : t = c
        · rw [q]; exact e
        · exact h t (by omega)
    · exact Or.inr ⟨s, by omega, h2, h3⟩
theorem aw_x1 {x : ST} {lo hi : Int32} {j i c : Nat} (hj : j < 4) (hi40 : i + c ≤ 40) (h : AW (gA x 35) lo hi (40 * j + i) c) : ∀ n t : Nat, t ≤ c → c < n + t → fX8_allWithin_3 n (nI j) (nI i) (nI c) lo hi (nI t) x = some (1, x) := by
  intro n
  induction n with
  | zero => intro t h1 h2; omega
  | succ n ih =>
    intro t h1 h2
    rw [fX8_allWithin_3]
    by_cases q : c ≤ t
    · rw [if_pos (nI_le q (by omega)), if_pos zb1]
    · rw [if_neg (nI_ge (by omega) (by omega))]
      unfold fX8_at
      rw [nI_add, i40, if_pos (ix_nI (by omega) (by decide)), Option.bind_some]
      simp only [cl_nI (show 40 * j + (i + t) < 2 ^ 31 by omega), wi, Option.bind_some]
      have := h t (by omega)
      rw [← Nat.add_assoc, this, if_neg one_ne, nI_1]
      exact ih (t + 1) (by omega) (by omega)
theorem aw_x0 {x : ST} {lo hi : Int32} {j i c s : Nat} (hj : j < 4) (hi40 : i + c ≤ 40) (hs : s < c) (hf : wb (gA x 35 (40 * j + i + s)) lo hi = 0) (h : ∀ t, t < s → wb (gA x 35 (40 * j + i + t)) lo hi = 1) : ∀ n t : Nat, t ≤ s → s < n + t → fX8_allWithin_3 n (nI j) (nI i) (nI c) lo hi (nI t) x = some (0, x) := by
  intro n
  induction n with
  | zero => intro t h1 h2; omega
  | succ n ih =>
    intro t h1 h2
    rw [fX8_allWithin_3, if_neg (nI_ge (by omega) (by omega))]
    unfold fX8_at
    rw [nI_add, i40, if_pos (ix_nI (by omega) (by decide)), Option.bind_some]
    simp only [cl_nI (show 40 * j + (i + t) < 2 ^ 31 by omega), wi, Option.bind_some]
    by_cases q : t = s
    · rw [← Nat.add_assoc, q, hf, if_pos rfl, if_pos zb0]
    · rw [← Nat.add_assoc, h t (by omega), if_neg one_ne, nI_1]
      exact ih (t + 1) (by omega) (by omega)
theorem aw_eq {f g : Nat → Int32} {lo hi : Int32} {j i c n : Nat} (hn : i + c ≤ n) (h : ∀ i, i < n → f (40 * j + i) = g (40 * j + i)) {t : Nat} (ht : t < c) : f (40 * j + i + t) = g (40 * j + i + t) := by
  have := h (i + t) (by omega)
  rw [← Nat.add_assoc] at this
  exact this
def cpf (f g : Nat → Int32) (d s t : Nat) : Nat → Int32 := fun j => if d ≤ j ∧ j < d + t then g (s + (j - d)) else f j
theorem cpf_0 (f g : Nat → Int32) (d s : Nat) : cpf f g d s 0 = f := by
  funext j; unfold cpf; rw [if_neg (by omega)]
theorem cpf_s (f g : Nat → Int32) (d s t : Nat) : upd (cpf f g d s t) (d + t) (g (s + t)) = cpf f g d s (t + 1) := by
  funext j
  rw [upd_eq]
  unfold cpf
  by_cases h : j = d + t
  · rw [if_pos h, if_pos (by omega), h, Nat.add_sub_cancel_left]
  · rw [if_neg h]
    by_cases h2 : d ≤ j ∧ j < d + t
    · rw [if_pos h2, if_pos (by omega)]
    · rw [if_neg h2, if_neg (by omega)]
theorem REq.cp {N : Nat} {lo hi : Int} {f f' g g' : Nat → Int32} {d s t : Nat} (h : REq N lo hi f f') (hg : ∀ q, q < t → g (s + q) = g' (s + q) ∧ inb (g' (s + q)) lo hi) : REq N lo hi (cpf f g d s t) (cpf f' g' d s t) := by
  intro j hj
  unfold cpf
  by_cases c : d ≤ j ∧ j < d + t
  · rw [if_pos c, if_pos c]; exact hg (j - d) (by omega)
  · rw [if_neg c, if_neg c]; exact h j hj
theorem i32 (a b : Nat) : nI a * 32 + nI b = nI (32 * a + b) := by rw [show (32 : Int32) = nI 32 from rfl, pk_mul, nI_add, Nat.mul_comm]
theorem i32' (a b : Nat) : 32 * nI a + nI b = nI (32 * a + b) := by rw [show (32 : Int32) = nI 32 from rfl, pk_mul, nI_add]
theorem i16 (a b : Nat) : nI a * 16 + nI b = nI (16 * a + b) := by rw [show (16 : Int32) = nI 16 from rfl, pk_mul, nI_add, Nat.mul_comm]
theorem i16' (a b : Nat) : 16 * nI a + nI b = nI (16 * a + b) := by rw [show (16 : Int32) = nI 16 from rfl, pk_mul, nI_add]
theorem lit_le {a : Nat} {v : Int32} (e : v = nI a) {b : Nat} (h : a ≤ b) (hb : b < 2 ^ 31) : v ≤ nI b := e ▸ nI_le h hb
theorem lit_nle {a : Nat} {v : Int32} (e : v = nI a) {b : Nat} (h : b < a) (hb : a < 2 ^ 31) : ¬ v ≤ nI b := e ▸ nI_ge h hb
-- layer
theorem layer_x {x : ST} {j l i : Nat} (hj : j < 4) (hl : l < 3) (hi : i + 32 ≤ 40) : ∀ n t : Nat, t ≤ 32 → 32 < n + t → fX11_layer_57 n (nI l) (nI j) (nI i) (nI t) (sF x 25 (cpf (gA x 25) (gA x 35) (32 * l) (40 * j + i) t)) = some (32, sF x 25 (cpf (gA x 25) (gA x 35) (32 * l) (40 * j + i) 32)) := by
  intro n
  induction n with
  | zero => intro t h1 h2; omega
  | succ n ih =>
    intro t h1 h2
    rw [fX11_layer_57]
    by_cases q : 32 ≤ t
    · have : t = 32 := by omega
      subst this
      rw [if_pos (lit_le (v := 32) (a := 32) (b := 32) rfl (Nat.le_refl _) (by decide))]
    · rw [if_neg (lit_nle (v := 32) (a := 32) (b := t) rfl (by omega) (by decide))]
      unfold fX8_at fX4_swapCell
      rw [nI_add, i40, if_pos (ix_nI (by omega) (by decide)), Option.bind_some]
      simp only [i32, if_pos (ix_nI (show 32 * l + t < 96 by omega) (by decide)), Option.bind_some, sA_sF, cl_nI (show 32 * l + t < 2 ^ 31 by omega), cl_nI (show 40 * j + (i + t) < 2 ^ 31 by omega)]
      rw [show gA (sF x 25 (cpf (gA x 25) (gA x 35) (32 * l) (40 * j + i) t)) 35 = gA x 35 from rfl, ← Nat.add_assoc, cpf_s, nI_1]
      exact ih (t + 1) (by omega) (by omega)
theorem layer_m2 {m : ST} {j l i : Nat} (hj : j < 4) (hl : l < 3) (hi : i + 32 ≤ 40) : ∀ n t : Nat, t ≤ 32 → 32 < n + t → fX12_layer_91 n (nI l) (nI (40 * j + i)) (nI t) (sF m 26 (cpf (gA m 26) (gA m 30) (32 * l) (40 * j + i) t)) = some (32, sF m 26 (cpf (gA m 26) (gA m 30) (32 * l) (40 * j + i) 32)) := by
  intro n
  induction n with
  | zero => intro t h1 h2; omega
  | succ n ih =>
    intro t h1 h2
    rw [fX12_layer_91]
    by_cases q : 32 ≤ t
    · have : t = 32 := by omega
      subst this
      rw [if_pos (lit_le (v := 32) (a := 32) (b := 32) rfl (Nat.le_refl _) (by decide))]
    · rw [if_neg (lit_nle (v := 32) (a := 32) (b := t) rfl (by omega) (by decide)), nI_add, i32', if_pos (ix_nI (by omega) (by decide)), if_pos (ix_nI (by omega) (by decide)), sA_sF, cl_nI (show 32 * l + t < 2 ^ 31 by omega), cl_nI (show 40 * j + i + t < 2 ^ 31 by omega)]
      rw [show gA (sF m 26 (cpf (gA m 26) (gA m 30) (32 * l) (40 * j + i) t)) 30 = gA m 30 from rfl, cpf_s, nI_1]
      exact ih (t + 1) (by omega) (by omega)
theorem layer_m1 {m : ST} {a l : Nat} (ha : a + 32 ≤ 160) (h : AW (gA m 30) (-99) 99 a 32) : ∀ n t : Nat, t ≤ 32 → 32 < n + t → fX12_layer_49 n (nI l) (nI a) (nI t) m = fX12_layer_88 (nI l) (nI a) m := by
  intro n
  induction n with
  | zero => intro t h1 h2; omega
  | succ n ih =>
    intro t h1 h2
    rw [fX12_layer_49]
    by_cases q : 32 ≤ t
    · have : t = 32 := by omega
      subst this
      rw [if_pos (lit_le (v := 32) (a := 32) (b := 32) rfl (Nat.le_refl _) (by decide))]
    · rw [if_neg (lit_nle (v := 32) (a := 32) (b := t) rfl (by omega) (by decide)), nI_add, if_pos (ix_nI (by omega) (by decide)), cl_nI (by omega), in_eq (-99) 99 (-99) 99 rfl rfl, Option.bind_some, h t (by omega), if_neg one_ne, nI_1]
      exact ih (t + 1) (by omega) (by omega)
theorem layer_m0 {m : ST} {a l s : Nat} (ha : a + 32 ≤ 160) (hs : s < 32) (hf : wb (gA m 30 (a + s)) (-99) 99 = 0) (h : ∀ t, t < s → wb (gA m 30 (a + t)) (-99) 99 = 1) : ∀ n t : Nat, t ≤ s → s < n + t → fX12_layer_49 n (nI l) (nI a) (nI t) m = some (-2, m) := by
  intro n
  induction n with
  | zero => intro t h1 h2; omega
  | succ n ih =>
    intro t h1 h2
    rw [fX12_layer_49, if_neg (lit_nle (v := 32) (a := 32) (b := t) rfl (by omega) (by decide)), nI_add, if_pos (ix_nI (by omega) (by decide)), cl_nI (by omega), in_eq (-99) 99 (-99) 99 rfl rfl, Option.bind_some]
    by_cases q : t = s
    · rw [q, hf, if_pos rfl]
    · rw [h t (by omega), if_neg one_ne, nI_1]
      exact ih (t + 1) (by omega) (by omega)
theorem op_layer {k : Nat} {x m : ST} (h : Rel k x m) (hk : k < 512) (v1 v2 v3 v4 : Int32) : Ans (k + 1) (fX11_layer v1 v2 v3 v4 x) (fX12_layer v1 v2 v3 v4 m) := by
  have hm := h.mono
  obtain ⟨g1, g2, g3, g4, g5, g6, g7, g8, g9, g10, g11, g12, g13, g14, g15⟩ := h.mono
  have e0 : fX8_refusal v2 v3 v4 32 x = some (rfs m v2 v3 v4 32, x) := refusal_x h v2 v3 v4 32 (by omega)
  unfold fX11_layer fX12_layer
  simp only [isLayer_x, isLayer_m, Option.bind_some]
  rcases wb_n v1 2 3 (by decide) with e1 | ⟨e1, l, hl, rfl⟩
  · simp only [e1, if_true]
    exact ⟨_, _, _, rfl, rfl, hm⟩
  rw [e1, if_neg one_ne, if_neg one_ne, e0, isSheet_m, Option.bind_some, Option.bind_some]
  by_cases cb : (if wb v2 0 3 = 0 then (0 : Int32) else if wb v3 0 2 = 0 then 0 else 1) = 0
  · simp only [rfs_bad cb]
    rw [if_neg (show ¬ (-1 : Int32) = 0 by decide), if_pos cb]
    exact ⟨_, _, _, rfl, rfl, hm⟩
  obtain ⟨w1, w2⟩ := rfs_good cb
  rw [if_neg cb, against_m w1 w2, Option.bind_some]
  by_cases cr : rfs m v2 v3 v4 32 = 0
  · obtain ⟨j, n, i, hj, rfl, rfl, hin, n40, q1, q2, q3, q4, q5, q6⟩ := rfs_ok h (c := 32) (by omega) cr
    simp only [cr, if_true, if_pos (show (0 : Int32) ≤ 0 by decide), i40']
    unfold fX8_allWithin
    have hxm : ∀ t, t < 32 → gA x 35 (40 * j + i + t) = gA m 30 (40 * j + i + t) := fun t ht => aw_eq (lo := 0) (hi := 0) hin q6 ht
    rcases aw_dec (gA m 30) (-99) 99 (40 * j + i) 32 with A | ⟨s, s1, s2, s3⟩
    · have A' : AW (gA x 35) (-99) 99 (40 * j + i) 32 := fun t ht => by rw [hxm t ht]; exact A t ht
      have X1 : fX8_allWithin_3 200 (nI j) (nI i) 32 (-99) 99 0 x = some (1, x) := aw_x1 hj (by omega) A' 200 0 (by omega) (by omega)
      have M1 : fX12_layer_49 200 (nI l) (nI (40 * j + i)) 0 m = _ := layer_m1 (l := l) (by omega) A 200 0 (by omega) (by omega)
      rw [X1, M1, Option.bind_some, if_neg one_ne]
      unfold fX12_layer_88
      have X2 := layer_x (x := x) hj hl (i := i) (by omega) 200 0 (by omega) (by omega)
      have M2 := layer_m2 (m := m) hj hl (i := i) (by omega) 200 0 (by omega) (by omega)
      rw [cpf_0, sF_id] at X2 M2
      have X3 : fX11_layer_57 200 (nI l) (nI j) (nI i) 0 x = _ := X2
      have M3 : fX12_layer_91 200 (nI l) (nI (40 * j + i)) 0 m = _ := M2
      rw [X3, M3]
      refine ⟨_, _, _, rfl, rfl, g1, g2, g3, g4, g5, g6, g7, g8, g9, g10, g11, g12, ?_, g14, g15⟩
      refine REq.cp g13 (fun q hq => ⟨hxm q hq, ?_⟩)
      have := A q hq
      rcases wb_c (gA m 30 (40 * j + i + q)) (-99) 99 with e | ⟨-, b1, b2⟩
      · rw [e] at this; exact absurd this.symm one_ne
      · exact inb_of b1 b2 (by decide) (by decide)
    · have X1 : fX8_allWithin_3 200 (nI j) (nI i) 32 (-99) 99 0 x = some (0, x) := aw_x0 (c := 32) hj (by omega) s1 (by rw [hxm s s1]; exact s2) (fun t ht => by rw [hxm t (by omega)]; exact s3 t ht) 200 0 (by omega) (by omega)
      have M1 : fX12_layer_49 200 (nI l) (nI (40 * j + i)) 0 m = _ := layer_m0 (l := l) (by omega) s1 s2 s3 200 0 (by omega) (by omega)
      rw [X1, M1, Option.bind_some, if_pos rfl]
      exact ⟨_, _, _, rfl, rfl, hm⟩
  · simp only [if_neg cr, if_neg (rfs_neg cr)]
    exact ⟨_, _, _, rfl, rfl, hm⟩

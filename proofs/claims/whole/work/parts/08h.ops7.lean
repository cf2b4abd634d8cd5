theorem and255 (v : Int32) : inb (v &&& 255) 0 255 := by
  rw [pk_and v 8 (by decide)]
  have hr : v.toBitVec.toNat % 2 ^ 8 < 256 := Nat.mod_lt _ (by decide)
  have e := nI_toInt (n := v.toBitVec.toNat % 2 ^ 8) (by omega)
  exact ⟨by omega, by omega⟩
-- board
theorem board_x {x : ST} {j s i : Nat} (hj : j < 4) (hs : s < 8) (hi : i + 16 ≤ 40) : ∀ n t : Nat, t ≤ 16 → 16 < n + t → fX11_board_62 n (nI s) (nI j) (nI i) (nI t) (sF x 36 (cpf (gA x 36) (fun q => gA x 35 q &&& 255) (16 * s) (40 * j + i) t)) = some (1, sF x 36 (cpf (gA x 36) (fun q => gA x 35 q &&& 255) (16 * s) (40 * j + i) 16)) := by
  intro n
  induction n with
  | zero => intro t h1 h2; omega
  | succ n ih =>
    intro t h1 h2
    rw [fX11_board_62]
    by_cases q : 16 ≤ t
    · have : t = 16 := by omega
      subst this
      rw [if_pos (lit_le (v := 16) (a := 16) (b := 16) rfl (Nat.le_refl _) (by decide))]
    · rw [if_neg (lit_nle (v := 16) (a := 16) (b := t) rfl (by omega) (by decide))]
      unfold fX8_at fX9_swapLight
      rw [nI_add, i40, if_pos (ix_nI (by omega) (by decide)), Option.bind_some]
      simp only [i16, if_pos (ix_nI (show 16 * s + t < 128 by omega) (by decide)), Option.bind_some, sA_sF, cl_nI (show 16 * s + t < 2 ^ 31 by omega), cl_nI (show 40 * j + (i + t) < 2 ^ 31 by omega)]
      rw [show gA (sF x 36 (cpf (gA x 36) (fun q => gA x 35 q &&& 255) (16 * s) (40 * j + i) t)) 35 = gA x 35 from rfl, ← Nat.add_assoc]
      have e := cpf_s (gA x 36) (fun q => gA x 35 q &&& 255) (16 * s) (40 * j + i) t
      rw [e, nI_1]
      exact ih (t + 1) (by omega) (by omega)
theorem board_m2 {m : ST} {j s i : Nat} (hj : j < 4) (hs : s < 8) (hi : i + 16 ≤ 40) : ∀ n t : Nat, t ≤ 16 → 16 < n + t → fX12_board_94 n (nI s) (nI (40 * j + i)) (nI t) (sF m 1 (cpf (gA m 1) (fun q => gA m 30 q &&& 255) (16 * s) (40 * j + i) t)) = some (1, sF m 1 (cpf (gA m 1) (fun q => gA m 30 q &&& 255) (16 * s) (40 * j + i) 16)) := by
  intro n
  induction n with
  | zero => intro t h1 h2; omega
  | succ n ih =>
    intro t h1 h2
    rw [fX12_board_94]
    by_cases q : 16 ≤ t
    · have : t = 16 := by omega
      subst this
      rw [if_pos (lit_le (v := 16) (a := 16) (b := 16) rfl (Nat.le_refl _) (by decide))]
    · rw [if_neg (lit_nle (v := 16) (a := 16) (b := t) rfl (by omega) (by decide)), nI_add, i16', if_pos (ix_nI (by omega) (by decide)), if_pos (ix_nI (by omega) (by decide)), sA_sF, cl_nI (show 16 * s + t < 2 ^ 31 by omega), cl_nI (show 40 * j + i + t < 2 ^ 31 by omega)]
      rw [show gA (sF m 1 (cpf (gA m 1) (fun q => gA m 30 q &&& 255) (16 * s) (40 * j + i) t)) 30 = gA m 30 from rfl]
      have e := cpf_s (gA m 1) (fun q => gA m 30 q &&& 255) (16 * s) (40 * j + i) t
      rw [e, nI_1]
      exact ih (t + 1) (by omega) (by omega)
theorem board_m1 {m : ST} {a s : Nat} {v3 : Int32} (ha : a + 16 ≤ 160) (h : v3 ≤ 0 ∨ AW (gA m 30) 0 255 a 16) : ∀ n t : Nat, t ≤ 16 → 16 < n + t → fX12_board_50 n (nI s) v3 (nI a) (nI t) m = fX12_board_91 (nI s) (nI a) m := by
  intro n
  induction n with
  | zero => intro t h1 h2; omega
  | succ n ih =>
    intro t h1 h2
    rw [fX12_board_50]
    by_cases q : 16 ≤ t
    · have : t = 16 := by omega
      subst this
      rw [if_pos (lit_le (v := 16) (a := 16) (b := 16) rfl (Nat.le_refl _) (by decide))]
    · rw [if_neg (lit_nle (v := 16) (a := 16) (b := t) rfl (by omega) (by decide))]
      unfold fX12_board_85
      rw [nI_1]
      by_cases c : v3 ≤ 0
      · rw [if_pos c]
        exact ih (t + 1) (by omega) (by omega)
      · rcases h with h | h
        · exact absurd h c
        · rw [if_neg c, nI_add, if_pos (ix_nI (by omega) (by decide)), cl_nI (by omega), in_eq 0 255 0 255 rfl rfl, Option.bind_some, h t (by omega), if_neg one_ne]
          exact ih (t + 1) (by omega) (by omega)
theorem board_m0 {m : ST} {a s u : Nat} {v3 : Int32} (c : ¬ v3 ≤ 0) (ha : a + 16 ≤ 160) (hs : u < 16) (hf : wb (gA m 30 (a + u)) 0 255 = 0) (h : ∀ t, t < u → wb (gA m 30 (a + t)) 0 255 = 1) : ∀ n t : Nat, t ≤ u → u < n + t → fX12_board_50 n (nI s) v3 (nI a) (nI t) m = some (-2, m) := by
  intro n
  induction n with
  | zero => intro t h1 h2; omega
  | succ n ih =>
    intro t h1 h2
    rw [fX12_board_50, if_neg (lit_nle (v := 16) (a := 16) (b := t) rfl (by omega) (by decide)), if_neg c, nI_add, if_pos (ix_nI (by omega) (by decide)), cl_nI (by omega), in_eq 0 255 0 255 rfl rfl, Option.bind_some]
    by_cases q : t = u
    · rw [q, hf, if_pos rfl]
    · rw [h t (by omega), if_neg one_ne]
      unfold fX12_board_85
      rw [nI_1]
      exact ih (t + 1) (by omega) (by omega)
theorem board_end {k : Nat} {x m : ST} (h : Rel k x m) {j s i n : Nat} (hj : j < 4) (hs : s < 8) (hin : i + 16 ≤ n) (n40 : n ≤ 40) (q6 : ∀ i, i < n → gA x 35 (40 * j + i) = gA m 30 (40 * j + i)) : Ans (k + 1) (fX11_board_59 (nI s) (nI j) (nI i) x) (fX12_board_91 (nI s) (nI (40 * j + i)) m) := by
  obtain ⟨g1, g2, g3⟩ := h.mono
  unfold fX11_board_59 fX12_board_91
  have X2 := board_x (x := x) hj hs (i := i) (by omega) 200 0 (by omega) (by omega)
  have M2 := board_m2 (m := m) hj hs (i := i) (by omega) 200 0 (by omega) (by omega)
  rw [cpf_0, sF_id] at X2 M2
  have X3 : fX11_board_62 200 (nI s) (nI j) (nI i) 0 x = _ := X2
  have M3 : fX12_board_94 200 (nI s) (nI (40 * j + i)) 0 m = _ := M2
  rw [X3, M3]
  refine ⟨_, _, _, rfl, rfl, g1, ?_, g3⟩
  refine REq.cp (g := fun q => gA x 35 q &&& 255) (g' := fun q => gA m 30 q &&& 255) (s := 40 * j + i) g2 (fun q hq => ⟨?_, and255 (gA m 30 (40 * j + i + q))⟩)
  show gA x 35 (40 * j + i + q) &&& 255 = gA m 30 (40 * j + i + q) &&& 255
  rw [aw_eq (lo := 0) (hi := 0) hin q6 hq]
theorem op_board {k : Nat} {x m : ST} (h : Rel k x m) (hk : k < 512) (v1 v2 v3 v4 : Int32) : Ans (k + 1) (fX11_board v1 v2 v3 v4 x) (fX12_board v1 v2 v3 v4 m) := by
  have hm := h.mono
  obtain ⟨s, s1, s8, ex, em⟩ := h.s
  have hs := nI_m1 (n := s) (by omega)
  have e0 : fX8_refusal v2 v3 v4 16 x = some (rfs m v2 v3 v4 16, x) := refusal_x h v2 v3 v4 16 (by omega)
  unfold fX11_board fX12_board
  simp only [isSpot_x, isSpot_m, ex, em, Option.bind_some]
  rcases wb_n v1 _ s hs with e1 | ⟨e1, l, hl, rfl⟩
  · simp only [e1, if_true]
    exact ⟨_, _, _, rfl, rfl, hm⟩
  rw [e1, if_neg one_ne, if_neg one_ne, e0, isSheet_m, Option.bind_some, Option.bind_some]
  by_cases cb : (if wb v2 0 3 = 0 then (0 : Int32) else if wb v3 0 2 = 0 then 0 else 1) = 0
  · simp only [rfs_bad cb]
    rw [if_neg (show ¬ (-1 : Int32) = 0 by decide), if_pos cb]
    exact ⟨_, _, _, rfl, rfl, hm⟩
  obtain ⟨w1, w2⟩ := rfs_good cb
  rw [if_neg cb, against_m w1 w2, Option.bind_some]
  by_cases cr : rfs m v2 v3 v4 16 = 0
  · obtain ⟨j, n, i, hj, rfl, rfl, hin, n40, q1, q2, q3, q4, q5, q6⟩ := rfs_ok h (c := 16) (by omega) cr
    simp only [cr, if_true, if_pos (show (0 : Int32) ≤ 0 by decide), i40']
    have hxm : ∀ t, t < 16 → gA x 35 (40 * j + i + t) = gA m 30 (40 * j + i + t) := fun t ht => aw_eq (lo := 0) (hi := 0) hin q6 ht
    have E := board_end h hj (show l < 8 by omega) hin n40 q6
    by_cases c0 : v3 = 0
    · rw [if_pos c0]
      have M1 : fX12_board_50 200 (nI l) v3 (nI (40 * j + i)) 0 m = _ := board_m1 (s := l) (v3 := v3) (by omega) (Or.inl (by rw [c0]; decide)) 200 0 (by omega) (by omega)
      rw [M1]
      exact E
    · rw [if_neg c0]
      have cn : ¬ v3 ≤ 0 := by
        intro e
        apply c0
        apply Int32.toInt_inj.mp
        rw [Int32.le_iff_toInt_le] at e
        have z0 : (0 : Int32).toInt = 0 := by decide
        have := q5.1
        omega
      unfold fX8_allWithin
      rcases aw_dec (gA m 30) 0 255 (40 * j + i) 16 with A | ⟨u, u1, u2, u3⟩
      · have A' : AW (gA x 35) 0 255 (40 * j + i) 16 := fun t ht => by rw [hxm t ht]; exact A t ht
        have X1 : fX8_allWithin_3 200 (nI j) (nI i) 16 0 255 0 x = some (1, x) := aw_x1 hj (by omega) A' 200 0 (by omega) (by omega)
        have M1 : fX12_board_50 200 (nI l) v3 (nI (40 * j + i)) 0 m = _ := board_m1 (s := l) (v3 := v3) (by omega) (Or.inr A) 200 0 (by omega) (by omega)
        rw [X1, M1, Option.bind_some, if_neg one_ne]
        exact E
      · have X1 : fX8_allWithin_3 200 (nI j) (nI i) 16 0 255 0 x = some (0, x) := aw_x0 (c := 16) hj (by omega) u1 (by rw [hxm u u1]; exact u2) (fun t ht => by rw [hxm t (by omega)]; exact u3 t ht) 200 0 (by omega) (by omega)
        have M1 : fX12_board_50 200 (nI l) v3 (nI (40 * j + i)) 0 m = _ := board_m0 (s := l) cn (by omega) u1 u2 u3 200 0 (by omega) (by omega)
        rw [X1, M1, Option.bind_some, if_pos rfl]
        exact ⟨_, _, _, rfl, rfl, hm⟩
  · simp only [if_neg cr, if_neg (rfs_neg cr)]
    exact ⟨_, _, _, rfl, rfl, hm⟩
-- loop
def lpf (f g : Nat → Int32) (d s c t : Nat) : Nat → Int32 := fun j => if d ≤ j ∧ j < d + t then (if j - d < c then g (s + (j - d)) else 0) else f j
theorem lpf_0 (f g : Nat → Int32) (d s c : Nat) : lpf f g d s c 0 = f := by
  funext j; unfold lpf; rw [if_neg (by omega)]
theorem lpf_s (f g : Nat → Int32) (d s c t : Nat) : upd (lpf f g d s c t) (d + t) (if t < c then g (s + t) else 0) = lpf f g d s c (t + 1) := by
  funext j
  rw [upd_eq]
  unfold lpf
  by_cases h : j = d + t
  · rw [if_pos h, if_pos (show d ≤ j ∧ j < d + (t + 1) by omega), h, Nat.add_sub_cancel_left]
  · rw [if_neg h]
    by_cases h2 : d ≤ j ∧ j < d + t
    · rw [if_pos h2, if_pos (show d ≤ j ∧ j < d + (t + 1) by omega)]
    · rw [if_neg h2, if_neg (show ¬ (d ≤ j ∧ j < d + (t + 1)) by omega)]
theorem loop_x {x : ST} {j w i c : Nat} (hj : j < 4) (hw : w < 2) (hc : c ≤ 5) (hi : i + c ≤ 40) : ∀ n t : Nat, t ≤ 5 → 5 < n + t → fX11_loop_69 n (nI w) (nI j) (nI i) (nI c) (nI t) (sF x 27 (lpf (gA x 27) (gA x 35) (5 * w) (40 * j + i) c t)) = some (nI c, sF x 27 (lpf (gA x 27) (gA x 35) (5 * w) (40 * j + i) c 5)) := by
  intro n
  induction n with
  | zero => intro t h1 h2; omega
  | succ n ih =>
    intro t h1 h2
    rw [fX11_loop_69]
    by_cases q : 5 ≤ t
    · have : t = 5 := by omega
      subst this
      rw [if_pos (lit_le (v := 5) (a := 5) (b := 5) rfl (Nat.le_refl _) (by decide))]
    · rw [if_neg (lit_nle (v := 5) (a := 5) (b := t) rfl (by omega) (by decide))]
      unfold fX11_loop_106 fX5_setTerm
      have e := lpf_s (gA x 27) (gA x 35) (5 * w) (40 * j + i) c t
      by_cases q2 : c ≤ t
      · rw [if_pos (nI_le q2 (by omega)), i5, if_pos (ix_nI (by omega) (by decide)), Option.bind_some, sA_sF, cl_nI (by omega), nI_1]
        rw [if_neg (by omega)] at e
        rw [e]
        exact ih (t + 1) (by omega) (by omega)
      · rw [if_neg (nI_ge (by omega) (by omega))]
        unfold fX8_at
        rw [nI_add, i40, if_pos (ix_nI (by omega) (by decide)), Option.bind_some]
        simp only [i5, if_pos (ix_nI (show 5 * w + t < 10 by omega) (by decide)), Option.bind_some, sA_sF, cl_nI (show 5 * w + t < 2 ^ 31 by omega), cl_nI (show 40 * j + (i + t) < 2 ^ 31 by omega), nI_1]
        rw [if_pos (by omega)] at e
        rw [show gA (sF x 27 (lpf (gA x 27) (gA x 35) (5 * w) (40 * j + i) c t)) 35 = gA x 35 from rfl, ← Nat.add_assoc, e]
        exact ih (t + 1) (by omega) (by omega)
theorem loop_m2 {m : ST} {j w i c : Nat} (hj : j < 4) (hw : w < 2) (hc : c ≤ 5) (hi : i + c ≤ 40) : ∀ n t : Nat, t ≤ 5 → 5 < n + t → fX12_loop_107 n (nI w) (nI c) (nI (40 * j + i)) (nI t) (sF m 23 (lpf (gA m 23) (gA m 30) (5 * w) (40 * j + i) c t)) = some (nI c, sF m 23 (lpf (gA m 23) (gA m 30) (5 * w) (40 * j + i) c 5)) := by
  intro n
  induction n with
  | zero => intro t h1 h2; omega
  | succ n ih =>
    intro t h1 h2
    rw [fX12_loop_107]
    by_cases q : 5 ≤ t
    · have : t = 5 := by omega
      subst this
      rw [if_pos (lit_le (v := 5) (a := 5) (b := 5) rfl (Nat.le_refl _) (by decide))]
    · rw [if_neg (lit_nle (v := 5) (a := 5) (b := t) rfl (by omega) (by decide))]
      unfold fX12_loop_144
      have e := lpf_s (gA m 23) (gA m 30) (5 * w) (40 * j + i) c t
      by_cases q2 : c ≤ t
      · rw [if_pos (nI_le q2 (by omega)), i5', if_pos (ix_nI (by omega) (by decide)), sA_sF, cl_nI (by omega), nI_1]
        rw [if_neg (by omega)] at e
        rw [e]
        exact ih (t + 1) (by omega) (by omega)
      · rw [if_neg (nI_ge (by omega) (by omega)), nI_add, i5', if_pos (ix_nI (by omega) (by decide)), if_pos (ix_nI (by omega) (by decide)), sA_sF, cl_nI (show 5 * w + t < 2 ^ 31 by omega), cl_nI (show 40 * j + i + t < 2 ^ 31 by omega), nI_1]
        rw [if_pos (by omega)] at e
        rw [show gA (sF m 23 (lpf (gA m 23) (gA m 30) (5 * w) (40 * j + i) c t)) 30 = gA m 30 from rfl, e]
        exact ih (t + 1) (by omega) (by omega)
theorem loop_m1 {m : ST} {a w c : Nat} (hc : c ≤ 5) (ha : a + c ≤ 160) (h : AW (gA m 30) (-50) 50 a c) : ∀ n t : Nat, t ≤ c → c < n + t → fX12_loop_65 n (nI w) (nI c) (nI a) (nI t) m = fX12_loop_104 (nI w) (nI c) (nI a) m := by
  intro n
  induction n with
  | zero => intro t h1 h2; omega
  | succ n ih =>
    intro t h1 h2
    rw [fX12_loop_65]
    by_cases q : c ≤ t
    · rw [if_pos (nI_le q (by omega))]
    · rw [if_neg (nI_ge (by omega) (by omega)), nI_add, if_pos (ix_nI (by omega) (by decide)), cl_nI (by omega), in_eq (-50) 50 (-50) 50 rfl rfl, Option.bind_some, h t (by omega), if_neg one_ne, nI_1]
      exact ih (t + 1) (by omega) (by omega)
theorem loop_m0 {m : ST} {a w c u : Nat} (hc : c ≤ 5) (ha : a + c ≤ 160) (hs : u < c) (hf : wb (gA m 30 (a + u)) (-50) 50 = 0) (h : ∀ t, t < u → wb (gA m 30 (a + t)) (-50) 50 = 1) : ∀ n t : Nat, t ≤ u → u < n + t → fX12_loop_65 n (nI w) (nI c) (nI a) (nI t) m = some (-2, m) := by
  intro n
  induction n with
  | zero => intro t h1 h2; omega
  | succ n ih =>
    intro t h1 h2
    rw [fX12_loop_65, if_neg (nI_ge (by omega) (by omega)), nI_add, if_pos (ix_nI (by omega) (by decide)), cl_nI (by omega), in_eq (-50) 50 (-50) 50 rfl rfl, Option.bind_some]
    by_cases q : t = u
    · rw [q, hf, if_pos rfl]
    · rw [h t (by omega), if_neg one_ne, nI_1]
      exact ih (t + 1) (by omega) (by omega)
theorem op_loop {k : Nat} {x m : ST} (h : Rel k x m) (hk : k < 512) (v1 v2 v3 v4 v5 : Int32) : Ans (k + 1) (fX11_loop v1 v2 v3 v4 v5 x) (fX12_loop v1 v2 v3 v4 v5 m) := by
  have hm := h.mono
  obtain ⟨g1, g2, g3, g4, g5, g6, g7, g8, g9, g10, g11, g12, g13⟩ := h.mono
  unfold fX11_loop fX12_loop
  simp only [wi, isSheet_m, in_eq 0 1 0 1 rfl rfl, in_eq 1 5 1 5 rfl rfl, Option.bind_some]
  rcases wb_n v1 1 2 (by decide) with e1 | ⟨e1, w, hw, rfl⟩
  · simp only [e1, if_true]
    exact ⟨_, _, _, rfl, rfl, hm⟩
  simp only [e1, if_neg one_ne]
  rcases wb_c v5 1 5 with e5 | ⟨e5, l5, u5⟩
  · simp only [e5, if_true]
    by_cases cb : (if wb v2 0 3 = 0 then (0 : Int32) else if wb v3 0 2 = 0 then 0 else 1) = 0
    · rw [if_pos cb]; exact ⟨_, _, _, rfl, rfl, hm⟩
    · rw [if_neg cb]; exact ⟨_, _, _, rfl, rfl, hm⟩
  simp only [e5, if_neg one_ne]
  obtain ⟨c, c1, c5, rfl⟩ := inb_nI (hi := 5) (inb_of l5 u5 (by decide) (by decide))
  rw [refusal_x h v2 v3 v4 c (by omega), Option.bind_some]
  by_cases cb : (if wb v2 0 3 = 0 then (0 : Int32) else if wb v3 0 2 = 0 then 0 else 1) = 0
  · simp only [rfs_bad cb]
    rw [if_neg (show ¬ (-1 : Int32) = 0 by decide), if_pos cb]
    exact ⟨_, _, _, rfl, rfl, hm⟩
  obtain ⟨w1, w2⟩ := rfs_good cb
  rw [if_neg cb, against_m w1 w2, Option.bind_some]
  by_cases cr : rfs m v2 v3 v4 (nI c) = 0
  · obtain ⟨j, n, i, hj, rfl, rfl, hin, n40, q1, q2, q3, q4, q5, q6⟩ := rfs_ok h (c := c) (by omega) cr
    simp only [cr, if_true, if_pos (show (0 : Int32) ≤ 0 by decide), i40']
    unfold fX8_allWithin
    have hxm : ∀ t, t < c → gA x 35 (40 * j + i + t) = gA m 30 (40 * j + i + t) := fun t ht => aw_eq (lo := 0) (hi := 0) hin q6 ht
    rcases aw_dec (gA m 30) (-50) 50 (40 * j + i) c with A | ⟨s, s1, s2, s3⟩
    · have A' : AW (gA x 35) (-50) 50 (40 * j + i) c := fun t ht => by rw [hxm t ht]; exact A t ht
      have X1 : fX8_allWithin_3 200 (nI j) (nI i) (nI c) (-50) 50 0 x = some (1, x) := aw_x1 hj (by omega) A' 200 0 (by omega) (by omega)
      have M1 : fX12_loop_65 200 (nI w) (nI c) (nI (40 * j + i)) 0 m = _ := loop_m1 (w := w) c5 (by omega) A 200 0 (by omega) (by omega)
      rw [X1, M1, Option.bind_some, if_neg one_ne]
      unfold fX12_loop_104
      have X2 := loop_x (x := x) hj hw c5 (i := i) (by omega) 200 0 (by omega) (by omega)
      have M2 := loop_m2 (m := m) hj hw c5 (i := i) (by omega) 200 0 (by omega) (by omega)
      rw [lpf_0, sF_id] at X2 M2
      have X3 : fX11_loop_69 200 (nI w) (nI j) (nI i) (nI c) 0 x = _ := X2
      have M3 : fX12_loop_107 200 (nI w) (nI c) (nI (40 * j + i)) 0 m = _ := M2
      rw [X3, M3]
      refine ⟨_, _, _, rfl, rfl, g1, g2, g3, g4, g5, g6, g7, g8, g9, g10, g11, ?_, g13⟩
      intro q hq
      show lpf (gA x 27) (gA x 35) (5 * w) (40 * j + i) c 5 q = lpf (gA m 23) (gA m 30) (5 * w) (40 * j + i) c 5 q ∧ inb (lpf (gA m 23) (gA m 30) (5 * w) (40 * j + i) c 5 q) (-50) 50
      unfold lpf
      by_cases z : 5 * w ≤ q ∧ q < 5 * w + 5
      · rw [if_pos z, if_pos z]
        by_cases z2 : q - 5 * w < c
        · rw [if_pos z2, if_pos z2]
          refine ⟨hxm _ z2, ?_⟩
          have := A (q - 5 * w) z2
          rcases wb_c (gA m 30 (40 * j + i + (q - 5 * w))) (-50) 50 with e | ⟨-, b1, b2⟩
          · rw [e] at this; exact absurd this.symm one_ne
          · exact inb_of b1 b2 (by decide) (by decide)
        · rw [if_neg z2, if_neg z2]
          exact ⟨rfl, (by decide : (-50 : Int) ≤ (0 : Int32).toInt ∧ (0 : Int32).toInt ≤ 50)⟩
      · rw [if_neg z, if_neg z]; exact g12 q hq
    · have X1 : fX8_allWithin_3 200 (nI j) (nI i) (nI c) (-50) 50 0 x = some (0, x) := aw_x0 (c := c) hj (by omega) s1 (by rw [hxm s s1]; exact s2) (fun t ht => by rw [hxm t (by omega)]; exact s3 t ht) 200 0 (by omega) (by omega)
      have M1 : fX12_loop_65 200 (nI w) (nI c) (nI (40 * j + i)) 0 m = _ := loop_m0 (w := w) c5 (by omega) s1 s2 s3 200 0 (by omega) (by omega)
      rw [X1, M1, Option.bind_some, if_pos rfl]
      exact ⟨_, _, _, rfl, rfl, hm⟩
  · simp only [if_neg cr, if_neg (rfs_neg cr)]
    exact ⟨_, _, _, rfl, rfl, hm⟩

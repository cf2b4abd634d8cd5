theorem psum_c {f g : Nat → Int32} : ∀ {n : Nat}, (∀ j, j < n → f j = g j) → psum f n = psum g n
  | 0, _ => rfl
  | n + 1, h => by
    unfold psum
    rw [psum_c (n := n) (fun j hj => h j (by omega)), h n (by omega)]
theorem pmax_c {f g : Nat → Int32} : ∀ {n : Nat}, (∀ j, j < n → f j = g j) → pmax f n = pmax g n
  | 0, _ => rfl
  | n + 1, h => by
    unfold pmax
    rw [pmax_c (n := n) (fun j hj => h j (by omega)), h n (by omega)]
theorem pmin_c {f g : Nat → Int32} : ∀ {n : Nat}, (∀ j, j < n → f j = g j) → pmin f n = pmin g n
  | 0, _ => rfl
  | n + 1, h => by
    unfold pmin
    rw [pmin_c (n := n) (fun j hj => h j (by omega)), h n (by omega)]
theorem psum_b {f : Nat → Int32} : ∀ {n : Nat}, n ≤ 9 → (∀ j, j < n → inb (f j) 1 99) → (n : Int) ≤ (psum f n).toInt ∧ (psum f n).toInt ≤ 99 * n
  | 0, _, _ => ⟨show (0 : Int) ≤ (0 : Int32).toInt by decide, show (0 : Int32).toInt ≤ 99 * ((0 : Nat) : Int) by decide⟩
  | n + 1, h9, h => by
    obtain ⟨h1, h2⟩ := psum_b (n := n) (by omega) (fun j hj => h j (by omega))
    obtain ⟨h3, h4⟩ := h n (by omega)
    unfold psum
    rw [ti_add (by omega) (by omega)]
    omega
theorem pkm1 {m : ST} {a s : Nat} {v1 v2 : Int32} (hs : s ≤ 8) (es : gI m 0 = nI s) (ha : a + s ≤ 160) (h : AW (gA m 30) (-999) 999 a s) : ∀ n t : Nat, t ≤ s → s < n + t → fX12_poke_66 n v1 v2 (nI a) (nI t) m = fX12_poke_107 v1 v2 (nI a) m := by
  intro n
  induction n with
  | zero => intro t h1 h2; omega
  | succ n ih =>
    intro t h1 h2
    rw [fX12_poke_66, es]
    by_cases q : s ≤ t
    · rw [if_pos (nI_le q (by omega))]
    · rw [if_neg (nI_ge (by omega) (by omega)), nI_add, if_pos (ix_nI (by omega) (by decide)), cl_nI (by omega), in_eq (-999) 999 (-999) 999 rfl rfl, Option.bind_some, h t (by omega), if_neg one_ne, nI_1]
      exact ih (t + 1) (by omega) (by omega)
theorem pkm0 {m : ST} {a s r : Nat} {v1 v2 : Int32} (hs : s ≤ 8) (es : gI m 0 = nI s) (ha : a + s ≤ 160) (hr : r < s) (hf : wb (gA m 30 (a + r)) (-999) 999 = 0) (h : ∀ t, t < r → wb (gA m 30 (a + t)) (-999) 999 = 1) : ∀ n t : Nat, t ≤ r → r < n + t → fX12_poke_66 n v1 v2 (nI a) (nI t) m = some (-2, m) := by
  intro n
  induction n with
  | zero => intro t h1 h2; omega
  | succ n ih =>
    intro t h1 h2
    rw [fX12_poke_66, es, if_neg (nI_ge (by omega) (by omega)), nI_add, if_pos (ix_nI (by omega) (by decide)), cl_nI (by omega), in_eq (-999) 999 (-999) 999 rfl rfl, Option.bind_some]
    by_cases q : t = r
    · rw [q, hf, if_pos rfl]
    · rw [h t (by omega), if_neg one_ne, nI_1]
      exact ih (t + 1) (by omega) (by omega)
theorem i8' (a b : Nat) : 8 * nI a + nI b = nI (8 * a + b) := by rw [show (8 : Int32) = nI 8 from rfl, pk_mul, nI_add]
theorem i9' (a b : Nat) : 9 * nI a + nI b = nI (9 * a + b) := by rw [show (9 : Int32) = nI 9 from rfl, pk_mul, nI_add]
theorem pkm2 {m : ST} {a s d : Nat} {v1 : Int32} (hs : s ≤ 8) (es : gI m 0 = nI s) (ha : a + s ≤ 160) (hd : d < 45) : ∀ n t : Nat, t ≤ s → s < n + t → fX12_poke_145 n v1 (nI a) (nI d) (nI t) (sF m 9 (cpf (gA m 9) (gA m 30) (8 * d) a t)) = fX12_poke_183 v1 (sF m 9 (cpf (gA m 9) (gA m 30) (8 * d) a s)) := by
  intro n
  induction n with
  | zero => intro t h1 h2; omega
  | succ n ih =>
    intro t h1 h2
    rw [fX12_poke_145, show gI (sF m 9 (cpf (gA m 9) (gA m 30) (8 * d) a t)) 0 = gI m 0 from rfl, es]
    by_cases q : s ≤ t
    · have : t = s := by omega
      subst this
      rw [if_pos (nI_le q (by omega))]
    · rw [if_neg (nI_ge (by omega) (by omega)), nI_add, if_pos (ix_nI (by omega) (by decide)), i8', if_pos (ix_nI (by omega) (by decide)), sA_sF, cl_nI (show 8 * d + t < 2 ^ 31 by omega), cl_nI (by omega), show gA (sF m 9 (cpf (gA m 9) (gA m 30) (8 * d) a t)) 30 = gA m 30 from rfl, cpf_s, nI_1]
      exact ih (t + 1) (by omega) (by omega)
theorem tab_4 {m : ST} {p c : Nat} (hp : p < 5) (hc : c ≤ 9) (e7 : gA m 7 p = nI c) : ∀ n i : Nat, i ≤ c → c < n + i → fX12_tabulate_4 n (nI p) (psum (fun j => gA m 8 (9 * p + j)) i) (nI i) m = fX12_tabulate_34 (nI p) (psum (fun j => gA m 8 (9 * p + j)) c) m := by
  intro n
  induction n with
  | zero => intro t h1 h2; omega
  | succ n ih =>
    intro i h1 h2
    rw [fX12_tabulate_4, if_pos (ix_nI hp (by decide)), cl_nI (by omega), e7]
    by_cases q : c ≤ i
    · have : i = c := by omega
      subst this
      rw [if_pos (nI_le q (by omega))]
    · rw [if_neg (nI_ge (by omega) (by omega)), i9', if_pos (ix_nI (by omega) (by decide)), cl_nI (by omega), nI_1]
      exact ih (i + 1) (by omega) (by omega)
theorem tab_50 {m : ST} {kb : Int32 → Int32 → Int32 → ST → Option ST} {p c q : Nat} {v2 : Int32} (hp : p < 5) (hc : c ≤ 9) (hq : q < 8) (e7 : gA m 7 p = nI c) : ∀ n i : Nat, i ≤ c → c < n + i → fX12_tabulate_50 kb n (nI p) v2 (nI q) (psum (fun j => gA m 9 (8 * (9 * p + j) + q)) i) (nI i) m = fX12_tabulate_80 kb (nI p) v2 (nI q) (psum (fun j => gA m 9 (8 * (9 * p + j) + q)) c) m := by
  intro n
  induction n with
  | zero => intro t h1 h2; omega
  | succ n ih =>
    intro i h1 h2
    rw [fX12_tabulate_50, if_pos (ix_nI hp (by decide)), cl_nI (by omega), e7]
    by_cases w : c ≤ i
    · have : i = c := by omega
      subst this
      rw [if_pos (nI_le w (by omega))]
    · unfold fX12_changeOf
      rw [if_neg (nI_ge (by omega) (by omega)), i9', i8', if_pos (ix_nI (by omega) (by decide)), cl_nI (by omega), Option.bind_some, nI_1]
      exact ih (i + 1) (by omega) (by omega)
theorem tab_36 {m : ST} {p c s : Nat} {B : Int32} {N : Nat → Int32} (hp : p < 5) (hc : c ≤ 9) (hs : s ≤ 8) (es : gI m 0 = nI s) (e7 : gA m 7 p = nI c) (hB : ¬ B = 0) (hN : ∀ q, q < s → N q = hl9 (psum (fun j => gA m 9 (8 * (9 * p + j) + q)) c / B)) : ∀ n t : Nat, t ≤ s → s < n + t → fX12_tabulate_36 n (nI p) B (nI t) (sF m 3 (cpl (gA m 3) p t N)) = some (sF m 3 (cpl (gA m 3) p s N)) := by
  intro n
  induction n with
  | zero => intro t h1 h2; omega
  | succ n ih =>
    intro t h1 h2
    rw [fX12_tabulate_36, show gI (sF m 3 (cpl (gA m 3) p t N)) 0 = gI m 0 from rfl, es]
    by_cases w : s ≤ t
    · have : t = s := by omega
      subst this
      rw [if_pos (nI_le w (by omega))]
    · rw [if_neg (nI_ge (by omega) (by omega))]
      have T := tab_50 (m := sF m 3 (cpl (gA m 3) p t N)) (kb := fX12_tabulate_36 n) (p := p) (c := c) (q := t) (v2 := B) hp hc (by omega) e7 200 0 (by omega) (by omega)
      rw [show fX12_tabulate_50 (fX12_tabulate_36 n) 200 (nI p) B (nI t) 0 0 (sF m 3 (cpl (gA m 3) p t N)) = _ from T]
      unfold fX12_tabulate_80 fX12_tabulate_121
      rw [if_neg hB, show gA (sF m 3 (cpl (gA m 3) p t N)) 9 = gA m 9 from rfl]
      have e := hN t (by omega)
      unfold hl9 at e
      rw [i5']
      simp only [if_pos (ix_nI (show 5 * t + p < 40 by omega) (by decide)), sA_sF, cl_nI (show 5 * t + p < 2 ^ 31 by omega), nI_1]
      have ih2 := ih (t + 1) (by omega) (by omega)
      rw [← cpl_s _ hp, e] at ih2
      by_cases d1 : psum (fun j => gA m 9 (8 * (9 * p + j) + t)) c / B ≤ 9
      · rw [if_pos d1]
        rw [if_pos d1] at ih2
        by_cases d2 : -9 ≤ psum (fun j => gA m 9 (8 * (9 * p + j) + t)) c / B
        · rw [if_pos d2]
          rw [if_pos d2] at ih2
          exact ih2
        · rw [if_neg d2]
          rw [if_neg d2] at ih2
          exact ih2
      · rw [if_neg d1]
        rw [if_neg d1] at ih2
        exact ih2
theorem div_b {v b : Int32} {lo : Nat} (h : -(lo : Int) ≤ v.toInt ∧ v.toInt ≤ lo) (hlo : lo < 2147483648) : -(lo : Int) ≤ (v / b).toInt ∧ (v / b).toInt ≤ lo := by
  rw [ti_div (by omega)]
  have : (v.toInt.tdiv b.toInt).natAbs ≤ v.toInt.natAbs := by
    rw [Int.natAbs_tdiv]
    exact Nat.div_le_self _ _
  omega
theorem op_poke {k : Nat} {x m : ST} (h : Rel k x m) (hk : k < 512) (v1 v2 v3 v4 v5 : Int32) : Ans (k + 1) (fX11_poke v1 v2 v3 v4 v5 x) (fX12_poke v1 v2 v3 v4 v5 m) := by
  have hm := h.mono
  obtain ⟨s, s1, s8, ex, em⟩ := h.s
  obtain ⟨p, p1, p5, px, pm⟩ := h.p
  have hp := nI_m1 (n := p) (by omega)
  obtain ⟨g1, g2, g3, g4, g5, g6, g7⟩ := h.mono
  unfold fX11_poke fX12_poke fX9_count
  simp only [isPart_x, isPart_m, px, pm, wi, in_eq 1 99 1 99 rfl rfl, isSheet_m, Option.bind_some]
  rcases wb_n v1 _ p hp with e1 | ⟨e1, P, hP, rfl⟩
  · simp only [e1, if_true]
    exact ⟨_, _, _, rfl, rfl, hm⟩
  simp only [e1, if_neg one_ne]
  rcases wb_c v2 1 99 with e2 | ⟨e2, l2, u2⟩
  · simp only [e2, if_true]
    exact ⟨_, _, _, rfl, rfl, hm⟩
  simp only [e2, if_neg one_ne, ex, em]
  rw [refusal_x h v3 v4 v5 s (by omega), Option.bind_some]
  by_cases cb : (if wb v3 0 3 = 0 then (0 : Int32) else if wb v4 0 2 = 0 then 0 else 1) = 0
  · simp only [rfs_bad cb]
    rw [if_neg (show ¬ (-1 : Int32) = 0 by decide), if_pos cb]
    exact ⟨_, _, _, rfl, rfl, hm⟩
  obtain ⟨w1, w2⟩ := rfs_good cb
  rw [if_neg cb, against_m w1 w2, Option.bind_some]
  by_cases cr : rfs m v3 v4 v5 (nI s) = 0
  case neg =>
    simp only [if_neg cr, if_neg (rfs_neg cr)]
    exact ⟨_, _, _, rfl, rfl, hm⟩
  obtain ⟨j, n, i, hj, rfl, rfl, hin, n40, q1, q2, q3, q4, q5, q6⟩ := rfs_ok h (c := s) (by omega) cr
  simp only [cr, if_true, if_pos (show (0 : Int32) ≤ 0 by decide), i40', ex]
  unfold fX8_allWithin
  have hxm : ∀ t, t < s → gA x 35 (40 * j + i + t) = gA m 30 (40 * j + i + t) := fun t ht => aw_eq (lo := 0) (hi := 0) hin q6 ht
  rcases aw_dec (gA m 30) (-999) 999 (40 * j + i) s with A | ⟨r, r1, r2, r3⟩
  case inr =>
    have X1 : fX8_allWithin_3 200 (nI j) (nI i) (nI s) (-999) 999 0 x = some (0, x) := aw_x0 (c := s) hj (by omega) r1 (by rw [hxm r r1]; exact r2) (fun t ht => by rw [hxm t (by omega)]; exact r3 t ht) 200 0 (by omega) (by omega)
    have M1 : fX12_poke_66 200 (nI P) v2 (nI (40 * j + i)) 0 m = _ := pkm0 (v1 := nI P) (v2 := v2) s8 em (by omega) r1 r2 r3 200 0 (by omega) (by omega)
    rw [X1, M1, Option.bind_some, if_pos rfl]
    exact ⟨_, _, _, rfl, rfl, hm⟩
  have A' : AW (gA x 35) (-999) 999 (40 * j + i) s := fun t ht => by rw [hxm t ht]; exact A t ht
  have X1 : fX8_allWithin_3 200 (nI j) (nI i) (nI s) (-999) 999 0 x = some (1, x) := aw_x1 hj (by omega) A' 200 0 (by omega) (by omega)
  have M1 : fX12_poke_66 200 (nI P) v2 (nI (40 * j + i)) 0 m = _ := pkm1 (v1 := nI P) (v2 := v2) s8 em (by omega) A 200 0 (by omega) (by omega)
  rw [X1, M1, Option.bind_some, if_neg one_ne]
  obtain ⟨c, c9, y1, y2, y3, y4⟩ := g6 P (by omega)
  unfold fX10_pokesOf fX12_poke_107
  simp only [if_pos (ix_nI (show P < 5 by omega) (by decide)), cl_nI (show P < 2 ^ 31 by omega), Option.bind_some, y1, y2]
  by_cases c8 : c = 9
  · subst c8
    rw [if_neg (show ¬ nI 9 < 9 by decide), if_pos (show nI 9 = 9 from rfl)]
    exact ⟨_, _, _, rfl, rfl, hm⟩
  have hlt : nI c < 9 := by
    rw [Int32.lt_iff_toInt_lt, nI_toInt (by omega)]
    show (c : Int) < 9
    omega
  have hne9 : ¬ nI c = 9 := by
    intro e
    rw [e] at hlt
    exact absurd hlt (by decide)
  rw [if_pos hlt, if_neg hne9, i9', if_pos (ix_nI (by omega) (by decide))]
  -- what both hold afterwards
  have hv2 : inb v2 1 99 := inb_of l2 u2 (by decide) (by decide)
  generalize hM8 : upd (gA m 8) (9 * P + c) v2 = M8
  generalize hM9 : cpf (gA m 9) (gA m 30) (8 * (9 * P + c)) (40 * j + i) s = M9
  have a8 : ∀ t, t < c → M8 (9 * P + t) = gA m 8 (9 * P + t) := fun t ht => by rw [← hM8]; exact upd_n (by omega)
  have b8 : M8 (9 * P + c) = v2 := by rw [← hM8]; exact upd_s
  have d8 : ∀ p' t, p' ≠ P → t < 9 → M8 (9 * p' + t) = gA m 8 (9 * p' + t) := fun p' t h1 h2 => by rw [← hM8]; exact upd_n (by omega)
  have a9 : ∀ t q, t < c → q < 8 → M9 (8 * (9 * P + t) + q) = gA m 9 (8 * (9 * P + t) + q) := fun t q h1 h2 => by
    rw [← hM9]; unfold cpf; rw [if_neg (by omega)]
  have b9 : ∀ q, q < s → M9 (8 * (9 * P + c) + q) = gA m 30 (40 * j + i + q) := fun q h1 => by
    rw [← hM9]; unfold cpf; rw [if_pos (by omega), Nat.add_sub_cancel_left]
  have d9 : ∀ p' t q, p' ≠ P → t < 9 → q < 8 → M9 (8 * (9 * p' + t) + q) = gA m 9 (8 * (9 * p' + t) + q) := fun p' t q h1 h2 h3 => by
    rw [← hM9]; unfold cpf; rw [if_neg (by omega)]
  have hby : ∀ t, t < c + 1 → inb (M8 (9 * P + t)) 1 99 := by
    intro t ht
    by_cases e : t = c
    · rw [e, b8]; exact hv2
    · rw [a8 t (by omega)]; exact y3 t (by omega)
  have hit : ∀ q, q < s → inb (gA m 30 (40 * j + i + q)) (-999) 999 := by
    intro q hq
    have := A q hq
    rcases wb_c (gA m 30 (40 * j + i + q)) (-999) 999 with e | ⟨-, b1, b2⟩
    · rw [e] at this; exact absurd this.symm one_ne
    · exact inb_of b1 b2 (by decide) (by decide)
  have hlt' : ∀ q, q < s → nI q < gI m 0 := fun q hq => by rw [em]; exact nI_lt hq (by omega)
  obtain ⟨hB1, hB2⟩ := psum_b (f := fun t => M8 (9 * P + t)) (n := c + 1) (by omega) hby
  have hbys : (if nI c = 0 then 0 else gA x 45 P) + v2 = psum (fun t => M8 (9 * P + t)) (c + 1) := by
    unfold psum
    rw [b8, psum_c (g := fun j => gA m 8 (9 * P + j)) (fun j hj => a8 j hj)]
    by_cases c0 : c = 0
    · subst c0; rfl
    · rw [if_neg (nI_ne0 (by omega) (by omega)), (y4 c0).1]
  generalize hBS : psum (fun t => M8 (9 * P + t)) (c + 1) = BS at hB1 hB2 hbys
  have hB : fX10_begin (nI P) v2 x = some (sF (sF x 45 (upd (gA x 45) P BS)) 46 (upd (gA x 46) P (nI (c + 1)))) := by
    unfold fX10_begin fX10_begin_24
    rw [← hbys]
    simp only [if_pos (ix_nI (show P < 5 by omega) (by decide)), cl_nI (show P < 2 ^ 31 by omega), y1]
    by_cases c0 : nI c = 0
    · rw [if_pos c0, if_pos c0]
      unfold sA
      rw [cl_nI (by omega), show ∀ f, gA (sF x 45 f) 46 = gA x 46 from fun _ => rfl, y1, nI_1]
    · rw [if_neg c0, if_neg c0]
      unfold sA
      rw [cl_nI (by omega), show ∀ f, gA (sF x 45 f) 46 = gA x 46 from fun _ => rfl, y1, nI_1]
  rw [hB, Option.bind_some]
  have h1c : (nI (c + 1) = 1) = (c = 0) := by
    apply propext
    constructor
    · intro e
      have := congrArg Int32.toInt e
      rw [nI_toInt (by omega)] at this
      have o : (1 : Int32).toInt = 1 := by decide
      omega
    · intro e; subst e; rfl
  have X2 := poke_x (x := sF (sF x 45 (upd (gA x 45) P BS)) 46 (upd (gA x 46) P (nI (c + 1)))) (p := P) (j := j) (i := i) (s := s) (b := v2)
    (C := fun q => psum (fun t => M9 (8 * (9 * P + t) + q)) (c + 1)) (G := fun q => pmax (fun t => M9 (8 * (9 * P + t) + q) / M8 (9 * P + t)) (c + 1)) (L := fun q => pmin (fun t => M9 (8 * (9 * P + t) + q) / M8 (9 * P + t)) (c + 1)) (N := fun q => hl9 (psum (fun t => M9 (8 * (9 * P + t) + q)) (c + 1) / BS))
    (by omega) hj s8 (by omega) (by have := hv2.1; omega) (by show 0 < (upd (gA x 45) P BS P).toInt; rw [upd_s]; omega) ex
    (by
      intro q hq
      show psum (fun t => M9 (8 * (9 * P + t) + q)) (c + 1) = (if upd (gA x 46) P (nI (c + 1)) P = 1 then 0 else gA x 42 (5 * q + P)) + gA x 35 (40 * j + i + q)
      rw [upd_s, psum, b9 q hq, psum_c (g := fun j => gA m 9 (8 * (9 * P + j) + q)) (fun t ht => a9 t q ht (by omega)), hxm q hq]
      simp only [h1c]
      by_cases c0 : c = 0
      · subst c0; rfl
      · rw [if_neg c0, ((y4 c0).2 q (hlt' q hq) (by omega)).2.1])
    (by
      intro q hq
      show pmax (fun t => M9 (8 * (9 * P + t) + q) / M8 (9 * P + t)) (c + 1) = if upd (gA x 46) P (nI (c + 1)) P = 1 then gA x 35 (40 * j + i + q) / v2 else if gA x 43 (5 * q + P) < gA x 35 (40 * j + i + q) / v2 then gA x 35 (40 * j + i + q) / v2 else gA x 43 (5 * q + P)
      rw [upd_s, pmax, b9 q hq, b8, pmax_c (g := fun j => gA m 9 (8 * (9 * P + j) + q) / gA m 8 (9 * P + j)) (fun t ht => by rw [a9 t q ht (by omega), a8 t ht]), hxm q hq]
      simp only [h1c]
      by_cases c0 : c = 0
      · subst c0
        rw [if_pos rfl, pmax, if_pos]
        have := div_b (v := gA m 30 (40 * j + i + q)) (b := v2) (lo := 999) (hit q hq) (by decide)
        rw [Int32.lt_iff_toInt_lt]
        have o : (-1000 : Int32).toInt = -1000 := by decide
        omega
      · rw [if_neg c0, ((y4 c0).2 q (hlt' q hq) (by omega)).2.2.1])
    (by
      intro q hq
      show pmin (fun t => M9 (8 * (9 * P + t) + q) / M8 (9 * P + t)) (c + 1) = if upd (gA x 46) P (nI (c + 1)) P = 1 then gA x 35 (40 * j + i + q) / v2 else if gA x 35 (40 * j + i + q) / v2 < gA x 44 (5 * q + P) then gA x 35 (40 * j + i + q) / v2 else gA x 44 (5 * q + P)
      rw [upd_s, pmin, b9 q hq, b8, pmin_c (g := fun j => gA m 9 (8 * (9 * P + j) + q) / gA m 8 (9 * P + j)) (fun t ht => by rw [a9 t q ht (by omega), a8 t ht]), hxm q hq]
      simp only [h1c]
      by_cases c0 : c = 0
      · subst c0
        rw [if_pos rfl, pmin, if_pos]
        have := div_b (v := gA m 30 (40 * j + i + q)) (b := v2) (lo := 999) (hit q hq) (by decide)
        rw [Int32.lt_iff_toInt_lt]
        have o : (1000 : Int32).toInt = 1000 := by decide
        omega
      · rw [if_neg c0, ((y4 c0).2 q (hlt' q hq) (by omega)).2.2.2])
    (by
      intro q hq
      show hl9 (psum (fun t => M9 (8 * (9 * P + t) + q)) (c + 1) / BS) = hl9 (psum (fun t => M9 (8 * (9 * P + t) + q)) (c + 1) / upd (gA x 45) P BS P)
      rw [upd_s]) 200 0 (by omega) (by omega)
  rw [cpl_0, cpl_0, cpl_0, cpl_0] at X2
  have X3 : ∀ y : ST, quad y (gA y 42) (gA y 43) (gA y 44) (gA y 41) = y := by
    intro y
    unfold quad
    rw [sF_id, sF_id, sF_id, sF_id]
  rw [X3, show gA (sF (sF x 45 (upd (gA x 45) P BS)) 46 (upd (gA x 46) P (nI (c + 1)))) 46 P = upd (gA x 46) P (nI (c + 1)) P from rfl, upd_s] at X2
  rw [show fX11_poke_106 200 (nI P) v2 (nI j) (nI i) 0 (sF (sF x 45 (upd (gA x 45) P BS)) 46 (upd (gA x 46) P (nI (c + 1)))) = _ from X2]
  -- the reference
  have M2 := pkm2 (m := sF m 8 M8) (a := 40 * j + i) (s := s) (d := 9 * P + c) (v1 := nI P) s8 em (by omega) (by omega) 200 0 (by omega) (by omega)
  rw [cpf_0, sF_id, show gA (sF m 8 M8) 9 = gA m 9 from rfl, show gA (sF m 8 M8) 30 = gA m 30 from rfl, hM9] at M2
  have e8 : sA m 8 (nI (9 * P + c)) v2 = sF m 8 M8 := by
    unfold sA
    rw [cl_nI (by omega), hM8]
  rw [e8, show fX12_poke_145 200 (nI P) (nI (40 * j + i)) (nI (9 * P + c)) 0 (sF m 8 M8) = _ from M2]
  unfold fX12_poke_183 fX12_tabulate
  have e7 : sA (sF (sF m 8 M8) 9 M9) 7 (nI P) (gA (sF (sF m 8 M8) 9 M9) 7 (nI P).toNatClampNeg + 1) = sF (sF (sF m 8 M8) 9 M9) 7 (upd (gA m 7) P (nI (c + 1))) := by
    unfold sA
    rw [cl_nI (by omega), show gA (sF (sF m 8 M8) 9 M9) 7 = gA m 7 from rfl, y2, nI_1]
  rw [e7]
  simp only [if_pos (ix_nI (show P < 5 by omega) (by decide)), cl_nI (show P < 2 ^ 31 by omega)]
  have e77 : gA (sF (sF (sF m 8 M8) 9 M9) 7 (upd (gA m 7) P (nI (c + 1)))) 7 P = nI (c + 1) := by
    rw [gA_sF, upd_s]
  have T1 := tab_4 (m := sF (sF (sF m 8 M8) 9 M9) 7 (upd (gA m 7) P (nI (c + 1)))) (p := P) (c := c + 1) (by omega) (by omega) e77 200 0 (by omega) (by omega)
  rw [show psum (fun j => gA (sF (sF (sF m 8 M8) 9 M9) 7 (upd (gA m 7) P (nI (c + 1)))) 8 (9 * P + j)) (c + 1) = BS from hBS] at T1
  rw [show fX12_tabulate_4 200 (nI P) 0 0 (sF (sF (sF m 8 M8) 9 M9) 7 (upd (gA m 7) P (nI (c + 1)))) = _ from T1]
  unfold fX12_tabulate_34
  have hB0 : ¬ BS = 0 := by
    intro e
    rw [e] at hB1
    have o : (0 : Int32).toInt = 0 := by decide
    omega
  have T2 := tab_36 (m := sF (sF (sF m 8 M8) 9 M9) 7 (upd (gA m 7) P (nI (c + 1)))) (p := P) (c := c + 1) (s := s) (B := BS) (N := fun q => hl9 (psum (fun t => M9 (8 * (9 * P + t) + q)) (c + 1) / BS)) (by omega) (by omega) s8 em e77 hB0 (fun q hq => rfl) 200 0 (by omega) (by omega)
  rw [cpl_0, sF_id] at T2
  rw [show fX12_tabulate_36 200 (nI P) BS 0 (sF (sF (sF m 8 M8) 9 M9) 7 (upd (gA m 7) P (nI (c + 1)))) = _ from T2, Option.bind_some]
  have E : ∀ g, gA (sF (sF (sF (sF m 8 M8) 9 M9) 7 (upd (gA m 7) P (nI (c + 1)))) 3 g) 7 P = nI (c + 1) := fun g => upd_s
  rw [E]
  refine ⟨_, _, _, rfl, rfl, g1, g2, g3, g4, ?_, ?_, g7⟩
  · intro t ht
    show cpl (gA x 41) P s (fun q => hl9 (psum (fun t => M9 (8 * (9 * P + t) + q)) (c + 1) / BS)) t = cpl (gA m 3) P s (fun q => hl9 (psum (fun t => M9 (8 * (9 * P + t) + q)) (c + 1) / BS)) t ∧ inb (cpl (gA m 3) P s (fun q => hl9 (psum (fun t => M9 (8 * (9 * P + t) + q)) (c + 1) / BS)) t) (-9) 9
    unfold cpl
    by_cases z : t % 5 = P ∧ t / 5 < s
    · rw [if_pos z, if_pos z]
      exact ⟨rfl, hl9_b _⟩
    · rw [if_neg z, if_neg z]
      exact g5 t ht
  · show RPoke (gI m 0) (cpl (gA x 42) P s (fun q => psum (fun t => M9 (8 * (9 * P + t) + q)) (c + 1))) (cpl (gA x 43) P s (fun q => pmax (fun t => M9 (8 * (9 * P + t) + q) / M8 (9 * P + t)) (c + 1))) (cpl (gA x 44) P s (fun q => pmin (fun t => M9 (8 * (9 * P + t) + q) / M8 (9 * P + t)) (c + 1))) (upd (gA x 45) P BS) (upd (gA x 46) P (nI (c + 1))) (upd (gA m 7) P (nI (c + 1))) M8 M9
    intro p' hp'
    by_cases e : p' = P
    · subst e
      refine ⟨c + 1, by omega, upd_s, upd_s, hby, fun _ => ⟨by rw [upd_s, hBS], ?_⟩⟩
      intro q hq q8
      have hqs : q < s := by
        rw [em, Int32.lt_iff_toInt_lt, nI_toInt (by omega), nI_toInt (by omega)] at hq
        omega
      rw [cpl_in (by omega) hqs, cpl_in (by omega) hqs, cpl_in (by omega) hqs]
      refine ⟨?_, rfl, rfl, rfl⟩
      intro t ht
      by_cases e : t = c
      · rw [e, b9 q hqs]; exact hit q hqs
      · rw [a9 t q (by omega) q8]
        exact ((y4 (by omega)).2 q hq q8).1 t (by omega)
    · obtain ⟨c', c9', z1, z2, z3, z4⟩ := g6 p' hp'
      refine ⟨c', c9', by rw [upd_n e]; exact z1, by rw [upd_n e]; exact z2, fun t ht => by rw [d8 p' t e (by omega)]; exact z3 t ht, fun h0 => ?_⟩
      obtain ⟨z5, z6⟩ := z4 h0
      refine ⟨by rw [upd_n e, z5]; exact psum_c (fun t ht => (d8 p' t e (by omega)).symm), ?_⟩
      intro q hq q8
      obtain ⟨z7, z8, z9, z10⟩ := z6 q hq q8
      rw [cpl_ne hp' e, cpl_ne hp' e, cpl_ne hp' e, z8, z9, z10]
      refine ⟨fun t ht => by rw [d9 p' t q e (by omega) q8]; exact z7 t ht, psum_c (fun t ht => (d9 p' t q e (by omega) q8).symm), pmax_c (fun t ht => ?_), pmin_c (fun t ht => ?_)⟩
      · rw [d9 p' t q e (by omega) q8, d8 p' t e (by omega)]
      · rw [d9 p' t q e (by omega) q8, d8 p' t e (by omega)]

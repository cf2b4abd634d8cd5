/-! poke -/
/-- places 5 q + p for q < i hold g q -/
def cpl (f : Nat → Int32) (p i : Nat) (g : Nat → Int32) : Nat → Int32 := fun j => if j % 5 = p ∧ j / 5 < i then g (j / 5) else f j
theorem cpl_0 (f : Nat → Int32) (p : Nat) (g : Nat → Int32) : cpl f p 0 g = f := by
  funext j; unfold cpl; rw [if_neg (by omega)]
theorem cpl_s (f : Nat → Int32) {p : Nat} (hp : p < 5) (i : Nat) (g : Nat → Int32) : upd (cpl f p i g) (5 * i + p) (g i) = cpl f p (i + 1) g := by
  funext j
  rw [upd_eq]
  unfold cpl
  by_cases h : j = 5 * i + p
  · rw [if_pos h, if_pos (by omega)]
    congr 1
    omega
  · rw [if_neg h]
    by_cases h2 : j % 5 = p ∧ j / 5 < i
    · rw [if_pos h2, if_pos (by omega)]
    · rw [if_neg h2, if_neg (by omega)]
theorem cpl_in {f : Nat → Int32} {p i q : Nat} {g : Nat → Int32} (hp : p < 5) (h : q < i) : cpl f p i g (5 * q + p) = g q := by
  unfold cpl
  rw [if_pos (by omega)]
  congr 1
  omega
theorem cpl_out {f : Nat → Int32} {p i q : Nat} {g : Nat → Int32} (hp : p < 5) (h : i ≤ q) : cpl f p i g (5 * q + p) = f (5 * q + p) := by
  unfold cpl
  rw [if_neg (by omega)]
theorem cpl_ne {f : Nat → Int32} {p p' i q : Nat} {g : Nat → Int32} (hp : p' < 5) (h : p' ≠ p) : cpl f p i g (5 * q + p') = f (5 * q + p') := by
  unfold cpl
  rw [if_neg (by omega)]
def quad (x : ST) (a b c d : Nat → Int32) : ST := sF (sF (sF (sF x 42 a) 43 b) 44 c) 41 d
theorem quad_w (x : ST) (a b c d : Nat → Int32) (t v1 v2 v3 v4 : Int32) : sA (sA (sA (sA (quad x a b c d) 42 t v1) 43 t v2) 44 t v3) 41 t v4 = quad x (upd a t.toNatClampNeg v1) (upd b t.toNatClampNeg v2) (upd c t.toNatClampNeg v3) (upd d t.toNatClampNeg v4) := by
  have e1 : sA (quad x a b c d) 42 t v1 = quad x (upd a t.toNatClampNeg v1) b c d := by
    unfold sA quad
    show sF (sF (sF (sF (sF x 42 a) 43 b) 44 c) 41 d) 42 (upd a t.toNatClampNeg v1) = _
    rw [sF_c _ (show 41 ≠ 42 by decide), sF_c _ (show 44 ≠ 42 by decide), sF_c _ (show 43 ≠ 42 by decide), sF_sF]
  have e2 : ∀ a b c d, sA (quad x a b c d) 43 t v2 = quad x a (upd b t.toNatClampNeg v2) c d := by
    intro a b c d
    unfold sA quad
    show sF (sF (sF (sF (sF x 42 a) 43 b) 44 c) 41 d) 43 (upd b t.toNatClampNeg v2) = _
    rw [sF_c _ (show 41 ≠ 43 by decide), sF_c _ (show 44 ≠ 43 by decide), sF_sF]
  have e3 : ∀ a b c d, sA (quad x a b c d) 44 t v3 = quad x a b (upd c t.toNatClampNeg v3) d := by
    intro a b c d
    unfold sA quad
    show sF (sF (sF (sF (sF x 42 a) 43 b) 44 c) 41 d) 44 (upd c t.toNatClampNeg v3) = _
    rw [sF_c _ (show 41 ≠ 44 by decide), sF_sF]
  have e4 : ∀ a b c d, sA (quad x a b c d) 41 t v4 = quad x a b c (upd d t.toNatClampNeg v4) := by
    intro a b c d
    unfold sA quad
    show sF (sF (sF (sF (sF x 42 a) 43 b) 44 c) 41 d) 41 (upd d t.toNatClampNeg v4) = _
    rw [sF_sF]
  rw [e1, e2, e3, e4]
theorem cut_pos {v b : Int32} (h : 0 < b.toInt) : fX11_cut v b = some (v / b) := by
  have h1 : ¬ b ≤ 0 := by rw [Int32.le_iff_toInt_le]; have z : (0 : Int32).toInt = 0 := by decide
                          omega
  have h2 : ¬ b = 0 := by intro e; rw [e] at h; exact absurd h (by decide)
  unfold fX11_cut
  rw [if_neg h1, if_neg h2]
def hl9 (v : Int32) : Int32 := if v ≤ 9 then (if -9 ≤ v then v else -9) else 9
theorem held9 (v : Int32) : fX11_held v (-9) 9 = some (hl9 v) := by
  unfold fX11_held hl9
  congr 1
  have n9 : (-9 : Int32).toInt = -9 := by decide
  have p9 : (9 : Int32).toInt = 9 := by decide
  by_cases c : v < 9
  · rw [if_pos c, if_pos (Int32.le_of_lt c)]
    by_cases d : -9 < v
    · rw [if_pos d, if_pos (Int32.le_of_lt d)]
    · rw [if_neg d]
      by_cases e : -9 ≤ v
      · rw [if_pos e]
        exact Int32.le_antisymm e (Int32.not_lt.mp d)
      · rw [if_neg e]
  · rw [if_neg c, if_pos (show (-9 : Int32) < 9 by decide)]
    by_cases e : v ≤ 9
    · rw [if_pos e]
      have : v = 9 := Int32.le_antisymm e (Int32.not_lt.mp c)
      subst this
      decide
    · rw [if_neg e]
theorem hl9_b (v : Int32) : inb (hl9 v) (-9) 9 := by
  have n9 : (-9 : Int32).toInt = -9 := by decide
  have p9 : (9 : Int32).toInt = 9 := by decide
  unfold hl9 inb
  by_cases c : v ≤ 9
  · rw [if_pos c]
    by_cases d : -9 ≤ v
    · rw [if_pos d]
      rw [Int32.le_iff_toInt_le] at c d
      omega
    · rw [if_neg d]; omega
  · rw [if_neg c]; omega
/-- what one change makes of the four numbers of a spot and the part -/
theorem add_x {y : ST} {q p : Nat} {b v : Int32} (hq : q < 8) (hp : p < 5) (hb : 0 < b.toInt) (hb2 : 0 < (gA y 45 p).toInt) :
    fX10_add (nI q) (nI p) b v y = some (sA (sA (sA (sA y 42 (nI (5 * q + p)) ((if gA y 46 p = 1 then 0 else gA y 42 (5 * q + p)) + v)) 43 (nI (5 * q + p)) (if gA y 46 p = 1 then v / b else if gA y 43 (5 * q + p) < v / b then v / b else gA y 43 (5 * q + p))) 44 (nI (5 * q + p)) (if gA y 46 p = 1 then v / b else if v / b < gA y 44 (5 * q + p) then v / b else gA y 44 (5 * q + p))) 41 (nI (5 * q + p)) (hl9 (((if gA y 46 p = 1 then 0 else gA y 42 (5 * q + p)) + v) / gA y 45 p))) := by
  unfold fX10_add
  rw [cut_pos hb, Option.bind_some, if_pos (ix_nI hp (by decide)), cl_nI (by omega), i5]
  have ix := ix_nI (show 5 * q + p < 40 by omega) (by decide)
  have cl := cl_nI (show 5 * q + p < 2 ^ 31 by omega)
  have clp := cl_nI (show p < 2 ^ 31 by omega)
  have up : ∀ (f : Nat → Int32) (v : Int32), upd f (5 * q + p) v (5 * q + p) = v := fun f v => upd_s
  by_cases c : gA y 46 p = 1
  · simp only [if_pos c]
    unfold fX10_add_30 fX10_add_54 fX10_add_86 fX10_add_115
    simp only [if_neg one_ne, if_pos ix, if_pos (ix_nI hp (by decide)), cl, clp]
    rw [show gA (sA (sA (sA y 42 (nI (5 * q + p)) (0 + v)) 43 (nI (5 * q + p)) (v / b)) 44 (nI (5 * q + p)) (v / b)) 42 (5 * q + p) = upd (gA y 42) (nI (5 * q + p)).toNatClampNeg (0 + v) (5 * q + p) from rfl, show gA (sA (sA (sA y 42 (nI (5 * q + p)) (0 + v)) 43 (nI (5 * q + p)) (v / b)) 44 (nI (5 * q + p)) (v / b)) 45 p = gA y 45 p from rfl, cl, up, cut_pos hb2, Option.bind_some, held9, Option.bind_some]
  · simp only [if_neg c]
    unfold fX10_add_30 fX10_add_54 fX10_add_86 fX10_add_115
    simp only [if_true, if_pos ix, if_pos (ix_nI hp (by decide)), cl, clp]
    generalize hC : gA y 42 (5 * q + p) + v = C
    rw [show gA (sA y 42 (nI (5 * q + p)) C) 43 (5 * q + p) = gA y 43 (5 * q + p) from rfl]
    generalize hG : (if gA y 43 (5 * q + p) < v / b then v / b else gA y 43 (5 * q + p)) = G
    rw [show gA (sA (sA y 42 (nI (5 * q + p)) C) 43 (nI (5 * q + p)) G) 44 (5 * q + p) = gA y 44 (5 * q + p) from rfl]
    generalize hL : (if v / b < gA y 44 (5 * q + p) then v / b else gA y 44 (5 * q + p)) = L
    rw [show gA (sA (sA (sA y 42 (nI (5 * q + p)) C) 43 (nI (5 * q + p)) G) 44 (nI (5 * q + p)) L) 42 (5 * q + p) = upd (gA y 42) (nI (5 * q + p)).toNatClampNeg C (5 * q + p) from rfl, show gA (sA (sA (sA y 42 (nI (5 * q + p)) C) 43 (nI (5 * q + p)) G) 44 (nI (5 * q + p)) L) 45 p = gA y 45 p from rfl, cl, up, cut_pos hb2, Option.bind_some, held9, Option.bind_some]
/-- the class's loop over the spots -/
theorem poke_x {x : ST} {p j i s : Nat} {b : Int32} {C G L N : Nat → Int32} (hp : p < 5) (hj : j < 4) (hs : s ≤ 8) (hi : i + s ≤ 40) (hb : 0 < b.toInt) (hb2 : 0 < (gA x 45 p).toInt) (es : gI x 11 = nI s)
    (hC : ∀ q, q < s → C q = (if gA x 46 p = 1 then 0 else gA x 42 (5 * q + p)) + gA x 35 (40 * j + i + q))
    (hG : ∀ q, q < s → G q = if gA x 46 p = 1 then gA x 35 (40 * j + i + q) / b else if gA x 43 (5 * q + p) < gA x 35 (40 * j + i + q) / b then gA x 35 (40 * j + i + q) / b else gA x 43 (5 * q + p))
    (hL : ∀ q, q < s → L q = if gA x 46 p = 1 then gA x 35 (40 * j + i + q) / b else if gA x 35 (40 * j + i + q) / b < gA x 44 (5 * q + p) then gA x 35 (40 * j + i + q) / b else gA x 44 (5 * q + p))
    (hN : ∀ q, q < s → N q = hl9 (C q / gA x 45 p)) :
    ∀ n t : Nat, t ≤ s → s < n + t → fX11_poke_106 n (nI p) b (nI j) (nI i) (nI t) (quad x (cpl (gA x 42) p t C) (cpl (gA x 43) p t G) (cpl (gA x 44) p t L) (cpl (gA x 41) p t N)) = some (gA x 46 p, quad x (cpl (gA x 42) p s C) (cpl (gA x 43) p s G) (cpl (gA x 44) p s L) (cpl (gA x 41) p s N)) := by
  intro n
  induction n with
  | zero => intro t h1 h2; omega
  | succ n ih =>
    intro t h1 h2
    rw [fX11_poke_106]
    unfold fX9_count
    rw [Option.bind_some]
    by_cases c : s ≤ t
    · have : t = s := by omega
      subst this
      simp only [show ∀ a b c d, gI (quad x a b c d) 11 = gI x 11 from fun _ _ _ _ => rfl, es]
      rw [if_pos (nI_le c (by omega))]
      unfold fX11_poke_148 fX10_pokesOf
      rw [if_pos (ix_nI hp (by decide)), cl_nI (by omega), Option.bind_some]
      rfl
    · simp only [show ∀ a b c d, gI (quad x a b c d) 11 = gI x 11 from fun _ _ _ _ => rfl, es]
      rw [if_neg (nI_ge (by omega) (by omega))]
      unfold fX8_at
      rw [nI_add, i40, if_pos (ix_nI (by omega) (by decide)), Option.bind_some]
      simp only [cl_nI (show 40 * j + (i + t) < 2 ^ 31 by omega), show ∀ a b c d, gA (quad x a b c d) 35 = gA x 35 from fun _ _ _ _ => rfl]
      rw [add_x (by omega) hp hb (show 0 < (gA (quad x (cpl (gA x 42) p t C) (cpl (gA x 43) p t G) (cpl (gA x 44) p t L) (cpl (gA x 41) p t N)) 45 p).toInt from hb2), Option.bind_some]
      simp only [show ∀ a b c d, gA (quad x a b c d) 45 = gA x 45 from fun _ _ _ _ => rfl, show ∀ a b c d, gA (quad x a b c d) 46 = gA x 46 from fun _ _ _ _ => rfl, show ∀ a b c d, gA (quad x a b c d) 42 = a from fun _ _ _ _ => rfl, show ∀ a b c d, gA (quad x a b c d) 43 = b from fun _ _ _ _ => rfl, show ∀ a b c d, gA (quad x a b c d) 44 = c from fun _ _ _ _ => rfl, cpl_out hp (Nat.le_refl t)]
      rw [quad_w, cl_nI (by omega), ← Nat.add_assoc, ← hC t (by omega), ← hG t (by omega), ← hL t (by omega), ← hN t (by omega), cpl_s _ hp, cpl_s _ hp, cpl_s _ hp, cpl_s _ hp, nI_1]
      exact ih (t + 1) (by omega) (by omega)

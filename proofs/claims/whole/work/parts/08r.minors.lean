/-! minors: both programs' loops -/
def sml (f : Nat → Int64) : Nat → Int64
  | 0 => 0
  | n + 1 => sml f n + f n
def tl (h : Nat → Int64) (T c : Nat) : Int64 := if inT T c then (if gtb T c % 2 = 0 then h c else -(h c)) else 0
theorem oi_add (a b : Int) : Int64.ofInt (a + b) = Int64.ofInt a + Int64.ofInt b := Int64.ofInt_add ..
theorem oi_mul (a b : Int) : Int64.ofInt (a * b) = Int64.ofInt a * Int64.ofInt b := Int64.ofInt_mul ..
theorem oi_neg (a : Int) : Int64.ofInt (-a) = -Int64.ofInt a := Int64.ofInt_neg ..
theorem sml_oi {f : Nat → Int64} {g : Nat → Int} : ∀ {n : Nat}, (∀ i, i < n → f i = Int64.ofInt (g i)) → sml f n = Int64.ofInt (sm g n)
  | 0, _ => rfl
  | n + 1, h => by
    unfold sml sm
    rw [sml_oi (n := n) (fun i hi => h i (by omega)), h n (by omega), oi_add]
theorem sm_cut {f : Nat → Int} {w : Nat} : ∀ {n : Nat}, w ≤ n → (∀ c, w ≤ c → c < n → f c = 0) → sm f n = sm f w
  | 0, h, _ => by rw [show w = 0 by omega]
  | n + 1, h, hz => by
    by_cases e : w = n + 1
    · rw [e]
    · unfold sm
      rw [sm_cut (n := n) (by omega) (fun c h1 h2 => hz c h1 (by omega)), hz n (by omega) (by omega)]
      cases w <;> simp [sm]
theorem tl_oi {h : Nat → Int64} {T c : Nat} {a b : Int} (e : inT T c = true → h c = Int64.ofInt a * Int64.ofInt b) : tl h T c = Int64.ofInt (sg T c * a * b) := by
  unfold tl sg
  by_cases i : inT T c = true
  · rw [if_pos i, if_pos i, e i]
    by_cases q : gtb T c % 2 = 0
    · rw [if_pos q, if_pos q, Int.one_mul, oi_mul]
    · rw [if_neg q, if_neg q, Int.mul_assoc, oi_mul, oi_mul]
      rw [show Int64.ofInt (-1) = -1 from rfl, Int64.neg_mul, Int64.one_mul]
  · rw [if_neg i, if_neg i, Int.zero_mul, Int.zero_mul]
    rfl
-- the class
theorem bf1 : ∀ j, j < 6 → ∀ T, T < 64 → ((inT T j = true → ¬ (nI T &&& ((1 : Int32) <<< (nI j &&& 31))) = 0 ∧ nI T ^^^ ((1 : Int32) <<< (nI j &&& 31)) = nI (T - 2 ^ j) ∧ pc6 (T / 2 ^ j) % 2 = 1 - pc6 (T / 2 ^ (j + 1)) % 2) ∧ (inT T j = false → (nI T &&& ((1 : Int32) <<< (nI j &&& 31))) = 0 ∧ pc6 (T / 2 ^ j) % 2 = pc6 (T / 2 ^ (j + 1)) % 2)) := by decide +kernel
theorem bf2 : ∀ j, j < 6 → (nI (j + 1) - 1 = nI j ∧ ¬ nI j < 0 ∧ nI j + (-1) = nI j - 1) := by decide +kernel
theorem i6 (a b : Nat) : nI a * 6 + nI b = nI (6 * a + b) := by rw [show (6 : Int32) = nI 6 from rfl, pk_mul, nI_add, Nat.mul_comm]
theorem i6' (a b : Nat) : 6 * nI a + nI b = nI (6 * a + b) := by rw [show (6 : Int32) = nI 6 from rfl, pk_mul, nI_add]
theorem ex_x {x : ST} {T row : Nat} (hT : T < 64) (hr : row < 5) : ∀ (j n : Nat) (acc : Int64), j ≤ 6 → j < n → fX0_expand_11 n (nI T) (nI row) acc (nI (pc6 (T / 2 ^ j) % 2)) (nI j - 1) x = some (acc + sml (tl (fun c => gB x 15 (6 * row + c) * gB x 16 (T - 2 ^ c)) T) j, x)
  | 0, n, acc, _, hn => by
    obtain ⟨n, rfl⟩ := Nat.exists_eq_succ_of_ne_zero (by omega : n ≠ 0)
    rw [fX0_expand_11, if_pos (show nI 0 - 1 < 0 by decide)]
    show some (acc, x) = some (acc + 0, x)
    rw [Int64.add_zero]
  | j + 1, n, acc, hj, hn => by
    obtain ⟨n, rfl⟩ := Nat.exists_eq_succ_of_ne_zero (by omega : n ≠ 0)
    obtain ⟨b1, b2, b3⟩ := bf2 j (by omega)
    obtain ⟨f1, f2⟩ := bf1 j (by omega) T hT
    have IH := ex_x (x := x) hT hr j n
    rw [fX0_expand_11, b1, if_neg b2]
    unfold sml
    generalize hS : sml (tl (fun c => gB x 15 (6 * row + c) * gB x 16 (T - 2 ^ c)) T) j = S at IH
    by_cases i : inT T j = true
    · obtain ⟨a1, a2, a3⟩ := f1 i
      rw [if_neg a1, a2, i6, if_pos (ix_nI (by omega) (by decide)), if_pos (ix_nI (Nat.lt_of_le_of_lt (Nat.sub_le _ _) hT) (by decide)), cl_nI (by omega), cl_nI (Nat.lt_of_le_of_lt (Nat.sub_le _ _) (by omega))]
      unfold fX0_expand_66 fX0_expand_79 fX0_expand_81
      rw [b3]
      unfold tl gtb
      rw [if_pos i]
      rw [a3] at IH
      by_cases q : pc6 (T / 2 ^ (j + 1)) % 2 = 0
      · rw [q] at IH
        have IH1 : ∀ acc : Int64, fX0_expand_11 n (nI T) (nI row) acc 1 (nI j - 1) x = some (acc + S, x) := fun acc => IH acc (by omega) (by omega)
        simp only [q, if_pos (show nI 0 = 0 from rfl), if_true, IH1]
        congr 2
        rw [Int64.add_assoc, Int64.add_comm S]
      · have q1 : pc6 (T / 2 ^ (j + 1)) % 2 = 1 := by omega
        rw [q1] at IH
        have IH1 : ∀ acc : Int64, fX0_expand_11 n (nI T) (nI row) acc 0 (nI j - 1) x = some (acc + S, x) := fun acc => IH acc (by omega) (by omega)
        simp only [q1, if_neg (show ¬ nI 1 = 0 by decide), if_neg (show ¬ 1 = 0 by decide), IH1]
        congr 2
        rw [Int64.add_assoc, Int64.add_comm S]
    · have i' : inT T j = false := by simpa using i
      obtain ⟨a1, a2⟩ := f2 i'
      rw [if_pos a1]
      unfold fX0_expand_81
      rw [b3, ← a2, IH acc (by omega) (by omega)]
      unfold tl
      rw [if_neg i, Int64.add_zero]
theorem bf3 : ∀ T, T < 64 → fJ6_bitCount_0f7a4 (nI T) = some (nI (pc6 T)) := by decide +kernel
theorem bf4 : ∀ w, w < 7 → ((1 : Int32) <<< (nI w &&& 31)) = nI (2 ^ w) := by decide +kernel
theorem bf5 : ∀ w, w < 7 → ∀ T, T < 64 → (T < 2 ^ w → pc6 (T / 2 ^ w) = 0 ∧ pc6 T ≤ w) := by decide +kernel
theorem bf5' : ∀ w, w < 7 → ∀ T, T < 64 → ∀ c, c < 6 → (T < 2 ^ w ∧ w ≤ c → inT T c = false) := by decide +kernel
theorem bf6 : ∀ T, T < 64 → (T ≠ 0 → 0 < pc6 T) ∧ pc6 T ≤ 6 ∧ (pc6 T = 6 → T = 63) := by decide +kernel
theorem pow6 {w : Nat} (h : w ≤ 6) : 2 ^ w ≤ 64 := Nat.pow_le_pow_right (n := 2) (by decide) h
theorem mn_x {x : ST} {w R : Nat} {g : Nat → Nat → Int} (hw : w ≤ 6) (hR : R ≤ 5) (hg : ∀ r c, r < R → c < w → gB x 15 (6 * r + c) = Int64.ofInt (g r c)) : ∀ (n T : Nat) (f : Nat → Int64), 0 < T → T ≤ 2 ^ w → 2 ^ w < n + T → (∀ U, U < T → pc6 U ≤ R → f U = Int64.ofInt (mz g (pc6 U) U)) → ∃ f', fX0_takeMinors_9 n (nI w) (nI T) (sH x 16 f) = some (sH x 16 f') ∧ ∀ U, U < 2 ^ w → pc6 U ≤ R → f' U = Int64.ofInt (mz g (pc6 U) U) := by
  have h64 := pow6 hw
  intro n
  induction n with
  | zero => intro T f h0 h1 h2; omega
  | succ n ih =>
    intro T f h0 h1 h2 hf
    rw [fX0_takeMinors_9, bf4 w (by omega)]
    by_cases c : 2 ^ w ≤ T
    · rw [if_pos (nI_le c (by omega))]
      exact ⟨f, rfl, fun U hU => hf U (by omega)⟩
    · have hT : T < 64 := by omega
      obtain ⟨k1, k2, k3⟩ := bf6 T hT
      have kp := k1 (by omega)
      rw [if_neg (nI_ge (by omega) (by omega)), bf3 T hT, Option.bind_some]
      have e1 : nI (pc6 T) - 1 = nI (pc6 T - 1) := by rw [show (1 : Int32) = nI 1 from rfl, pk_sub (by omega)]
      rw [e1]
      have fin : ∀ v : Int64, (pc6 T ≤ R → v = Int64.ofInt (mz g (pc6 T) T)) → ∃ f', fX0_takeMinors_44 (fX0_takeMinors_9 n) (nI w) (nI T) v (nI T) (sH x 16 f) = some (sH x 16 f') ∧ ∀ U, U < 2 ^ w → pc6 U ≤ R → f' U = Int64.ofInt (mz g (pc6 U) U) := by
        intro v hv
        unfold fX0_takeMinors_44
        rw [if_pos (ix_nI hT (by decide)), sB_sH, cl_nI (by omega), nI_1]
        apply ih (T + 1) _ (by omega) (by omega) (by omega)
        intro U hU hUR
        rw [updL_eq]
        by_cases e : U = T
        · rw [if_pos e, e]; exact hv (by rw [← e]; exact hUR)
        · rw [if_neg e]; exact hf U (by omega) hUR
      by_cases c5 : pc6 T = 6
      · rw [c5, if_pos (show (5 : Int32) ≤ nI (6 - 1) by decide)]
        exact fin 0 (fun h => by omega)
      · rw [if_neg (lit_nle (v := 5) (a := 5) (b := pc6 T - 1) rfl (by omega) (by decide))]
        have hB := bf5 w (by omega) T hT (by omega)
        have E := ex_x (x := sH x 16 f) hT (show pc6 T - 1 < 5 by omega) w 200 0 hw (by omega)
        unfold fX0_expand
        have e2 : nI w - 1 = nI w - 1 := rfl
        rw [hB.1] at E
        rw [show fX0_expand_11 200 (nI T) (nI (pc6 T - 1)) 0 0 (nI w - 1) (sH x 16 f) = _ from E, Option.bind_some]
        apply fin
        intro hTR
        show 0 + _ = _
        rw [Int64.zero_add]
        obtain ⟨k, hk⟩ := Nat.exists_eq_succ_of_ne_zero (by omega : pc6 T ≠ 0)
        rw [hk, mz, sm_cut (w := w) hw (fun c h1 h2 => by rw [sg_out (bf5' w (by omega) T hT c h2 ⟨by omega, h1⟩)]; simp)]
        apply sml_oi
        intro c hc
        apply tl_oi
        intro hin
        obtain ⟨p1, p2⟩ := sg_pc T hT c (by omega) hin
        show gB x 15 (6 * (k + 1 - 1) + c) * gB (sH x 16 f) 16 (T - 2 ^ c) = _
        rw [gB_sH, Nat.add_sub_cancel, hg k c (by omega) hc, hf (T - 2 ^ c) p2 (by omega), show pc6 (T - 2 ^ c) = k by omega]
theorem minors_x {x : ST} {w R : Nat} {g : Nat → Nat → Int} (hw : w ≤ 6) (hR : R ≤ 5) (hg : ∀ r c, r < R → c < w → gB x 15 (6 * r + c) = Int64.ofInt (g r c)) : ∃ f, fX0_takeMinors (nI w) x = some (sH x 16 f) ∧ ∀ U, U < 2 ^ w → pc6 U ≤ R → f U = Int64.ofInt (mz g (pc6 U) U) := by
  unfold fX0_takeMinors
  rw [if_pos (show ixok 0 64 = true by decide)]
  have hp : 0 < 2 ^ w := Nat.pow_pos (by decide)
  have := pow6 hw
  apply mn_x hw hR hg 200 1 (vp_updL (gB x 16) (0 : Int32).toNatClampNeg 1) (by omega) (by omega) (by omega)
  intro U hU hUR
  have : U = 0 := by omega
  subst this
  rfl
-- the reference
theorem cf1 : ∀ c, c < 5 → ∀ T, T < 32 → (inT T c = true → ((nI T >>> (nI c &&& 31)) &&& 1) = 1 ∧ nI T &&& (((1 : Int32) <<< (nI c &&& 31)) ^^^ (-1)) = nI (T - 2 ^ c)) ∧ (inT T c = false → ¬ ((nI T >>> (nI c &&& 31)) &&& 1) = 1 ∧ pc6 (T % 2 ^ (c + 1)) = pc6 (T % 2 ^ c)) := by decide +kernel
theorem cf2 : ∀ c, c < 5 → ∀ T, T < 32 → (inT T c = true → ((nI (pc6 T) - 1 - nI (pc6 (T % 2 ^ c))) - (nI (pc6 T) - 1 - nI (pc6 (T % 2 ^ c))) / 2 * 2 = 0 ↔ gtb T c % 2 = 0) ∧ (nI (pc6 T) - 1 - nI (pc6 (T % 2 ^ c))) + (-1) = nI (pc6 T) - 1 - nI (pc6 (T % 2 ^ (c + 1)))) := by decide +kernel
theorem cf3 : ∀ L, L < 32 → L ≠ 0 → (nI L &&& (nI L - 1) = nI (L &&& (L - 1)) ∧ pc6 (L &&& (L - 1)) + 1 = pc6 L ∧ (L &&& (L - 1)) < 32 ∧ ¬ nI L = 0) := by decide +kernel
theorem cnt_m {kb : Int32 → Int32 → Int32 → ST → Option (Int64 × ST)} {v1 v2 v3 : Int32} {x : ST} : ∀ (n L r : Nat), L < 32 → pc6 L < n → fX12_spanOf_22 kb n v1 v2 v3 (nI r - 1) (nI L) x = fX12_spanOf_42 kb v1 v2 v3 (nI (r + pc6 L) - 1) x
  | 0, _, _, _, h => absurd h (Nat.not_lt_zero _)
  | n + 1, L, r, hL, h => by
    rw [fX12_spanOf_22]
    by_cases c : L = 0
    · subst c
      rw [if_pos (show nI 0 = 0 from rfl)]
      rfl
    · obtain ⟨a1, a2, a3, a4⟩ := cf3 L hL c
      rw [if_neg a4, a1]
      have e : nI r - 1 + 1 = nI (r + 1) - 1 := by
        rw [Int32.sub_add_cancel, ← nI_1, Int32.add_sub_cancel]
      rw [e, cnt_m n _ (r + 1) a3 (by omega)]
      congr 3
      omega
theorem sp52 {x : ST} {kb : Int32 → Int32 → Int32 → ST → Option (Int64 × ST)} {w T : Nat} {v2 : Int32} (hw : w ≤ 5) (hT : T < 32) (hT0 : T ≠ 0) : ∀ n c : Nat, c ≤ w → w < n + c → fX12_spanOf_52 kb n (nI w) v2 (nI T) (nI (pc6 T) - 1) (sml (tl (fun c => gB x 13 (if nI c = v2 then 6 * (pc6 T - 1) + 5 else 6 * (pc6 T - 1) + c) * gB x 14 (T - 2 ^ c)) T) c) (nI (pc6 T) - 1 - nI (pc6 (T % 2 ^ c))) (nI c) x = fX12_spanOf_136 kb (nI w) v2 (nI T) (sml (tl (fun c => gB x 13 (if nI c = v2 then 6 * (pc6 T - 1) + 5 else 6 * (pc6 T - 1) + c) * gB x 14 (T - 2 ^ c)) T) w) x := by
  obtain ⟨k1, k2, k3⟩ := bf6 T (by omega)
  have kp := k1 hT0
  have k5 : pc6 T ≤ 5 := by
    have := (bf5 5 (by omega) T (by omega) hT).2
    omega
  have e1 : nI (pc6 T) - 1 = nI (pc6 T - 1) := by rw [show (1 : Int32) = nI 1 from rfl, pk_sub (by omega)]
  intro n
  induction n with
  | zero => intro c h1 h2; omega
  | succ n ih =>
    intro c h1 h2
    rw [fX12_spanOf_52]
    by_cases q : w ≤ c
    · have : c = w := by omega
      subst this
      rw [if_pos (nI_le q (by omega))]
    · rw [if_neg (nI_ge (by omega) (by omega))]
      obtain ⟨f1, f2⟩ := cf1 c (by omega) T hT
      have f3 := cf2 c (by omega) T hT
      have ih2 := ih (c + 1) (by omega) (by omega)
      by_cases i : inT T c = true
      · obtain ⟨a1, a2⟩ := f1 i
        obtain ⟨a3, a4⟩ := f3 i
        rw [if_pos a1]
        have go : ∀ s : Int32, 6 * (nI (pc6 T) - 1) + s = nI (if nI c = v2 then 6 * (pc6 T - 1) + 5 else 6 * (pc6 T - 1) + c) → fX12_spanOf_89 kb (fX12_spanOf_52 kb n) (nI w) v2 (nI T) (nI (pc6 T) - 1) (sml (tl (fun c => gB x 13 (if nI c = v2 then 6 * (pc6 T - 1) + 5 else 6 * (pc6 T - 1) + c) * gB x 14 (T - 2 ^ c)) T) c) (nI (pc6 T) - 1 - nI (pc6 (T % 2 ^ c))) (nI c) s (6 * (nI (pc6 T) - 1)) x = fX12_spanOf_136 kb (nI w) v2 (nI T) (sml (tl (fun c => gB x 13 (if nI c = v2 then 6 * (pc6 T - 1) + 5 else 6 * (pc6 T - 1) + c) * gB x 14 (T - 2 ^ c)) T) w) x := by
          intro s hs
          have hb : (if nI c = v2 then 6 * (pc6 T - 1) + 5 else 6 * (pc6 T - 1) + c) < 30 := by split <;> omega
          unfold fX12_spanOf_89 fX12_spanOf_124 fX12_spanOf_130
          rw [hs, a2, if_pos (ix_nI hb (by decide)), if_pos (ix_nI (Nat.lt_of_le_of_lt (Nat.sub_le _ _) hT) (by decide)), if_neg (show ¬ (2 : Int32) = 0 by decide), cl_nI (by omega), cl_nI (Nat.lt_of_le_of_lt (Nat.sub_le _ _) (by omega)), a4, nI_1]
          have et : sml (tl (fun c => gB x 13 (if nI c = v2 then 6 * (pc6 T - 1) + 5 else 6 * (pc6 T - 1) + c) * gB x 14 (T - 2 ^ c)) T) (c + 1) = sml (tl (fun c => gB x 13 (if nI c = v2 then 6 * (pc6 T - 1) + 5 else 6 * (pc6 T - 1) + c) * gB x 14 (T - 2 ^ c)) T) c + (if gtb T c % 2 = 0 then gB x 13 (if nI c = v2 then 6 * (pc6 T - 1) + 5 else 6 * (pc6 T - 1) + c) * gB x 14 (T - 2 ^ c) else -(gB x 13 (if nI c = v2 then 6 * (pc6 T - 1) + 5 else 6 * (pc6 T - 1) + c) * gB x 14 (T - 2 ^ c))) := by
            show sml _ c + tl _ T c = _
            congr 1
            unfold tl
            rw [if_pos i]
          rw [et] at ih2
          by_cases g : gtb T c % 2 = 0
          · rw [if_pos (a3.mpr g)]
            rw [if_pos g] at ih2
            exact ih2
          · rw [if_neg (fun h => g (a3.mp h))]
            rw [if_neg g] at ih2
            exact ih2
        by_cases d : nI c = v2
        · rw [if_pos d]
          apply go
          rw [if_pos d, e1]
          exact i6' (pc6 T - 1) 5
        · rw [if_neg d]
          apply go
          rw [if_neg d, e1]
          exact i6' (pc6 T - 1) c
      · have i' : inT T c = false := by simpa using i
        obtain ⟨a1, a2⟩ := f2 i'
        rw [if_neg a1]
        unfold fX12_spanOf_130
        rw [nI_1]
        have et : sml (tl (fun c => gB x 13 (if nI c = v2 then 6 * (pc6 T - 1) + 5 else 6 * (pc6 T - 1) + c) * gB x 14 (T - 2 ^ c)) T) (c + 1) = sml (tl (fun c => gB x 13 (if nI c = v2 then 6 * (pc6 T - 1) + 5 else 6 * (pc6 T - 1) + c) * gB x 14 (T - 2 ^ c)) T) c := by
          show sml _ c + tl _ T c = _
          rw [show tl (fun c => gB x 13 (if nI c = v2 then 6 * (pc6 T - 1) + 5 else 6 * (pc6 T - 1) + c) * gB x 14 (T - 2 ^ c)) T c = 0 by unfold tl; rw [if_neg i], Int64.add_zero]
        rw [et, a2] at ih2
        exact ih2
theorem bf7 : ∀ w, w < 6 → (pc6 (2 ^ w - 1) = w ∧ ((1 : Int32) <<< (nI w &&& 31)) - 1 = nI (2 ^ w - 1)) := by decide +kernel
theorem sp9 {x : ST} {w : Nat} {v2 : Int32} {g : Nat → Nat → Int} (hw : w ≤ 5) (hg : ∀ r c, r < w → c < w → gB x 13 (if nI c = v2 then 6 * r + 5 else 6 * r + c) = Int64.ofInt (g r c)) : ∀ (n T : Nat) (f : Nat → Int64), 0 < T → T ≤ 2 ^ w → 2 ^ w < n + T → (∀ U, U < T → f U = Int64.ofInt (mz g (pc6 U) U)) → ∃ f', fX12_spanOf_9 n (nI w) v2 (nI T) (sH x 14 f) = some (Int64.ofInt (mz g w (2 ^ w - 1)), sH x 14 f') := by
  have h32 : 2 ^ w ≤ 32 := Nat.pow_le_pow_right (n := 2) (by decide) hw
  have hp : 0 < 2 ^ w := Nat.pow_pos (by decide)
  intro n
  induction n with
  | zero => intro T f h0 h1 h2; omega
  | succ n ih =>
    intro T f h0 h1 h2 hf
    rw [fX12_spanOf_9, bf4 w (by omega)]
    by_cases c : 2 ^ w ≤ T
    · rw [if_pos (nI_le c (by omega))]
      refine ⟨f, ?_⟩
      unfold fX12_spanOf_150
      rw [(bf7 w (by omega)).2, if_pos (ix_nI (by omega) (by decide)), cl_nI (by omega), gB_sH, hf _ (by omega), (bf7 w (by omega)).1]
    · have hT : T < 32 := by omega
      obtain ⟨k1, k2, k3⟩ := bf6 T (by omega)
      have kp := k1 (by omega)
      rw [if_neg (nI_ge (by omega) (by omega))]
      have C := cnt_m (kb := fX12_spanOf_9 n) (v1 := nI w) (v2 := v2) (v3 := nI T) (x := sH x 14 f) 200 T 0 hT (by omega)
      rw [show fX12_spanOf_22 (fX12_spanOf_9 n) 200 (nI w) v2 (nI T) (-1) (nI T) (sH x 14 f) = _ from C]
      unfold fX12_spanOf_42
      rw [Nat.zero_add]
      have S := sp52 (x := sH x 14 f) (kb := fX12_spanOf_9 n) (w := w) (T := T) (v2 := v2) hw hT (by omega) 200 0 (by omega) (by omega)
      have z0 : nI (pc6 T) - 1 - nI (pc6 (T % 2 ^ 0)) = nI (pc6 T) - 1 := by
        rw [Nat.pow_zero, Nat.mod_one]
        show _ - (0 : Int32) = _
        rw [Int32.sub_zero]
      rw [z0] at S
      rw [show fX12_spanOf_52 (fX12_spanOf_9 n) 200 (nI w) v2 (nI T) (nI (pc6 T) - 1) 0 (nI (pc6 T) - 1) 0 (sH x 14 f) = _ from S]
      unfold fX12_spanOf_136
      rw [if_pos (ix_nI hT (by decide)), sB_sH, cl_nI (by omega), nI_1]
      apply ih (T + 1) _ (by omega) (by omega) (by omega)
      intro U hU
      rw [updL_eq]
      by_cases e : U = T
      · rw [if_pos e, e]
        obtain ⟨k, hk⟩ := Nat.exists_eq_succ_of_ne_zero (by omega : pc6 T ≠ 0)
        have hTw : T < 2 ^ w := by omega
        have kw := (bf5 w (by omega) T (by omega) hTw).2
        rw [hk, mz, sm_cut (w := w) (by omega) (fun c h1 h2 => by rw [sg_out (bf5' w (by omega) T (by omega) c h2 ⟨hTw, h1⟩)]; simp)]
        apply sml_oi
        intro c hc
        apply tl_oi
        intro hin
        obtain ⟨p1, p2⟩ := sg_pc T (by omega) c (by omega) hin
        show gB x 13 (if nI c = v2 then 6 * (k + 1 - 1) + 5 else 6 * (k + 1 - 1) + c) * gB (sH x 14 f) 14 (T - 2 ^ c) = _
        rw [gB_sH, Nat.add_sub_cancel, hg k c (by omega) hc, hf (T - 2 ^ c) p2, show pc6 (T - 2 ^ c) = k by omega]
      · rw [if_neg e]; exact hf U (by omega)
theorem span_m {x : ST} {w : Nat} {v2 : Int32} {g : Nat → Nat → Int} (hw : w ≤ 5) (hg : ∀ r c, r < w → c < w → gB x 13 (if nI c = v2 then 6 * r + 5 else 6 * r + c) = Int64.ofInt (g r c)) : ∃ f, fX12_spanOf (nI w) v2 x = some (Int64.ofInt (mz g w (2 ^ w - 1)), sH x 14 f) := by
  unfold fX12_spanOf
  rw [if_pos (show ixok 0 32 = true by decide)]
  have hp : 0 < 2 ^ w := Nat.pow_pos (by decide)
  have h32 : 2 ^ w ≤ 32 := Nat.pow_le_pow_right (n := 2) (by decide) hw
  apply sp9 hw hg 200 1 (vp_updL (gB x 14) (0 : Int32).toNatClampNeg 1) (by omega) (by omega) (by omega)
  intro U hU
  have : U = 0 := by omega
  subst this
  rfl

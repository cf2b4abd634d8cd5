/-! which parts are seen: both go through the parts in one step -/
theorem mz_c {g g' : Nat → Nat → Int} : ∀ (k T : Nat), T < 64 → (∀ r c, r < k → c < 6 → inT T c = true → g r c = g' r c) → mz g k T = mz g' k T
  | 0, _, _, _ => rfl
  | k + 1, T, hT, h => by
    rw [mz, mz]
    apply sm_c
    intro c hc
    by_cases hin : inT T c = true
    · rw [h k c (by omega) hc hin, mz_c k (T - 2 ^ c) (Nat.lt_of_le_of_lt (Nat.sub_le _ _) hT)]
      intro r d hr hd hin2
      apply h r d (by omega) hd
      by_cases e : inT T d = true
      · exact e
      · have := in_sub T hT d hd c hc (by simpa using e) hin
        rw [this] at hin2; cases hin2
    · rw [sg_out (by simpa using hin)]
      simp
def GA (C : Nat → Int32) (A : Nat → Nat) (r c : Nat) : Int := grZ C (A r) (A c)
theorem gr_sym (C : Nat → Int32) (a b : Nat) : grZ C a b = grZ C b a := sm_c (fun q _ => Int.mul_comm _ _)
def nxt (A : Nat → Nat) (n p : Nat) : Nat → Nat := fun i => if i = n then p else A i
theorem nxt_n {A : Nat → Nat} {n p : Nat} : nxt A n p n = p := by unfold nxt; rw [if_pos rfl]
theorem nxt_o {A : Nat → Nat} {n p i : Nat} (h : i ≠ n) : nxt A n p i = A i := by unfold nxt; rw [if_neg h]
theorem fullpow {n : Nat} (h : n ≤ 5) : 2 ^ n - 1 < 64 ∧ 0 < 2 ^ n := by
  have := Nat.pow_le_pow_right (n := 2) (by decide) h
  have := Nat.pow_pos (n := n) (show 0 < 2 by decide)
  omega
theorem fullin : ∀ n, n < 7 → ∀ c, c < 6 → (inT (2 ^ n - 1) c = true → c < n) := by decide +kernel
theorem D_nxt {C : Nat → Int32} {A : Nat → Nat} {n p : Nat} (hn : n ≤ 5) : mz (GA C (nxt A n p)) n (2 ^ n - 1) = mz (GA C A) n (2 ^ n - 1) := by
  apply mz_c _ _ (fullpow hn).1
  intro r c hr hc hin
  have := fullin n (by omega) c hc hin
  unfold GA
  rw [nxt_o (by omega), nxt_o (by omega)]
theorem oi_ne {a : Int} (h : ¬ Int64.ofInt a = 0) : a ≠ 0 := by intro e; rw [e] at h; exact h rfl
theorem D_pos {C : Nat → Int32} {A : Nat → Nat} {n : Nat} (hn : n < 5) (h0 : 0 < mz (GA C A) n (2 ^ n - 1)) (h : mz (GA C A) (n + 1) (2 ^ (n + 1) - 1) ≠ 0) : 0 < mz (GA C A) (n + 1) (2 ^ (n + 1) - 1) := by
  have := gram (v := fun r q => (C (8 * A r + q)).toInt) (g := GA C A) n (by omega) (fun r c _ _ => rfl)
  rcases (show 0 < mz (GA C A) (n + 1) (2 ^ (n + 1) - 1) ∨ mz (GA C A) (n + 1) (2 ^ (n + 1) - 1) < 0 by omega) with q | q
  · exact q
  · have := Int.mul_neg_of_pos_of_neg h0 q
    omega
theorem neg1 : ∀ c, c < 6 → ¬ nI c = -1 := by decide +kernel
/-- the class considers one part -/
theorem con_x {y : ST} {C : Nat → Int32} {A : Nat → Nat} {n p : Nat} (hn : n < 5) (hp : p < 5) (e0 : gI y 0 = nI n) (hA : ∀ i, i < n + 1 → gA y 14 i = nI (A i) ∧ A i < 5) (hAn : A n = p) (hC : ∀ j, j < 40 → gA y 12 j = C j ∧ inb (C j) (-45) 45) : ∀ (N i : Nat) (f : Nat → Int64), i ≤ n + 1 → n + 1 < N + i → (∀ r c, r < n → c < n → f (6 * r + c) = Int64.ofInt (GA C A r c)) → (∀ r, r < i → f (6 * r + n) = Int64.ofInt (GA C A r n) ∧ f (6 * n + r) = Int64.ofInt (GA C A n r)) → ∃ f', fX0_considerPart_12 N (nI p) (nI i) (sH y 15 f) = fX0_considerPart_68 (sH y 15 f') ∧ ∀ r c, r < n + 1 → c < n + 1 → f' (6 * r + c) = Int64.ofInt (GA C A r c) := by
  intro N
  induction N with
  | zero => intro i f h1 h2; omega
  | succ N ih =>
    intro i f h1 h2 hf hb
    rw [fX0_considerPart_12, show gI (sH y 15 f) 0 = gI y 0 from rfl, e0]
    by_cases c : n < i
    · rw [if_pos (nI_lt c (by omega))]
      refine ⟨f, rfl, ?_⟩
      intro r c hr hc
      by_cases e1 : c = n
      · rw [e1]; exact (hb r (by omega)).1
      · by_cases e2 : r = n
        · rw [e2]; exact (hb c (by omega)).2
        · exact hf r c (by omega) (by omega)
    · have hlt : ¬ nI n < nI i := by rw [Int32.not_lt]; exact nI_le (by omega) (by omega)
      obtain ⟨a1, a2⟩ := hA i (by omega)
      rw [if_neg hlt, if_pos (ix_nI (by omega) (by decide)), cl_nI (by omega), show gA (sH y 15 f) 14 i = gA y 14 i from rfl, a1]
      have P := prod_x (x := sH y 15 f) (C := C) (a := p) (b := A i) hp a2 hC 200 0 (by omega) (by omega)
      unfold fX0_productOf
      rw [show fX0_productOf_5 200 (nI p) (nI (A i)) 0 0 (sH y 15 f) = _ from P, Option.bind_some]
      simp only [show gI (sH y 15 f) 0 = gI y 0 from rfl, show ∀ a v, gI (sB (sH y 15 f) 15 a v) 0 = gI y 0 from fun _ _ => rfl, e0, i6]
      rw [if_pos (ix_nI (by omega) (by decide)), if_pos (ix_nI (by omega) (by decide)), sB_sH, sB_sH, cl_nI (by omega), cl_nI (by omega), nI_1]
      apply ih (i + 1) _ (by omega) (by omega)
      · intro r c hr hc
        rw [updL_eq, updL_eq, if_neg (by omega), if_neg (by omega)]
        exact hf r c hr hc
      · intro r hr
        rw [updL_eq, updL_eq, updL_eq, updL_eq]
        by_cases e : r = i
        · subst e
          refine ⟨?_, ?_⟩
          · by_cases z : 6 * r + n = 6 * n + r
            · rw [if_pos z]; unfold GA; rw [hAn, gr_sym]
            · rw [if_neg z, if_pos rfl]; unfold GA; rw [hAn, gr_sym]
          · rw [if_pos rfl]; unfold GA; rw [hAn]
        · obtain ⟨b1, b2⟩ := hb r (by omega)
          rw [if_neg (by omega), if_neg (by omega), if_neg (by omega), if_neg (by omega)]
          exact ⟨b1, b2⟩
theorem cons_x {y : ST} {C : Nat → Int32} {A : Nat → Nat} {n p : Nat} (hn : n < 5) (hp : p < 5) (e0 : gI y 0 = nI n) (hA : ∀ i, i < n → gA y 14 i = nI (A i) ∧ A i < 5) (hC : ∀ j, j < 40 → gA y 12 j = C j ∧ inb (C j) (-45) 45) (hG : ∀ r c, r < n → c < n → gB y 15 (6 * r + c) = Int64.ofInt (GA C A r c)) : ∃ f f', (∀ r c, r < n + 1 → c < n + 1 → f (6 * r + c) = Int64.ofInt (GA C (nxt A n p) r c)) ∧ fX0_considerPart (nI p) y = some (if Int64.ofInt (mz (GA C (nxt A n p)) (n + 1) (2 ^ (n + 1) - 1)) = 0 then sH (sH (sA y 14 (nI n) (nI p)) 15 f) 16 f' else sI (sH (sH (sA y 14 (nI n) (nI p)) 15 f) 16 f') 0 (nI (n + 1))) := by
  have e14 : gA (sA y 14 (nI n) (nI p)) 14 = upd (gA y 14) n (nI p) := by
    show upd (gA y 14) (nI n).toNatClampNeg (nI p) = _
    rw [cl_nI (by omega)]
  obtain ⟨f, F1, F2⟩ := con_x (y := sA y 14 (nI n) (nI p)) (C := C) (A := nxt A n p) (n := n) (p := p) hn hp e0 (by
    intro i hi
    rw [e14, upd_eq]
    unfold nxt
    by_cases e : i = n
    · rw [if_pos e, if_pos e]; exact ⟨rfl, hp⟩
    · rw [if_neg e, if_neg e]; exact hA i (by omega)) nxt_n hC 200 0 (gB y 15) (by omega) (by omega) (by
    intro r c hr hc
    unfold GA
    rw [nxt_o (by omega), nxt_o (by omega)]
    exact hG r c hr hc) (fun r hr => absurd hr (Nat.not_lt_zero r))
  obtain ⟨f', M1, M2⟩ := minors_x (x := sH (sA y 14 (nI n) (nI p)) 15 f) (w := n + 1) (R := n + 1) (g := GA C (nxt A n p)) (by omega) (by omega) (by
    intro r c hr hc
    rw [gB_sH]
    exact F2 r c hr hc)
  refine ⟨f, f', F2, ?_⟩
  unfold fX0_considerPart
  rw [e0, if_pos (ix_nI hn (by decide))]
  have e15 : sH (sA y 14 (nI n) (nI p)) 15 (gB y 15) = sA y 14 (nI n) (nI p) := sH_id (sA y 14 (nI n) (nI p)) 15
  rw [e15] at F1
  rw [show fX0_considerPart_12 200 (nI p) 0 (sA y 14 (nI n) (nI p)) = _ from F1]
  unfold fX0_considerPart_68
  obtain ⟨b1, b2⟩ := bf7 (n + 1) (by omega)
  obtain ⟨p1, p2⟩ := fullpow (n := n + 1) (by omega)
  simp only [show gI (sH (sA y 14 (nI n) (nI p)) 15 f) 0 = gI y 0 from rfl, e0, nI_1]
  rw [M1, Option.bind_some]
  simp only [show gI (sH (sH (sA y 14 (nI n) (nI p)) 15 f) 16 f') 0 = gI y 0 from rfl, e0, nI_1, b2]
  rw [if_pos (ix_nI (by omega) (by decide)), cl_nI (by omega), gB_sH, M2 _ (by omega) (by omega), b1]
  by_cases z : Int64.ofInt (mz (GA C (nxt A n p)) (n + 1) (2 ^ (n + 1) - 1)) = 0
  · rw [if_pos z, if_pos z]
  · rw [if_neg z, if_neg z]
/-- and the reference -/
theorem con_m {m : ST} {C : Nat → Int32} {A : Nat → Nat} {n p S : Nat} {kb : Int32 → ST → Option ST} (hn : n < 5) (hp : p < 5) (hS : S ≤ 8) (es : gI m 0 = nI S) (e0 : gI m 2 = nI n) (hA : ∀ i, i < n + 1 → gA m 12 i = nI (A i) ∧ A i < 5) (hAn : A n = p) (hC : ∀ j, j < 40 → gB m 11 j = (C j).toInt64) (hz : ∀ j, S ≤ j % 8 → C j = 0) : ∀ (N i : Nat) (f : Nat → Int64), i ≤ n + 1 → n + 1 < N + i → (∀ r c, r < n → c < n ∨ c = 5 → f (6 * r + c) = gB m 13 (6 * r + c)) → (∀ r, r < i → f (6 * r + n) = Int64.ofInt (GA C A r n) ∧ f (6 * n + r) = Int64.ofInt (GA C A n r)) → ∃ f', fX12_findColumns_148 kb N (nI p) (nI i) (sH m 13 f) = fX12_findColumns_215 kb (nI p) (sH m 13 f') ∧ (∀ r c, r < n → c < n ∨ c = 5 → f' (6 * r + c) = gB m 13 (6 * r + c)) ∧ (∀ r, r < n + 1 → f' (6 * r + n) = Int64.ofInt (GA C A r n) ∧ f' (6 * n + r) = Int64.ofInt (GA C A n r)) := by
  intro N
  induction N with
  | zero => intro i f h1 h2; omega
  | succ N ih =>
    intro i f h1 h2 hf hb
    rw [fX12_findColumns_148, show gI (sH m 13 f) 2 = gI m 2 from rfl, e0]
    by_cases c : n < i
    · rw [if_pos (nI_lt c (by omega))]
      exact ⟨f, rfl, hf, fun r hr => hb r (by omega)⟩
    · have hlt : ¬ nI n < nI i := by rw [Int32.not_lt]; exact nI_le (by omega) (by omega)
      obtain ⟨a1, a2⟩ := hA i (by omega)
      rw [if_neg hlt, if_pos (ix_nI (by omega) (by decide)), cl_nI (by omega), show gA (sH m 13 f) 12 i = gA m 12 i from rfl, a1]
      have P := prod_m (m := sH m 13 f) (C := C) (a := p) (b := A i) hp a2 hS es hC hz 200 0 (by omega) (by omega)
      unfold fX12_productOf
      rw [show fX12_productOf_5 200 (nI p) (nI (A i)) 0 0 (sH m 13 f) = _ from P, Option.bind_some]
      simp only [show gI (sH m 13 f) 2 = gI m 2 from rfl, show ∀ a v, gI (sB (sH m 13 f) 13 a v) 2 = gI m 2 from fun _ _ => rfl, e0, i6']
      rw [if_pos (ix_nI (by omega) (by decide)), if_pos (ix_nI (by omega) (by decide)), sB_sH, sB_sH, cl_nI (by omega), cl_nI (by omega), nI_1, gB_sH, updL_eq, if_pos rfl, if_pos (ix_nI (by omega) (by decide))]
      apply ih (i + 1) _ (by omega) (by omega)
      · intro r c hr hc
        rw [updL_eq, updL_eq, if_neg (by omega), if_neg (by omega)]
        exact hf r c hr hc
      · intro r hr
        rw [updL_eq, updL_eq, updL_eq, updL_eq]
        by_cases e : r = i
        · subst e
          refine ⟨?_, ?_⟩
          · rw [if_pos rfl]; unfold GA; rw [hAn, gr_sym]
          · by_cases z : 6 * n + r = 6 * r + n
            · rw [if_pos z]; unfold GA; rw [hAn]
            · rw [if_neg z, if_pos rfl]; unfold GA; rw [hAn]
        · obtain ⟨b1, b2⟩ := hb r (by omega)
          rw [if_neg (by omega), if_neg (by omega), if_neg (by omega), if_neg (by omega)]
          exact ⟨b1, b2⟩
theorem cons_m {m : ST} {C σ L : Nat → Int32} {A : Nat → Nat} {n p S : Nat} {kb : Int32 → ST → Option ST} (hn : n < 5) (hp : p < 5) (hS : S ≤ 8) (es : gI m 0 = nI S) (e0 : gI m 2 = nI n) (hA : ∀ i, i < n → gA m 12 i = nI (A i) ∧ A i < 5) (hC : ∀ j, j < 40 → gB m 11 j = (C j).toInt64) (hz : ∀ j, S ≤ j % 8 → C j = 0)
    (hl : ∀ (q : Nat) (y : ST), q < S → gA y 1 = gA m 1 → gA y 4 = gA m 4 → fX12_isLost (nI q) y = some (L q, y)) (hsl : ∀ (q : Nat) (y : ST), q < S → gA y 1 = gA m 1 → gA y 4 = gA m 4 → gA y 2 = gA m 2 → L q = 0 → fX12_slopeOf (nI q) y = some (σ q, y)) (hsz : ∀ q, q < S → L q ≠ 0 → σ q = 0)
    (hG : ∀ r c, r < n → c < n → gB m 13 (6 * r + c) = Int64.ofInt (GA C A r c)) (hG5 : ∀ r, r < n → gB m 13 (6 * r + 5) = Int64.ofInt (slZ C σ (A r))) : ∃ f f', (∀ r c, r < n + 1 → c < n + 1 → f (6 * r + c) = Int64.ofInt (GA C (nxt A n p) r c)) ∧ (∀ r, r < n + 1 → f (6 * r + 5) = Int64.ofInt (slZ C σ (nxt A n p r))) ∧ fX12_findColumns_148 kb 200 (nI p) 0 (sA m 12 (nI n) (nI p)) = kb (nI (p + 1)) (if Int64.ofInt (mz (GA C (nxt A n p)) (n + 1) (2 ^ (n + 1) - 1)) = 0 then sH (sH (sA m 12 (nI n) (nI p)) 13 f) 14 f' else sI (sI (sH (sH (sA m 12 (nI n) (nI p)) 13 f) 14 f') 2 (nI (n + 1))) 3 (gI m 3 ||| ((1 : Int32) <<< (nI p &&& 31)))) := by
  have e12 : gA (sA m 12 (nI n) (nI p)) 12 = upd (gA m 12) n (nI p) := by
    show upd (gA m 12) (nI n).toNatClampNeg (nI p) = _
    rw [cl_nI (by omega)]
  obtain ⟨f, F1, F2, F3⟩ := con_m (m := sA m 12 (nI n) (nI p)) (C := C) (A := nxt A n p) (n := n) (p := p) (S := S) (kb := kb) hn hp hS es e0 (by
    intro i hi
    rw [e12, upd_eq]
    unfold nxt
    by_cases e : i = n
    · rw [if_pos e, if_pos e]; exact ⟨rfl, hp⟩
    · rw [if_neg e, if_neg e]; exact hA i (by omega)) nxt_n hC hz 200 0 (gB m 13) (by omega) (by omega) (fun r c hr hc => rfl) (fun r hr => absurd hr (Nat.not_lt_zero r))
  have e13 : sH (sA m 12 (nI n) (nI p)) 13 (gB m 13) = sA m 12 (nI n) (nI p) := sH_id (sA m 12 (nI n) (nI p)) 13
  rw [e13] at F1
  rw [show fX12_findColumns_148 kb 200 (nI p) 0 (sA m 12 (nI n) (nI p)) = _ from F1]
  unfold fX12_findColumns_215 fX12_slopesBy
  have Q := psl_m (m := sH (sA m 12 (nI n) (nI p)) 13 f) (C := C) (σ := σ) (L := L) (a := p) (S := S) hp hS es hC hz (fun q hq => hl q _ hq rfl rfl) (fun q hq hL => hsl q _ hq rfl rfl rfl hL) hsz 200 0 (by omega) (by omega)
  rw [show fX12_slopesBy_5 200 (nI p) 0 0 (sH (sA m 12 (nI n) (nI p)) 13 f) = _ from Q, Option.bind_some]
  simp only [show gI (sH (sA m 12 (nI n) (nI p)) 13 f) 2 = gI m 2 from rfl, show ∀ a v, gI (sB (sH (sA m 12 (nI n) (nI p)) 13 f) 13 a v) 2 = gI m 2 from fun _ _ => rfl, e0]
  rw [show 6 * nI n + 5 = nI (6 * n + 5) from i6' n 5, if_pos (ix_nI (by omega) (by decide)), sB_sH, cl_nI (by omega), nI_1]
  generalize hf2 : vp_updL f (6 * n + 5) (Int64.ofInt (slZ C σ p)) = f2
  have G2 : ∀ r c, r < n + 1 → c < n + 1 → f2 (6 * r + c) = Int64.ofInt (GA C (nxt A n p) r c) := by
    intro r c hr hc
    rw [← hf2, updL_eq, if_neg (by omega)]
    by_cases e1 : c = n
    · rw [e1]; exact (F3 r hr).1
    · by_cases e2 : r = n
      · rw [e2]; exact (F3 c hc).2
      · rw [F2 r c (by omega) (Or.inl (by omega))]
        unfold GA
        rw [nxt_o (by omega), nxt_o (by omega)]
        exact hG r c (by omega) (by omega)
  have G5 : ∀ r, r < n + 1 → f2 (6 * r + 5) = Int64.ofInt (slZ C σ (nxt A n p r)) := by
    intro r hr
    rw [← hf2, updL_eq]
    by_cases e : r = n
    · rw [if_pos (by omega), e, nxt_n]
    · rw [if_neg (by omega), F2 r 5 (by omega) (Or.inr rfl), nxt_o e]
      exact hG5 r (by omega)
  obtain ⟨f', M1⟩ := span_m (x := sH (sA m 12 (nI n) (nI p)) 13 f2) (w := n + 1) (v2 := -1) (g := GA C (nxt A n p)) (by omega) (by
    intro r c hr hc
    rw [if_neg (neg1 c (by omega)), gB_sH]
    exact G2 r c hr hc)
  refine ⟨f2, f', G2, G5, ?_⟩
  rw [M1, Option.bind_some]
  unfold fX12_findColumns_272
  simp only [nI_1]
  by_cases z : Int64.ofInt (mz (GA C (nxt A n p)) (n + 1) (2 ^ (n + 1) - 1)) = 0
  · rw [if_pos z, if_pos z]
  · rw [if_neg z, if_neg z]
    simp only [show gI (sH (sH (sA m 12 (nI n) (nI p)) 13 f2) 14 f') 2 = gI m 2 from rfl, e0, nI_1]
    rfl

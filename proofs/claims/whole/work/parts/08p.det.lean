/-! determinants along the last row, over sets of columns (bits), in whole numbers -/
def sm (f : Nat → Int) : Nat → Int
  | 0 => 0
  | n + 1 => sm f n + f n
theorem sm_c {f g : Nat → Int} : ∀ {n : Nat}, (∀ i, i < n → f i = g i) → sm f n = sm g n
  | 0, _ => rfl
  | n + 1, h => by
    unfold sm
    rw [sm_c (n := n) (fun i hi => h i (by omega)), h n (by omega)]
theorem sm_0 {f : Nat → Int} : ∀ {n : Nat}, (∀ i, i < n → f i = 0) → sm f n = 0
  | 0, _ => rfl
  | n + 1, h => by
    unfold sm
    rw [sm_0 (n := n) (fun i hi => h i (by omega)), h n (by omega)]
    rfl
theorem sm_mul (a : Int) (f : Nat → Int) : ∀ n : Nat, a * sm f n = sm (fun i => a * f i) n
  | 0 => by simp [sm]
  | n + 1 => by
    unfold sm
    rw [Int.mul_add, sm_mul a f n]
theorem sm_neg (f : Nat → Int) : ∀ n : Nat, - sm f n = sm (fun i => - f i) n
  | 0 => by simp [sm]
  | n + 1 => by
    unfold sm
    rw [Int.neg_add, sm_neg f n]
theorem sm_add (f g : Nat → Int) : ∀ n : Nat, sm (fun i => f i + g i) n = sm f n + sm g n
  | 0 => by simp [sm]
  | n + 1 => by
    unfold sm
    rw [sm_add f g n]
    omega
theorem sm_swap (F : Nat → Nat → Int) (m : Nat) : ∀ n : Nat, sm (fun c => sm (fun d => F c d) m) n = sm (fun d => sm (fun c => F c d) n) m
  | 0 => by
    show (0 : Int) = sm (fun d => sm (fun c => F c d) 0) m
    exact (sm_0 (fun i _ => rfl)).symm
  | n + 1 => by
    rw [sm, sm_swap F m n, ← sm_add]
    rfl
theorem sm_sq (F : Nat → Int) : ∀ n : Nat, 0 ≤ sm (fun i => F i * F i) n
  | 0 => Int.le_refl _
  | n + 1 => by
    have h1 := sm_sq F n
    have h2 : 0 ≤ F n * F n := by
      rcases (show 0 ≤ F n ∨ F n ≤ 0 by omega) with h | h
      · exact Int.mul_nonneg h h
      · exact Int.mul_nonneg_of_nonpos_of_nonpos h h
    unfold sm
    omega
def pc6 (x : Nat) : Nat := x % 2 + x / 2 % 2 + x / 4 % 2 + x / 8 % 2 + x / 16 % 2 + x / 32 % 2
def gtb (T c : Nat) : Nat := pc6 (T / 2 ^ (c + 1))
def inT (T c : Nat) : Bool := T / 2 ^ c % 2 == 1
def sg (T c : Nat) : Int := if inT T c then (if gtb T c % 2 = 0 then 1 else -1) else 0
theorem sg_anti : ∀ T, T < 64 → ∀ c, c < 6 → ∀ d, d < 6 → sg T c * sg (T - 2 ^ c) d = - (sg T d * sg (T - 2 ^ d) c) := by decide +kernel
theorem sg_pc : ∀ T, T < 64 → ∀ c, c < 6 → inT T c = true → pc6 (T - 2 ^ c) + 1 = pc6 T ∧ T - 2 ^ c < T := by decide +kernel
theorem sg_abs : ∀ T, T < 64 → sm (fun c => ((sg T c).natAbs : Int)) 6 = pc6 T := by decide +kernel
theorem sg_out {T c : Nat} (h : inT T c = false) : sg T c = 0 := by unfold sg; rw [if_neg (by rw [h]; decide)]
theorem sg_1 {T c : Nat} : (sg T c).natAbs ≤ 1 := by
  unfold sg
  split
  · split <;> decide
  · decide
def mz (g : Nat → Nat → Int) : Nat → Nat → Int
  | 0, _ => 1
  | k + 1, T => sm (fun c => sg T c * g k c * mz g k (T - 2 ^ c)) 6
theorem mz_rep (g : Nat → Nat → Int) : ∀ (k r : Nat), r < k → ∀ T, T < 64 → sm (fun c => sg T c * g r c * mz g k (T - 2 ^ c)) 6 = 0
  | 0, r, h, _, _ => absurd h (Nat.not_lt_zero r)
  | k + 1, r, h, T, hT => by
    have e1 : sm (fun c => sg T c * g r c * mz g (k + 1) (T - 2 ^ c)) 6 = sm (fun c => sm (fun d => sg T c * sg (T - 2 ^ c) d * (g r c * g k d * mz g k (T - 2 ^ c - 2 ^ d))) 6) 6 := by
      apply sm_c
      intro c hc
      rw [mz, sm_mul]
      apply sm_c
      intro d hd
      ac_rfl
    rw [e1]
    by_cases hr : r = k
    · subst hr
      have e2 : sm (fun c => sm (fun d => sg T c * sg (T - 2 ^ c) d * (g r c * g r d * mz g r (T - 2 ^ c - 2 ^ d))) 6) 6 = - sm (fun c => sm (fun d => sg T c * sg (T - 2 ^ c) d * (g r c * g r d * mz g r (T - 2 ^ c - 2 ^ d))) 6) 6 := by
        rw (occs := .pos [1]) [sm_swap]
        rw [sm_neg]
        apply sm_c
        intro d hd
        rw [sm_neg]
        apply sm_c
        intro c hc
        rw [sg_anti T hT c hc d hd, Nat.sub_right_comm, Int.mul_comm (g r c) (g r d), Int.neg_mul]
      omega
    · rw [sm_swap]
      apply sm_0
      intro d hd
      have e3 : sm (fun c => sg T c * sg (T - 2 ^ c) d * (g r c * g k d * mz g k (T - 2 ^ c - 2 ^ d))) 6 = (- (sg T d * g k d)) * sm (fun c => sg (T - 2 ^ d) c * g r c * mz g k (T - 2 ^ d - 2 ^ c)) 6 := by
        rw [sm_mul]
        apply sm_c
        intro c hc
        rw [sg_anti T hT c hc d hd, Nat.sub_right_comm, Int.neg_mul, Int.neg_mul]
        congr 1
        ac_rfl
      rw [e3, mz_rep g k r (by omega) (T - 2 ^ d) (Nat.lt_of_le_of_lt (Nat.sub_le _ _) hT), Int.mul_zero]
theorem sg_full : ∀ k, k < 6 → sg (2 ^ (k + 1) - 1) k = 1 ∧ (2 ^ (k + 1) - 1) - 2 ^ k = 2 ^ k - 1 ∧ ∀ c, c < 6 → k < c → sg (2 ^ (k + 1) - 1) c = 0 := by decide +kernel
/-- Gram's determinants: two that follow one another have a product that is a sum of squares -/
theorem gram {v : Nat → Nat → Int} {g : Nat → Nat → Int} (k : Nat) (hk : k < 6) (hg : ∀ r c, r < k + 1 → c < k + 1 → g r c = sm (fun q => v r q * v c q) 8) : 0 ≤ mz g k (2 ^ k - 1) * mz g (k + 1) (2 ^ (k + 1) - 1) := by
  obtain ⟨f1, f2, f3⟩ := sg_full k hk
  have hT : 2 ^ (k + 1) - 1 < 64 := by
    have : 2 ^ (k + 1) ≤ 2 ^ 6 := Nat.pow_le_pow_right (by decide) (by omega)
    omega
  generalize hX : (fun c => sg (2 ^ (k + 1) - 1) c * mz g k (2 ^ (k + 1) - 1 - 2 ^ c)) = X
  have x0 : ∀ c, c < 6 → k < c → X c = 0 := by
    intro c hc hkc
    rw [← hX]
    show sg (2 ^ (k + 1) - 1) c * _ = 0
    rw [f3 c hc hkc, Int.zero_mul]
  have xk : X k = mz g k (2 ^ k - 1) := by
    rw [← hX]
    show sg (2 ^ (k + 1) - 1) k * mz g k (2 ^ (k + 1) - 1 - 2 ^ k) = _
    rw [f1, f2, Int.one_mul]
  have row : ∀ r, r < k + 1 → sm (fun c => X c * sm (fun q => v r q * v c q) 8) 6 = sm (fun c => sg (2 ^ (k + 1) - 1) c * g r c * mz g k (2 ^ (k + 1) - 1 - 2 ^ c)) 6 := by
    intro r hr
    apply sm_c
    intro c hc
    by_cases h : k < c
    · rw [x0 c hc h, f3 c hc h, Int.zero_mul, Int.zero_mul, Int.zero_mul]
    · rw [← hg r c hr (by omega), ← hX]
      show sg (2 ^ (k + 1) - 1) c * mz g k (2 ^ (k + 1) - 1 - 2 ^ c) * g r c = _
      ac_rfl
  have key : sm (fun q => sm (fun c => X c * v c q) 6 * sm (fun c => X c * v c q) 6) 8 = sm (fun r => X r * sm (fun c => X c * sm (fun q => v r q * v c q) 8) 6) 6 := by
    have a1 : ∀ r, r < 6 → X r * sm (fun c => X c * sm (fun q => v r q * v c q) 8) 6 = sm (fun q => X r * v r q * sm (fun c => X c * v c q) 6) 8 := by
      intro r hr
      have b1 : sm (fun c => X c * sm (fun q => v r q * v c q) 8) 6 = sm (fun q => v r q * sm (fun c => X c * v c q) 6) 8 := by
        rw [show sm (fun c => X c * sm (fun q => v r q * v c q) 8) 6 = sm (fun c => sm (fun q => X c * (v r q * v c q)) 8) 6 from sm_c (fun c hc => sm_mul _ _ _), sm_swap]
        apply sm_c
        intro q hq
        rw [sm_mul]
        apply sm_c
        intro c hc
        ac_rfl
      rw [b1, sm_mul]
      apply sm_c
      intro q hq
      ac_rfl
    rw [show sm (fun r => X r * sm (fun c => X c * sm (fun q => v r q * v c q) 8) 6) 6 = sm (fun r => sm (fun q => X r * v r q * sm (fun c => X c * v c q) 6) 8) 6 from sm_c a1, sm_swap]
    apply sm_c
    intro q hq
    rw [show sm (fun c => X c * v c q * sm (fun c => X c * v c q) 6) 6 = sm (fun c => sm (fun c => X c * v c q) 6 * (X c * v c q)) 6 from sm_c (fun c _ => Int.mul_comm _ _), ← sm_mul]
  have fin : sm (fun r => X r * sm (fun c => X c * sm (fun q => v r q * v c q) 8) 6) 6 = mz g k (2 ^ k - 1) * mz g (k + 1) (2 ^ (k + 1) - 1) := by
    have z : ∀ r, r < 6 → r ≠ k → X r * sm (fun c => X c * sm (fun q => v r q * v c q) 8) 6 = 0 := by
      intro r hr hne
      rcases (show r < k ∨ k < r by omega) with h | h
      · rw [row r (by omega), mz_rep g k r h _ hT, Int.mul_zero]
      · rw [x0 r hr h, Int.zero_mul]
    have one : ∀ (F : Nat → Int) (n : Nat), k < n → (∀ r, r < n → r ≠ k → F r = 0) → sm F n = F k := by
      intro F n
      induction n with
      | zero => intro h; omega
      | succ n ih =>
        intro h hF
        unfold sm
        by_cases e : n = k
        · subst e
          rw [sm_0 (fun i hi => hF i (by omega) (by omega)), Int.zero_add]
        · rw [ih (by omega) (fun r hr => hF r (by omega)), hF n (by omega) e, Int.add_zero]
    rw [one _ 6 hk z, row k (by omega), xk]
    rfl
  rw [← fin, ← key]
  exact sm_sq _ 8
/-! a column moved to another place -/
theorem sm_two {L R : Nat → Int} {i n : Nat} (hi : i < 6) (hn : n < 6) (hne : i ≠ n) (h : ∀ c, c < 6 → c ≠ i → c ≠ n → L c = R c) (h1 : L i = R n) (h2 : L n = R i) : sm L 6 = sm R 6 := by
  have e0 := h 0 (by omega)
  have e1 := h 1 (by omega)
  have e2 := h 2 (by omega)
  have e3 := h 3 (by omega)
  have e4 := h 4 (by omega)
  have e5 := h 5 (by omega)
  unfold sm sm sm sm sm sm sm
  rcases (show i = 0 ∨ i = 1 ∨ i = 2 ∨ i = 3 ∨ i = 4 ∨ i = 5 by omega) with rfl | rfl | rfl | rfl | rfl | rfl <;> rcases (show n = 0 ∨ n = 1 ∨ n = 2 ∨ n = 3 ∨ n = 4 ∨ n = 5 by omega) with rfl | rfl | rfl | rfl | rfl | rfl <;> simp at hne e0 e1 e2 e3 e4 e5 <;> omega
def mvA (n T i : Nat) : Bool := inT T n == false && inT (T - 2 ^ i + 2 ^ n) i == false && sg (T - 2 ^ i + 2 ^ n) n == 1 && T - 2 ^ i + 2 ^ n - 2 ^ n == T - 2 ^ i && inT (T - 2 ^ i) i == false && pc6 T != 0
def mvB (n T i c : Nat) : Bool := if inT T c then inT (T - 2 ^ c) i && sg T c * sg (T - 2 ^ c) i == sg T i * sg (T - 2 ^ i + 2 ^ n) c && T - 2 ^ c - 2 ^ i + 2 ^ n == T - 2 ^ i + 2 ^ n - 2 ^ c else inT (T - 2 ^ i + 2 ^ n) c == false
theorem mvA_ok : ∀ n, n < 6 → ∀ i, i < 6 → ∀ T, T < 32 → (i < n ∧ T < 2 ^ n ∧ inT T i = true → mvA n T i = true) := by decide +kernel
def allB : Nat → (Nat → Bool) → Bool
  | 0, _ => true
  | n + 1, f => allB n f && f n
theorem allB_ok {f : Nat → Bool} : ∀ {n : Nat}, allB n f = true → ∀ i, i < n → f i = true
  | 0, _, i, hi => absurd hi (Nat.not_lt_zero i)
  | n + 1, h, i, hi => by
    unfold allB at h
    rw [Bool.and_eq_true] at h
    by_cases e : i = n
    · rw [e]; exact h.2
    · exact allB_ok h.1 i (by omega)
theorem mvB_all : allB 6 (fun n => allB 6 (fun i => allB 32 (fun T => allB 6 (fun c => !(decide (i < n) && decide (T < 2 ^ n) && inT T i && decide (c ≠ i) && decide (c ≠ n)) || mvB n T i c)))) = true := by decide +kernel
theorem mvB_ok (n : Nat) (hn : n < 6) (i : Nat) (hi : i < 6) (T : Nat) (hT : T < 32) (c : Nat) (hc : c < 6) (h : i < n ∧ T < 2 ^ n ∧ inT T i = true ∧ c ≠ i ∧ c ≠ n) : mvB n T i c = true := by
  have := allB_ok (allB_ok (allB_ok (allB_ok mvB_all n hn) i hi) T hT) c hc
  obtain ⟨h1, h2, h3, h4, h5⟩ := h
  simpa [h1, h2, h3, h4, h5] using this
theorem mv_facts (n : Nat) (hn : n < 6) (T : Nat) (hT : T < 32) (hTn : T < 2 ^ n) (i : Nat) (hi : i < n) (h : inT T i = true) : (inT T n = false ∧ inT (T - 2 ^ i + 2 ^ n) i = false ∧ sg (T - 2 ^ i + 2 ^ n) n = 1 ∧ T - 2 ^ i + 2 ^ n - 2 ^ n = T - 2 ^ i ∧ inT (T - 2 ^ i) i = false ∧ pc6 T ≠ 0) ∧ ∀ c, c < 6 → c ≠ i → c ≠ n → (inT T c = false → inT (T - 2 ^ i + 2 ^ n) c = false) ∧ (inT T c = true → inT (T - 2 ^ c) i = true ∧ sg T c * sg (T - 2 ^ c) i = sg T i * sg (T - 2 ^ i + 2 ^ n) c ∧ T - 2 ^ c - 2 ^ i + 2 ^ n = T - 2 ^ i + 2 ^ n - 2 ^ c) := by
  have hA := mvA_ok n hn i (by omega) T hT ⟨hi, hTn, h⟩
  unfold mvA at hA
  simp only [Bool.and_eq_true, beq_iff_eq, bne_iff_ne] at hA
  obtain ⟨⟨⟨⟨⟨a1, a2⟩, a3⟩, a4⟩, a5⟩, a6⟩ := hA
  refine ⟨⟨a1, a2, a3, a4, a5, a6⟩, ?_⟩
  intro c hc c1 c2
  have hB := mvB_ok n hn i (by omega) T hT c hc ⟨hi, hTn, h, c1, c2⟩
  unfold mvB at hB
  refine ⟨fun hf => ?_, fun ht => ?_⟩
  · rw [hf] at hB
    simpa using hB
  · rw [ht, if_pos rfl] at hB
    simp only [Bool.and_eq_true, beq_iff_eq] at hB
    exact ⟨hB.1.1, hB.1.2, hB.2⟩
theorem in_sub : ∀ T, T < 64 → ∀ i, i < 6 → ∀ c, c < 6 → inT T i = false → inT T c = true → inT (T - 2 ^ c) i = false := by decide +kernel
theorem mz_same {g g' : Nat → Nat → Int} {i : Nat} (hi : i < 6) (hg : ∀ r c, c ≠ i → g' r c = g r c) : ∀ (k T : Nat), T < 64 → inT T i = false → mz g' k T = mz g k T
  | 0, _, _, _ => rfl
  | k + 1, T, hT, h => by
    rw [mz, mz]
    apply sm_c
    intro c hc
    by_cases hin : inT T c = true
    · have hne : c ≠ i := by intro e; rw [e, h] at hin; cases hin
      rw [hg k c hne, mz_same hi hg k (T - 2 ^ c) (Nat.lt_of_le_of_lt (Nat.sub_le _ _) hT) (in_sub T hT i hi c hc h hin)]
    · rw [sg_out (by simpa using hin)]
      simp
theorem mz_move {g g' : Nat → Nat → Int} {i n : Nat} (hi : i < n) (hn : n < 6) (hg : ∀ r c, c ≠ i → g' r c = g r c) (hgi : ∀ r, g' r i = g r n) : ∀ (k T : Nat), T < 2 ^ n → inT T i = true → pc6 T = k → mz g' k T = sg T i * mz g k (T - 2 ^ i + 2 ^ n)
  | 0, T, hT, h, hp => by
    have h32 : T < 32 := by
      have : 2 ^ n ≤ 2 ^ 5 := Nat.pow_le_pow_right (by decide) (by omega)
      omega
    exact absurd hp (mv_facts n hn T h32 hT i hi h).1.2.2.2.2.2
  | k + 1, T, hT, h, hp => by
    have h32 : T < 32 := by
      have : 2 ^ n ≤ 2 ^ 5 := Nat.pow_le_pow_right (by decide) (by omega)
      omega
    obtain ⟨⟨f1, f2, f3, f4, f5, f6⟩, f7⟩ := mv_facts n hn T h32 hT i hi h
    rw [mz, mz, sm_mul]
    apply sm_two (i := i) (n := n) (by omega) hn (by omega)
    · intro c hc c1 c2
      obtain ⟨a1, a2⟩ := f7 c hc c1 c2
      by_cases hin : inT T c = true
      · obtain ⟨b1, b2, b3⟩ := a2 hin
        obtain ⟨p1, p2⟩ := sg_pc T (by omega) c hc hin
        rw [hg k c c1, mz_move hi hn hg hgi k (T - 2 ^ c) (by omega) b1 (by omega), b3]
        have : sg T c * g k c * (sg (T - 2 ^ c) i * mz g k (T - 2 ^ i + 2 ^ n - 2 ^ c)) = sg T c * sg (T - 2 ^ c) i * (g k c * mz g k (T - 2 ^ i + 2 ^ n - 2 ^ c)) := by ac_rfl
        rw [this, b2]
        ac_rfl
      · have hf : inT T c = false := by simpa using hin
        rw [sg_out hf, sg_out (a1 hf)]
        simp
    · rw [hgi, mz_same (by omega) hg k (T - 2 ^ i) (Nat.lt_of_le_of_lt (Nat.sub_le _ _) (by omega)) f5, f3, f4, Int.one_mul, Int.mul_assoc]
    · rw [sg_out f1, sg_out f2]
      simp
/-! how large they can be -/
def fac : Nat → Nat
  | 0 => 1
  | n + 1 => (n + 1) * fac n
theorem sm_abs (f : Nat → Int) : ∀ n : Nat, ((sm f n).natAbs : Int) ≤ sm (fun i => ((f i).natAbs : Int)) n
  | 0 => by unfold sm; decide
  | n + 1 => by
    have := sm_abs f n
    unfold sm
    omega
theorem sm_le {f g : Nat → Int} : ∀ {n : Nat}, (∀ i, i < n → f i ≤ g i) → sm f n ≤ sm g n
  | 0, _ => Int.le_refl _
  | n + 1, h => by
    unfold sm
    have := sm_le (n := n) (fun i hi => h i (by omega))
    have := h n (by omega)
    omega
theorem mz_b0 {f : Nat → Int} {T X : Nat} (hT : T < 64) (h : ∀ c, c < 6 → inT T c = true → (f c).natAbs ≤ X) : (sm (fun c => sg T c * f c) 6).natAbs ≤ pc6 T * X := by
  have h1 := sm_abs (fun c => sg T c * f c) 6
  have h2 : sm (fun c => ((sg T c * f c).natAbs : Int)) 6 ≤ sm (fun c => (X : Int) * ((sg T c).natAbs : Int)) 6 := by
    apply sm_le
    intro c hc
    rw [Int.natAbs_mul]
    by_cases hin : inT T c = true
    · have := h c hc hin
      have h3 : (sg T c).natAbs * (f c).natAbs ≤ (sg T c).natAbs * X := Nat.mul_le_mul_left _ this
      have h4 : (sg T c).natAbs * X = X * (sg T c).natAbs := Nat.mul_comm _ _
      have h5 : (X : Int) * ((sg T c).natAbs : Int) = ((X * (sg T c).natAbs : Nat) : Int) := by push_cast; rfl
      rw [h5]
      exact Int.ofNat_le.mpr (by omega)
    · rw [sg_out (by simpa using hin)]
      simp
  rw [← sm_mul, sg_abs T hT] at h2
  have h6 : (X : Int) * (pc6 T : Int) = ((pc6 T * X : Nat) : Int) := by push_cast; exact Int.mul_comm _ _
  rw [h6] at h2
  omega
theorem mz_b1 {g : Nat → Nat → Int} {B K : Nat} : ∀ (k T : Nat), k ≤ K → T < 64 → pc6 T = k → (∀ r c, r < K → c < 6 → inT T c = true → (g r c).natAbs ≤ B) → (mz g k T).natAbs ≤ fac k * B ^ k
  | 0, _, _, _, _, _ => by simp [mz, fac]
  | k + 1, T, hK, hT, hp, hg => by
    rw [mz]
    have := mz_b0 (f := fun c => g k c * mz g k (T - 2 ^ c)) (T := T) (X := B * (fac k * B ^ k)) hT (by
      intro c hc hin
      obtain ⟨p1, p2⟩ := sg_pc T hT c hc hin
      rw [Int.natAbs_mul]
      apply Nat.mul_le_mul (hg k c (by omega) hc hin)
      apply mz_b1 (K := K) k (T - 2 ^ c) (by omega) (by omega) (by omega)
      intro r d hr hd hin2
      apply hg r d hr hd
      by_cases e : inT T d = true
      · exact e
      · have := in_sub T hT d hd c hc (by simpa using e) hin
        rw [this] at hin2; cases hin2)
    rw [show sm (fun c => sg T c * g k c * mz g k (T - 2 ^ c)) 6 = sm (fun c => sg T c * (g k c * mz g k (T - 2 ^ c))) 6 from sm_c (fun c _ => Int.mul_assoc _ _ _)]
    refine Nat.le_trans this ?_
    rw [hp, fac, Nat.pow_succ]
    apply Nat.le_of_eq
    ac_rfl
theorem in_only' : ∀ T, T < 64 → ∀ n, n < 6 → ∀ c, c < 6 → (inT T n = true ∧ pc6 T = 1 ∧ inT T c = true → c = n) := by decide +kernel
theorem in_only (T : Nat) (hT : T < 64) (n : Nat) (hn : n < 6) (h1 : inT T n = true) (h2 : pc6 T = 1) (c : Nat) (hc : c < 6) (h3 : inT T c = true) : c = n := in_only' T hT n hn c hc ⟨h1, h2, h3⟩
theorem in_keep' : ∀ T, T < 64 → ∀ n, n < 6 → ∀ c, c < 6 → (inT T n = true ∧ inT T c = true ∧ c ≠ n → inT (T - 2 ^ c) n = true) := by decide +kernel
theorem in_keep (T : Nat) (hT : T < 64) (n : Nat) (hn : n < 6) (h1 : inT T n = true) (c : Nat) (hc : c < 6) (h2 : inT T c = true) (h3 : c ≠ n) : inT (T - 2 ^ c) n = true := in_keep' T hT n hn c hc ⟨h1, h2, h3⟩
theorem in_gone : ∀ T, T < 64 → ∀ n, n < 6 → inT T n = true → inT (T - 2 ^ n) n = false := by decide +kernel
theorem mz_b2 {g : Nat → Nat → Int} {B B' K n : Nat} (hn : n < 6) : ∀ (k T : Nat), k < K → T < 64 → pc6 T = k + 1 → inT T n = true → (∀ r c, r < K → c < 6 → c ≠ n → inT T c = true → (g r c).natAbs ≤ B) → (∀ r, r < K → (g r n).natAbs ≤ B') → (mz g (k + 1) T).natAbs ≤ fac (k + 1) * B ^ k * B' := by
  intro k
  induction k with
  | zero =>
    intro T hK hT hp hin hg hgn
    rw [mz]
    have := mz_b0 (f := fun c => g 0 c * mz g 0 (T - 2 ^ c)) (T := T) (X := B') hT (by
      intro c hc hin'
      have := in_only T hT n hn hin hp c hc hin'
      subst this
      rw [mz, Int.mul_one]
      exact hgn 0 (by omega))
    rw [show sm (fun c => sg T c * g 0 c * mz g 0 (T - 2 ^ c)) 6 = sm (fun c => sg T c * (g 0 c * mz g 0 (T - 2 ^ c))) 6 from sm_c (fun c _ => Int.mul_assoc _ _ _)]
    refine Nat.le_trans this ?_
    rw [hp, fac, fac, Nat.pow_zero]
    omega
  | succ k ih =>
    intro T hK hT hp hin hg hgn
    rw [mz]
    have := mz_b0 (f := fun c => g (k + 1) c * mz g (k + 1) (T - 2 ^ c)) (T := T) (X := fac (k + 1) * B ^ (k + 1) * B') hT (by
      intro c hc hin'
      obtain ⟨p1, p2⟩ := sg_pc T hT c hc hin'
      rw [Int.natAbs_mul]
      by_cases e : c = n
      · subst e
        have h1 := mz_b1 (g := g) (B := B) (K := K) (k + 1) (T - 2 ^ c) (by omega) (by omega) (by omega) (by
          intro r d hr hd hin2
          have hdn : d ≠ c := by intro e; rw [e, in_gone T hT c hn hin] at hin2; cases hin2
          apply hg r d hr hd hdn
          by_cases e : inT T d = true
          · exact e
          · have := in_sub T hT d hd c hc (by simpa using e) hin'
            rw [this] at hin2; cases hin2)
        calc (g (k + 1) c).natAbs * (mz g (k + 1) (T - 2 ^ c)).natAbs ≤ B' * (fac (k + 1) * B ^ (k + 1)) := Nat.mul_le_mul (hgn _ (by omega)) h1
          _ = fac (k + 1) * B ^ (k + 1) * B' := Nat.mul_comm _ _
      · have h1 := ih (T - 2 ^ c) (by omega) (by omega) (by omega) (in_keep T hT n hn hin c hc hin' e) (by
          intro r d hr hd hdn hin2
          apply hg r d hr hd hdn
          by_cases e : inT T d = true
          · exact e
          · have := in_sub T hT d hd c hc (by simpa using e) hin'
            rw [this] at hin2; cases hin2) hgn
        calc (g (k + 1) c).natAbs * (mz g (k + 1) (T - 2 ^ c)).natAbs ≤ B * (fac (k + 1) * B ^ k * B') := Nat.mul_le_mul (hg _ _ (by omega) hc e hin') h1
          _ = fac (k + 1) * B ^ (k + 1) * B' := by rw [Nat.pow_succ]; ac_rfl)
    rw [show sm (fun c => sg T c * g (k + 1) c * mz g (k + 1) (T - 2 ^ c)) 6 = sm (fun c => sg T c * (g (k + 1) c * mz g (k + 1) (T - 2 ^ c))) 6 from sm_c (fun c _ => Int.mul_assoc _ _ _)]
    refine Nat.le_trans this ?_
    rw [hp, show fac (k + 1 + 1) = (k + 1 + 1) * fac (k + 1) from rfl]
    apply Nat.le_of_eq
    generalize fac (k + 1) = F
    ac_rfl

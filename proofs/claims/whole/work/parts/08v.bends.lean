/-! the seen parts are solved, the dead ones follow -/
def g2 (C σ : Nat → Int32) (A : Nat → Nat) (i r c : Nat) : Int := if c = i then slZ C σ (A r) else GA C A r c
def nu (C σ : Nat → Int32) (A : Nat → Nat) (n i : Nat) : Int64 := Int64.ofInt (mz (g2 C σ A i) n (2 ^ n - 1))
def de (C : Nat → Int32) (A : Nat → Nat) (n : Nat) : Int64 := Int64.ofInt (mz (GA C A) n (2 ^ n - 1))
def rwn (C σ : Nat → Int32) (A : Nat → Nat) (n l : Nat) : Nat → Int64 × Int64
  | 0 => (0, 1)
  | i + 1 => if A i = l then (nu C σ A n i, de C A n) else rwn C σ A n l i
theorem fits : ∀ k, k < 5 → ∀ W, W < 6 - k → fac (k + 1) * (648 * W * W) ^ k * (216000 * W) < 9223372036854775808 ∧ fac (k + 1) * (648 * W * W) ^ (k + 1) < 9223372036854775808 := by decide +kernel
theorem sm_b {f : Nat → Int} {X : Nat} : ∀ {n : Nat}, (∀ i, i < n → (f i).natAbs ≤ X) → (sm f n).natAbs ≤ n * X
  | 0, _ => by simp [sm]
  | n + 1, h => by
    have h1 := sm_b (n := n) (fun i hi => h i (by omega))
    have h2 := h n (by omega)
    have h3 := Int.natAbs_add_le (sm f n) (f n)
    show (sm f n + f n).natAbs ≤ _
    rw [Nat.succ_mul]
    omega
theorem gr_b {C : Nat → Int32} {W : Nat} (hC : ∀ j, (C j).toInt.natAbs ≤ 9 * W) (a b : Nat) : (grZ C a b).natAbs ≤ 648 * W * W := by
  have h := sm_b (n := 8) (X := 9 * W * (9 * W)) (f := fun q => (C (8 * a + q)).toInt * (C (8 * b + q)).toInt) (fun q _ => mulb (hC _) (hC _))
  unfold grZ
  rw [Nat.mul_mul_mul_comm] at h
  rw [Nat.mul_assoc]
  generalize W * W = t at h ⊢
  omega
theorem sz_b {C σ : Nat → Int32} {W : Nat} (hC : ∀ j, (C j).toInt.natAbs ≤ 9 * W) (hσ : ∀ j, j < 8 → (σ j).toInt.natAbs ≤ 3000) (a : Nat) : (slZ C σ a).natAbs ≤ 216000 * W := by
  have h := sm_b (n := 8) (X := 9 * W * 3000) (f := fun q => (C (8 * a + q)).toInt * (σ q).toInt) (fun q hq => mulb (hC _) (hσ q hq))
  unfold slZ
  omega
theorem fullin2 : ∀ n, n < 7 → ∀ i, i < n → inT (2 ^ n - 1) i = true := by decide +kernel
theorem oi_small {a : Int} (h : a.natAbs < 9223372036854775808) : (Int64.ofInt a).toInt = a := by
  rw [Int64.toInt_ofInt]
  exact bm64 (by omega) (by omega)
theorem bnd {C σ D : Nat → Int32} {n P : Nat} {A : Nat → Nat} (h : SN C D n A P) (hP : P ≤ 5) (hC : ∀ j, (C j).toInt.natAbs ≤ 9 * (1 + dc D P)) (hσ : ∀ j, j < 8 → (σ j).toInt.natAbs ≤ 3000) : 0 < (de C A n).toInt ∧ ∀ i, i < n → -9223372036854775808 < (nu C σ A n i).toInt := by
  obtain ⟨s1, s2, s3, s4⟩ := h
  obtain ⟨W, hW⟩ : ∃ W, W = 1 + dc D P := ⟨_, rfl⟩
  rw [← hW] at hC
  cases n with
  | zero => exact ⟨by show 0 < (Int64.ofInt 1).toInt; decide, fun i hi => absurd hi (Nat.not_lt_zero i)⟩
  | succ k =>
    obtain ⟨f1, f2⟩ := fits k (by omega) W (by omega)
    have p1 := (fullpow (n := k + 1) (by omega)).1
    have p2 := (bf7 (k + 1) (by omega)).1
    have d1 := mz_b1 (g := GA C A) (B := 648 * W * W) (K := k + 1) (k + 1) (2 ^ (k + 1) - 1) (Nat.le_refl _) p1 p2 (fun r c _ _ _ => gr_b hC _ _)
    refine ⟨?_, ?_⟩
    · unfold de
      rw [oi_small (Nat.lt_of_le_of_lt d1 f2)]
      exact s4
    · intro i hi
      have d2 := mz_b2 (g := g2 C σ A i) (B := 648 * W * W) (B' := 216000 * W) (K := k + 1) (n := i) (by omega) k (2 ^ (k + 1) - 1) (by omega) p1 p2 (fullin2 (k + 1) (by omega) i hi) (fun r c _ _ hc _ => by unfold g2; rw [if_neg hc]; exact gr_b hC _ _) (fun r _ => by unfold g2; rw [if_pos rfl]; exact sz_b hC hσ _)
      have d3 := Nat.lt_of_le_of_lt d2 f1
      unfold nu
      rw [oi_small d3]
      omega
def OKW (w : Int64 × Int64) : Prop := -9223372036854775808 < w.1.toInt ∧ 0 < w.2.toInt
theorem rwn_ok {C σ : Nat → Int32} {n l : Nat} {A : Nat → Nat} (hd : 0 < (de C A n).toInt) (hn : ∀ i, i < n → -9223372036854775808 < (nu C σ A n i).toInt) : ∀ i, i ≤ n → OKW (rwn C σ A n l i)
  | 0, _ => by
    show -9223372036854775808 < (0 : Int64).toInt ∧ 0 < (1 : Int64).toInt
    constructor <;> decide
  | i + 1, h => by
    unfold rwn
    by_cases c : A i = l
    · rw [if_pos c]; exact ⟨hn i (by omega), hd⟩
    · rw [if_neg c]; exact rwn_ok hd hn i (by omega)
def CE (z : ST) (p : Nat) (w : Int64 × Int64) : Prop := gB z 17 p = rA w.1 w.2 ∧ gB z 18 p = rB w.1 w.2 ∧ gA z 19 p = nw (rA w.1 w.2) (rB w.1 w.2)
theorem ce_set {z : ST} {p q : Nat} {a b : Int64} {w : Int64 × Int64} (hp : p < 5) (h1 : q = p → w = (a, b)) (h2 : q ≠ p → CE z q w) : CE (sA (sB (sB z 17 (nI p) (rA a b)) 18 (nI p) (rB a b)) 19 (nI p) (nw (rA a b) (rB a b))) q w := by
  show vp_updL (gB z 17) (nI p).toNatClampNeg (rA a b) q = _ ∧ vp_updL (gB z 18) (nI p).toNatClampNeg (rB a b) q = _ ∧ upd (gA z 19) (nI p).toNatClampNeg (nw (rA a b) (rB a b)) q = _
  rw [cl_nI (by omega), updL_eq, updL_eq, upd_eq]
  by_cases e : q = p
  · rw [if_pos e, if_pos e, if_pos e, h1 e]
    exact ⟨rfl, rfl, rfl⟩
  · rw [if_neg e, if_neg e, if_neg e]
    exact h2 e
/-- only the told bends -/
def fT (x y : ST) : Prop := fr (fun _ => false) (fun a => a == 19) x y
theorem sv1 : ∀ n, n < 6 → (((1 : Int32) <<< ((nI n + 1) &&& 31)) - 1 = nI (2 ^ (n + 1) - 1) ∧ (nI (2 ^ (n + 1) - 1) >>> ((1 : Int32) &&& 31)) = nI (2 ^ n - 1) ∧ 2 ^ (n + 1) - 1 < 64 ∧ pc6 (2 ^ n - 1) = n ∧ 2 ^ n - 1 < 64 ∧ 2 ^ n - 1 < 2 ^ (n + 1)) := by decide +kernel
theorem sv2 : ∀ n, n < 6 → ∀ i, i < n → (nI (2 ^ (n + 1) - 1) ^^^ ((1 : Int32) <<< (nI i &&& 31)) = nI (2 ^ (n + 1) - 1 - 2 ^ i) ∧ 2 ^ n - 1 - 2 ^ i + 2 ^ n = 2 ^ (n + 1) - 1 - 2 ^ i ∧ pc6 (2 ^ (n + 1) - 1 - 2 ^ i) = n ∧ 2 ^ (n + 1) - 1 - 2 ^ i < 64 ∧ 2 ^ (n + 1) - 1 - 2 ^ i < 2 ^ (n + 1) ∧ (((nI n - 1 - nI i) - (nI n - 1 - nI i) / 2 * 2 = 0 ∧ sg (2 ^ n - 1) i = 1) ∨ (¬ ((nI n - 1 - nI i) - (nI n - 1 - nI i) / 2 * 2 = 0) ∧ sg (2 ^ n - 1) i = -1))) := by decide +kernel
theorem nu_eq {C σ : Nat → Int32} {A : Nat → Nat} {n i : Nat} (hn : n < 6) (hi : i < n) : mz (g2 C σ A i) n (2 ^ n - 1) = sg (2 ^ n - 1) i * mz (g2 C σ A n) n (2 ^ (n + 1) - 1 - 2 ^ i) := by
  obtain ⟨a1, a2, a3, a4, a5, a6⟩ := sv2 n hn i hi
  obtain ⟨b1, b2, b3, b4, b5, b6⟩ := sv1 n hn
  have hp := (fullpow (n := n) (by omega)).2
  have M := mz_move (g := g2 C σ A n) (g' := fun r c => if c = i then slZ C σ (A r) else g2 C σ A n r c) (i := i) (n := n) hi hn (fun r c hc => by show (if c = i then _ else _) = _; rw [if_neg hc]) (fun r => by show (if i = i then _ else _) = _; rw [if_pos rfl]; unfold g2; rw [if_pos rfl]) n (2 ^ n - 1) (by omega) (fullin2 n (by omega) i hi) b4
  rw [a2] at M
  rw [← M]
  apply mz_c _ _ b5
  intro r c hr hc hin
  have := fullin n (by omega) c hc hin
  unfold g2
  by_cases e : c = i
  · rw [if_pos e, if_pos e]
  · rw [if_neg e, if_neg e, if_neg (by omega)]
theorem sv_2 {C σ : Nat → Int32} {n : Nat} {A : Nat → Nat} {y : ST} (hn : n ≤ 5) (e0 : gI y 0 = nI n) (hA : ∀ i, i < n → gA y 14 i = nI (A i) ∧ A i < 5) (hC : ∀ j, j < 40 → gA y 12 j = C j ∧ inb (C j) (-45) 45) (hσ : ∀ j, j < 8 → gA y 13 j = σ j ∧ inb (σ j) (-3000) 3000) : ∀ (N i : Nat) (f : Nat → Int64), i ≤ n → n < N + i → (∀ r c, r < n → c < n → f (6 * r + c) = Int64.ofInt (GA C A r c)) → (∀ r, r < i → f (6 * r + n) = Int64.ofInt (slZ C σ (A r))) → ∃ f', fX0_solve_2 N (nI i) (sH y 15 f) = fX0_solve_40 (sH y 15 f') ∧ (∀ r c, r < n → c < n + 1 → f' (6 * r + c) = Int64.ofInt (g2 C σ A n r c)) := by
  intro N
  induction N with
  | zero => intro i f h1 h2; omega
  | succ N ih =>
    intro i f h1 h2 hf hb
    rw [fX0_solve_2, show gI (sH y 15 f) 0 = gI y 0 from rfl, e0]
    by_cases c : n ≤ i
    · rw [if_pos (nI_le c (by omega))]
      refine ⟨f, rfl, ?_⟩
      intro r c hr hc
      unfold g2
      by_cases e : c = n
      · rw [if_pos e, e]; exact hb r (by omega)
      · rw [if_neg e]; exact hf r c hr (by omega)
    · obtain ⟨a1, a2⟩ := hA i (by omega)
      rw [if_neg (nI_ge (by omega) (by omega)), if_pos (ix_nI (by omega) (by decide)), cl_nI (by omega), show gA (sH y 15 f) 14 i = gA y 14 i from rfl, a1]
      have Q := psl_x (x := sH y 15 f) (C := C) (σ := σ) (a := A i) a2 hC hσ 200 0 (by omega) (by omega)
      unfold fX0_productWithSlopes
      rw [show fX0_productWithSlopes_5 200 (nI (A i)) 0 0 (sH y 15 f) = _ from Q, Option.bind_some]
      simp only [i6]
      rw [if_pos (ix_nI (by omega) (by decide)), sB_sH, cl_nI (by omega), nI_1]
      apply ih (i + 1) _ (by omega) (by omega)
      · intro r c hr hc
        rw [updL_eq, if_neg (by omega)]
        exact hf r c hr hc
      · intro r hr
        rw [updL_eq]
        by_cases e : r = i
        · rw [if_pos (by omega), e]
        · rw [if_neg (by omega)]; exact hb r (by omega)
theorem sv_73 {C σ : Nat → Int32} {n P : Nat} {A : Nat → Nat} {y : ST} {F : Nat → Int64} (hn : n ≤ 5) (e0 : gI y 0 = nI n) (hA : ∀ i, i < n → gA y 14 i = nI (A i) ∧ A i < 5) (hd : 0 < (de C A n).toInt) (hnu : ∀ i, i < n → -9223372036854775808 < (nu C σ A n i).toInt) (hF : ∀ U, U < 2 ^ (n + 1) → pc6 U ≤ n → F U = Int64.ofInt (mz (g2 C σ A n) (pc6 U) U)) : ∀ (N i : Nat) (z : ST), i ≤ n → n < N + i → fT y z → gB z 16 = F → (∀ q, q < P → CE z q (rwn C σ A n q i)) → ∃ z', fX0_solve_73 N (nI (2 ^ (n + 1) - 1)) (de C A n) (nI i) z = some z' ∧ fT y z' ∧ (∀ q, q < P → CE z' q (rwn C σ A n q n)) := by
  intro N
  induction N with
  | zero => intro i z h1 h2; omega
  | succ N ih =>
    intro i z h1 h2 hf h16 hq
    rw [fX0_solve_73, hf.1 0 rfl, e0]
    by_cases c : n ≤ i
    · have : i = n := by omega
      subst this
      rw [if_pos (nI_le c (by omega))]
      exact ⟨z, rfl, hf, hq⟩
    · obtain ⟨a1, a2⟩ := hA i (by omega)
      obtain ⟨b1, b2, b3, b4, b5, b6⟩ := sv2 n (by omega) i (by omega)
      have hU : F (2 ^ (n + 1) - 1 - 2 ^ i) = Int64.ofInt (mz (g2 C σ A n) n (2 ^ (n + 1) - 1 - 2 ^ i)) := by
        rw [hF _ b5 (by omega), b3]
      have hN := nu_eq (C := C) (σ := σ) (A := A) (n := n) (i := i) (by omega) (by omega)
      rw [if_neg (nI_ge (by omega) (by omega)), b1, if_pos (ix_nI b4 (by decide)), if_pos (ix_nI (by omega) (by decide)), if_neg (show ¬ (2 : Int32) = 0 by decide), cl_nI (by omega), cl_nI (by omega), h16, hU, hf.2 14 rfl, a1]
      have fin : ∃ z', fX0_solve_125 (fX0_solve_73 N) (nI (2 ^ (n + 1) - 1)) (de C A n) (nI i) (nu C σ A n i) (nI (A i)) z = some z' ∧ fT y z' ∧ (∀ q, q < P → CE z' q (rwn C σ A n q n)) := by
        unfold fX0_solve_125
        rw [setb_x a2 (hnu i (by omega)) hd, Option.bind_some, nI_1]
        refine ih (i + 1) (sA (sB (sB z 17 (nI (A i)) _) 18 (nI (A i)) _) 19 (nI (A i)) _) (by omega) (by omega) ((hf.sB _ _ _ |>.sB _ _ _).sA rfl _ _) h16 ?_
        intro q hqP
        unfold rwn
        apply ce_set a2
        · intro e; rw [if_pos e.symm]
        · intro e; rw [if_neg (fun h => e h.symm)]; exact hq q hqP
      rcases b6 with ⟨c1, c2⟩ | ⟨c1, c2⟩
      · rw [if_pos c1]
        have : Int64.ofInt (mz (g2 C σ A n) n (2 ^ (n + 1) - 1 - 2 ^ i)) = nu C σ A n i := by
          unfold nu; rw [hN, c2, Int.one_mul]
        rw [this]; exact fin
      · rw [if_neg c1]
        have : -Int64.ofInt (mz (g2 C σ A n) n (2 ^ (n + 1) - 1 - 2 ^ i)) = nu C σ A n i := by
          unfold nu; rw [hN, c2, ← oi_neg, Int.neg_one_mul]
        rw [this]; exact fin
theorem lv_s {D : Nat → Int32} {p : Nat} (h : D p = 0) : lv D p = p := by
  cases p with
  | zero => rfl
  | succ p => unfold lv; rw [if_pos h]
theorem fd_65 {C σ D : Nat → Int32} {n P : Nat} {A : Nat → Nat} {y : ST} (hP : P ≤ 5) (e9 : gI y 9 = nI P) (hD : ∀ i, i < 5 → gA y 30 i = D i ∧ (D i = 0 ∨ D i = 1)) (hok : ∀ l, OKW (rwn C σ A n l n)) : ∀ (N p : Nat) (z : ST), 1 ≤ p → p ≤ P → P < N + p → fT y z → (∀ q, q < P → CE z q (rwn C σ A n (if q < p then lv D q else q) n)) → ∃ z', fX0_find_65 N (nI p) z = some z' ∧ fT y z' ∧ (∀ q, q < P → CE z' q (rwn C σ A n (lv D q) n)) := by
  intro N
  induction N with
  | zero => intro p z h0 h1 h2; omega
  | succ N ih =>
    intro p z h0 h1 h2 hf hq
    rw [fX0_find_65]
    unfold fX6_count
    rw [Option.bind_some]
    simp only [hf.1 9 rfl, e9]
    by_cases c : P ≤ p
    · rw [if_pos (nI_le c (by omega))]
      refine ⟨z, rfl, hf, fun q hqP => ?_⟩
      have := hq q hqP
      rw [if_pos (by omega)] at this
      exact this
    · have hp : p < 5 := by omega
      rw [if_neg (nI_ge (by omega) (by omega))]
      unfold fX6_isDead fX0_find_107
      rw [if_pos (ix_nI hp (by decide)), cl_nI (by omega), hf.2 30 rfl, (hD p hp).1, if_pos (zb_of (hD p hp).2), Option.bind_some, nI_1]
      by_cases d : D p = 0
      · simp only [if_pos d]
        apply ih (p + 1) z (by omega) (by omega) (by omega) hf
        intro q hqP
        have := hq q hqP
        by_cases e : q < p
        · rw [if_pos e] at this; rw [if_pos (by omega)]; exact this
        · rw [if_neg e] at this
          by_cases e2 : q = p
          · rw [if_pos (by omega), e2, lv_s d]; rw [e2] at this; exact this
          · rw [if_neg (by omega)]; exact this
      · simp only [if_neg d]
        obtain ⟨p, rfl⟩ := Nat.exists_eq_succ_of_ne_zero (by omega : p ≠ 0)
        have e1 : nI (p + 1) - 1 = nI p := by rw [show (1 : Int32) = nI 1 from rfl, pk_sub (by omega)]; rfl
        have hl : lv D (p + 1) = lv D p := by rw [lv, if_neg d]
        obtain ⟨u1, u2, u3⟩ := hq p (by omega)
        rw [if_pos (by omega)] at u1 u2 u3
        obtain ⟨o1, o2⟩ := hok (lv D p)
        obtain ⟨r1, r2, r3, r4⟩ := rB_pos o1 o2
        obtain ⟨t1, t2⟩ := red2 o1 o2
        rw [Nat.succ_eq_add_one, e1, if_pos (ix_nI (by omega) (by decide)), if_pos (ix_nI (by omega) (by decide)), cl_nI (by omega), u1, u2, setb_x hp r2 r1, t1, t2, Option.bind_some]
        apply ih (p + 1 + 1) _ (by omega) (by omega) (by omega) ((hf.sB _ _ _ |>.sB _ _ _).sA rfl _ _)
        intro q hqP
        apply ce_set hp
        · intro e; rw [if_pos (by omega), e, hl]
        · intro e
          have := hq q hqP
          by_cases e2 : q < p + 1
          · rw [if_pos e2] at this; rw [if_pos (by omega)]; exact this
          · rw [if_neg e2] at this; rw [if_neg (by omega)]; exact this
theorem solve_x {C σ D : Nat → Int32} {n P : Nat} {A : Nat → Nat} {x y : ST} (hX : KX C σ D P x) (hS : SN C D n A P) (hY : IX C x y n A P) (hC : ∀ j, (C j).toInt.natAbs ≤ 9 * (1 + dc D P)) (hσ : ∀ j, j < 8 → (σ j).toInt.natAbs ≤ 3000) : ∃ z, fX0_find_58 y = some z ∧ fT y z ∧ (∀ l, OKW (rwn C σ A n l n)) ∧ (∀ q, q < P → CE z q (rwn C σ A n (lv D q) n)) := by
  obtain ⟨x1, x2, x3, x4, x5, x6, x7⟩ := hX
  obtain ⟨hd, hnu⟩ := bnd hS x5 hC hσ
  have hok : ∀ l, OKW (rwn C σ A n l n) := fun l => rwn_ok hd hnu n (Nat.le_refl n)
  obtain ⟨s1, s2, s3, s4⟩ := hS
  obtain ⟨y1, y2, y3, y4, y5⟩ := hY
  have hn : n ≤ 5 := by omega
  have hA : ∀ i, i < n → gA y 14 i = nI (A i) ∧ A i < 5 := fun i hi => ⟨y3 i hi, by have := (s2 i hi).1; omega⟩
  obtain ⟨f, F1, F2⟩ := sv_2 (C := C) (σ := σ) (n := n) (A := A) (y := y) hn y2 hA (by rw [y1.2 12 rfl]; exact x1) (by rw [y1.2 13 rfl]; exact x2) 200 0 (gB y 15) (by omega) (by omega) y4 (fun r hr => absurd hr (Nat.not_lt_zero r))
  rw [sH_id y 15] at F1
  obtain ⟨G, M1, M2⟩ := minors_x (x := sH y 15 f) (w := n + 1) (R := n) (g := g2 C σ A n) (by omega) hn (by
    intro r c hr hc
    rw [gB_sH]
    exact F2 r c hr hc)
  obtain ⟨b1, b2, b3, b4, b5, b6⟩ := sv1 n (by omega)
  have hden : G (2 ^ n - 1) = de C A n := by
    rw [M2 _ b6 (by omega), b4]
    unfold de
    congr 1
    apply mz_c _ _ b5
    intro r c hr hc hin
    have := fullin n (by omega) c hc hin
    unfold g2
    rw [if_neg (by omega)]
  obtain ⟨z, Z1, Z2, Z3⟩ := sv_73 (C := C) (σ := σ) (n := n) (P := P) (A := A) (y := y) (F := G) hn y2 hA hd hnu M2 200 0 (sH (sH y 15 f) 16 G) (by omega) (by omega) (fr.rf.sH _ _ |>.sH _ _) (gB_sH _ _ _) (by
    intro q hq
    obtain ⟨v1, v2, v3⟩ := y5 q hq
    show gB (sH (sH y 15 f) 16 G) 17 q = rA 0 1 ∧ gB (sH (sH y 15 f) 16 G) 18 q = rB 0 1 ∧ gA (sH (sH y 15 f) 16 G) 19 q = nw (rA 0 1) (rB 0 1)
    rw [r01.1, r01.2.1, r01.2.2]
    exact ⟨v1, v2, v3⟩)
  obtain ⟨w, W1, W2, W3⟩ := fd_65 (C := C) (σ := σ) (D := D) (n := n) (P := P) (A := A) (y := z) x5 (by rw [Z2.1 9 rfl, y1.1 9 rfl]; exact x3) (by rw [Z2.2 30 rfl, y1.2 30 rfl]; exact x6) hok 200 1 z (Nat.le_refl 1) x4 (by omega) fr.rf (by
    intro q hq
    have := Z3 q hq
    by_cases e : q < 1
    · have : q = 0 := by omega
      subst this
      rw [if_pos e]
      exact this
    · rw [if_neg e]; exact this)
  refine ⟨w, ?_, Z2.tr W2, hok, W3⟩
  unfold fX0_find_58 fX0_solve
  rw [show fX0_solve_2 200 0 y = _ from F1]
  unfold fX0_solve_40
  simp only [show gI (sH y 15 f) 0 = gI y 0 from rfl, y2, nI_1]
  rw [M1, Option.bind_some]
  simp only [show gI (sH (sH y 15 f) 16 G) 0 = gI y 0 from rfl, y2]
  rw [b1, b2, if_pos (ix_nI b5 (by decide)), cl_nI (by omega), gB_sH, hden]
  rw [show fX0_solve_73 200 (nI (2 ^ (n + 1) - 1)) (de C A n) 0 (sH (sH y 15 f) 16 G) = _ from Z1, Option.bind_some]
  exact W1

/-! Euclid, fractions in lowest terms, the nearest whole number -/
def Fp : Nat → Nat × Nat
  | 0 => (1, 2)
  | k + 1 => ((Fp k).2, (Fp k).1 + (Fp k).2)
theorem lz : (0 : Int64).toInt = 0 := by decide
theorem ldiv {a b : Int64} (ha : 0 ≤ a.toInt) : (a / b).toInt = a.toInt.tdiv b.toInt := by
  rw [Int64.toInt_div]
  have h1 := a.toInt_lt
  have h3 : (a.toInt.tdiv b.toInt).natAbs ≤ a.toInt.natAbs := by
    rw [Int.natAbs_tdiv]
    exact Nat.div_le_self _ _
  exact bm64 (by omega) (by omega)
theorem ldivn {a b : Int64} (ha : -9223372036854775808 < a.toInt) : (a / b).toInt = a.toInt.tdiv b.toInt := by
  rw [Int64.toInt_div]
  have h1 := a.toInt_lt
  have h3 : (a.toInt.tdiv b.toInt).natAbs ≤ a.toInt.natAbs := by
    rw [Int.natAbs_tdiv]
    exact Nat.div_le_self _ _
  exact bm64 (by omega) (by omega)
theorem lrem {a b : Int64} (ha : 0 ≤ a.toInt) (hb : 0 < b.toInt) : (a - a / b * b).toInt = a.toInt % b.toInt := by
  have h1 := a.toInt_lt
  have e1 : (a / b).toInt = a.toInt / b.toInt := by rw [ldiv ha, Int.tdiv_eq_ediv_of_nonneg ha]
  have e2 := Int.mul_ediv_add_emod a.toInt b.toInt
  have e3 := Int.emod_nonneg a.toInt (show b.toInt ≠ 0 by omega)
  have e4 := Int.emod_lt_of_pos a.toInt hb
  have e5 : 0 ≤ a.toInt / b.toInt := Int.ediv_nonneg ha (by omega)
  have e6 : b.toInt * (a.toInt / b.toInt) = a.toInt / b.toInt * b.toInt := Int.mul_comm _ _
  have e7 : 0 ≤ a.toInt / b.toInt * b.toInt := Int.mul_nonneg e5 (by omega)
  rw [Int64.toInt_sub, Int64.toInt_mul, e1, bm64 (a := a.toInt / b.toInt * b.toInt) (by omega) (by omega), bm64 (by omega) (by omega)]
  omega
def EQ (k : Nat) : Prop := ∀ (n n' i : Nat) (a b : Int64), 0 ≤ a.toInt → 0 ≤ b.toInt → b.toInt < (Fp k).1 → k < n → k < n' → i + k ≤ 100 → ∃ r : Int64, fX0_commonDivisor_9 n a b (nI i) = some r ∧ fX12_common_17 n' a b = some r ∧ r.toInt = (Nat.gcd a.toInt.natAbs b.toInt.natAbs : Nat)
theorem eu_0 {n n' i : Nat} {a b : Int64} (ha : 0 ≤ a.toInt) (hb : b.toInt = 0) (hn : 0 < n) (hn' : 0 < n') : ∃ r : Int64, fX0_commonDivisor_9 n a b (nI i) = some r ∧ fX12_common_17 n' a b = some r ∧ r.toInt = (Nat.gcd a.toInt.natAbs b.toInt.natAbs : Nat) := by
  obtain ⟨n, rfl⟩ := Nat.exists_eq_succ_of_ne_zero (by omega : n ≠ 0)
  obtain ⟨n', rfl⟩ := Nat.exists_eq_succ_of_ne_zero (by omega : n' ≠ 0)
  have e : b = 0 := Int64.toInt_inj.mp (hb.trans lz.symm)
  subst e
  refine ⟨a, ?_, ?_, ?_⟩
  · rw [fX0_commonDivisor_9]
    by_cases c : 100 ≤ nI i
    · rw [if_pos c]
    · rw [if_neg c, if_pos rfl]
  · rw [fX12_common_17, if_pos rfl]
  · rw [hb]
    show a.toInt = ((Nat.gcd a.toInt.natAbs 0 : Nat) : Int)
    rw [Nat.gcd_zero_right]
    omega
theorem eu_s {n n' i : Nat} {a b : Int64} (ha : 0 ≤ a.toInt) (hb : 0 < b.toInt) (hi : i < 100) (h : ∃ r : Int64, fX0_commonDivisor_9 n b (a - a / b * b) (nI (i + 1)) = some r ∧ fX12_common_17 n' b (a - a / b * b) = some r ∧ r.toInt = (Nat.gcd b.toInt.natAbs (a - a / b * b).toInt.natAbs : Nat)) : ∃ r : Int64, fX0_commonDivisor_9 (n + 1) a b (nI i) = some r ∧ fX12_common_17 (n' + 1) a b = some r ∧ r.toInt = (Nat.gcd a.toInt.natAbs b.toInt.natAbs : Nat) := by
  obtain ⟨r, h1, h2, h3⟩ := h
  have hb0 : ¬ b = 0 := by intro e; rw [e, lz] at hb; omega
  refine ⟨r, ?_, ?_, ?_⟩
  · rw [fX0_commonDivisor_9, if_neg (lit_nle (v := 100) (a := 100) (b := i) rfl hi (by decide)), if_neg hb0, if_neg hb0, nI_1]
    exact h1
  · rw [fX12_common_17, if_neg hb0, if_neg hb0]
    exact h2
  · rw [h3, lrem ha hb]
    congr 1
    have : (a.toInt % b.toInt).natAbs = a.toInt.natAbs % b.toInt.natAbs := by
      rw [Int.natAbs_emod_of_nonneg ha]
    rw [this, Nat.gcd_comm a.toInt.natAbs, Nat.gcd_rec b.toInt.natAbs a.toInt.natAbs, Nat.gcd_comm]
theorem eu_all : ∀ k, EQ k ∧ EQ (k + 1)
  | 0 => by
    have q0 : EQ 0 := by
      intro n n' i a b ha hb hk hn hn' hi
      have : b.toInt < 1 := hk
      exact eu_0 ha (by omega) hn hn'
    refine ⟨q0, ?_⟩
    intro n n' i a b ha hb hk hn hn' hi
    have hk2 : b.toInt < 2 := hk
    by_cases c : b.toInt = 0
    · exact eu_0 ha c (by omega) (by omega)
    · obtain ⟨n, rfl⟩ := Nat.exists_eq_succ_of_ne_zero (by omega : n ≠ 0)
      obtain ⟨n', rfl⟩ := Nat.exists_eq_succ_of_ne_zero (by omega : n' ≠ 0)
      have e3 := Int.emod_nonneg a.toInt (show b.toInt ≠ 0 by omega)
      have e4 := Int.emod_lt_of_pos a.toInt (show 0 < b.toInt by omega)
      apply eu_s ha (by omega) (by omega)
      apply q0 n n' (i + 1) b _ hb (by rw [lrem ha (by omega)]; omega) (by rw [lrem ha (by omega)]; show _ < ((1 : Nat) : Int); omega) (by omega) (by omega) (by omega)
  | k + 1 => by
    obtain ⟨q0, q1⟩ := eu_all k
    refine ⟨q1, ?_⟩
    intro n n' i a b ha hb hk hn hn' hi
    have hk2 : b.toInt < (((Fp k).2 + ((Fp k).1 + (Fp k).2) - (Fp k).2 : Nat) : Int) := by
      have : (Fp (k + 1 + 1)).1 = (Fp k).1 + (Fp k).2 := rfl
      rw [this] at hk
      omega
    have hF : (Fp (k + 1)).1 = (Fp k).2 := rfl
    by_cases c : b.toInt = 0
    · exact eu_0 ha c (by omega) (by omega)
    · obtain ⟨n, rfl⟩ := Nat.exists_eq_succ_of_ne_zero (by omega : n ≠ 0)
      obtain ⟨n', rfl⟩ := Nat.exists_eq_succ_of_ne_zero (by omega : n' ≠ 0)
      have hbp : 0 < b.toInt := by omega
      have e3 := Int.emod_nonneg a.toInt (show b.toInt ≠ 0 by omega)
      have e4 := Int.emod_lt_of_pos a.toInt hbp
      have er := lrem ha hbp
      apply eu_s ha hbp (by omega)
      by_cases d : a.toInt % b.toInt < ((Fp (k + 1)).1 : Int)
      · exact q1 n n' (i + 1) b _ hb (by omega) (by rw [er]; exact d) (by omega) (by omega) (by omega)
      · by_cases z : a.toInt % b.toInt = 0
        · exact eu_0 hb (by omega) (by omega) (by omega)
        · obtain ⟨n, rfl⟩ := Nat.exists_eq_succ_of_ne_zero (by omega : n ≠ 0)
          obtain ⟨n', rfl⟩ := Nat.exists_eq_succ_of_ne_zero (by omega : n' ≠ 0)
          have hrp : 0 < (a - a / b * b).toInt := by omega
          have f3 := Int.emod_nonneg b.toInt (show (a - a / b * b).toInt ≠ 0 by omega)
          have f4 : b.toInt % (a - a / b * b).toInt ≤ b.toInt - (a - a / b * b).toInt := by
            have g1 := Int.mul_ediv_add_emod b.toInt (a - a / b * b).toInt
            have g2 : 1 ≤ b.toInt / (a - a / b * b).toInt := by
              apply Int.le_ediv_of_mul_le hrp
              omega
            have g3 : (a - a / b * b).toInt * 1 ≤ (a - a / b * b).toInt * (b.toInt / (a - a / b * b).toInt) := Int.mul_le_mul_of_nonneg_left g2 (by omega)
            omega
          apply eu_s hb hrp (by omega)
          have fr := lrem (a := b) (b := a - a / b * b) hb hrp
          exact q0 n n' (i + 2) _ _ (by omega) (by omega) (by rw [fr]; omega) (by omega) (by omega) (by omega)
/-- the divisor that both find -/
def gd (a b : Int64) : Int64 := Int64.ofNat (Nat.gcd a.toInt.natAbs b.toInt.natAbs)
theorem gd_i {a b : Int64} (ha : -9223372036854775808 < a.toInt) (hb : 0 < b.toInt) : (gd a b).toInt = (Nat.gcd a.toInt.natAbs b.toInt.natAbs : Nat) ∧ 0 < (gd a b).toInt := by
  have h1 := b.toInt_lt
  have h2 : Nat.gcd a.toInt.natAbs b.toInt.natAbs ≤ b.toInt.natAbs := Nat.gcd_le_right _ (by omega)
  have h3 : 0 < Nat.gcd a.toInt.natAbs b.toInt.natAbs := Nat.gcd_pos_of_pos_right _ (by omega)
  have e : (gd a b).toInt = (Nat.gcd a.toInt.natAbs b.toInt.natAbs : Nat) := by
    unfold gd
    rw [Int64.toInt_ofNat']
    exact bm64 (by omega) (by omega)
  exact ⟨e, by omega⟩
theorem Fp91 : 9223372036854775808 ≤ (Fp 91).1 := by decide +kernel
theorem ab_i {a : Int64} (ha : -9223372036854775808 < a.toInt) : (ab a).toInt = a.toInt.natAbs := by
  unfold ab
  have h1 := a.toInt_lt
  by_cases c : 0 ≤ a
  · rw [if_pos c]
    rw [Int64.le_iff_toInt_le, lz] at c
    omega
  · rw [if_neg c]
    rw [Int64.le_iff_toInt_le, lz] at c
    rw [Int64.toInt_neg, bm64 (by omega) (by omega)]
    omega
theorem gcd_both {a b : Int64} (ha : -9223372036854775808 < a.toInt) (hb : 0 < b.toInt) : fX0_commonDivisor (ab a) b = some (gd a b) ∧ fX12_common a b = some (gd a b) := by
  have hp := Fp91
  have h1 := b.toInt_lt
  obtain ⟨r, r1, r2, r3⟩ := (eu_all 91).1 200 200 0 (ab a) b (by rw [ab_i ha]; omega) (by omega) (by omega) (by omega) (by omega) (by omega)
  have e : r = gd a b := by
    apply Int64.toInt_inj.mp
    rw [r3, (gd_i ha hb).1, ab_i ha]
    rfl
  subst e
  refine ⟨r1, ?_⟩
  unfold fX12_common fX12_common_12
  unfold ab at r2
  by_cases c : 0 ≤ a
  · rw [if_pos c]; rw [if_pos c] at r2; exact r2
  · rw [if_neg c]; rw [if_neg c] at r2; exact r2
def rA (a b : Int64) : Int64 := a / gd a b
def rB (a b : Int64) : Int64 := b / gd a b
theorem rB_pos {a b : Int64} (ha : -9223372036854775808 < a.toInt) (hb : 0 < b.toInt) : 0 < (rB a b).toInt ∧ -9223372036854775808 < (rA a b).toInt ∧ (rA a b).toInt.natAbs = a.toInt.natAbs / (Nat.gcd a.toInt.natAbs b.toInt.natAbs) ∧ (rB a b).toInt.natAbs = b.toInt.natAbs / (Nat.gcd a.toInt.natAbs b.toInt.natAbs) := by
  obtain ⟨g1, g2⟩ := gd_i ha hb
  have h1 := b.toInt_lt
  have h1' := a.toInt_lt
  unfold rA rB
  have e1 : (b / gd a b).toInt = b.toInt / (gd a b).toInt := by rw [ldiv (by omega), Int.tdiv_eq_ediv_of_nonneg (by omega)]
  have e2 : (a / gd a b).toInt = a.toInt.tdiv (gd a b).toInt := ldivn ha
  have e3 : (a / gd a b).toInt.natAbs = a.toInt.natAbs / (Nat.gcd a.toInt.natAbs b.toInt.natAbs) := by
    rw [e2, Int.natAbs_tdiv, g1]
    rfl
  have e4 : (b / gd a b).toInt.natAbs = b.toInt.natAbs / (Nat.gcd a.toInt.natAbs b.toInt.natAbs) := by
    rw [ldiv (show 0 ≤ b.toInt by omega), Int.natAbs_tdiv, g1]
    rfl
  refine ⟨?_, ?_, e3, e4⟩
  · rw [e1]
    have : 1 ≤ b.toInt / (gd a b).toInt := by
      apply Int.le_ediv_of_mul_le g2
      rw [g1]
      have : Nat.gcd a.toInt.natAbs b.toInt.natAbs ≤ b.toInt.natAbs := Nat.gcd_le_right _ (by omega)
      omega
    omega
  · have := Nat.div_le_self a.toInt.natAbs (Nat.gcd a.toInt.natAbs b.toInt.natAbs)
    omega
theorem div1 (a : Int64) (g : Int64) (h : g.toInt = 1) (ha : -9223372036854775808 < a.toInt) : a / g = a := by
  apply Int64.toInt_inj.mp
  rw [ldivn ha, h, Int.tdiv_one]
/-- lowest terms are lowest terms -/
theorem red2 {a b : Int64} (ha : -9223372036854775808 < a.toInt) (hb : 0 < b.toInt) : rA (rA a b) (rB a b) = rA a b ∧ rB (rA a b) (rB a b) = rB a b := by
  obtain ⟨p1, p2, p3, p4⟩ := rB_pos ha hb
  have hg : (gd (rA a b) (rB a b)).toInt = 1 := by
    rw [(gd_i p2 p1).1, p3, p4, Nat.gcd_div (Nat.gcd_dvd_left _ _) (Nat.gcd_dvd_right _ _), Nat.div_self (Nat.gcd_pos_of_pos_right _ (by omega))]
    rfl
  unfold rA rB at *
  exact ⟨div1 _ _ hg p2, div1 _ _ hg (by omega)⟩
def nwl (a b : Int64) : Int64 := ab a / b + (if ab a - ab a / b * b < b - (ab a - ab a / b * b) then 0 else 1)
def nwb (a b : Int64) : Int64 := if 9999 < nwl a b then 9999 else nwl a b
def nw (a b : Int64) : Int32 := if 0 ≤ a then (nwb a b).toInt32 else -((nwb a b).toInt32)
theorem lpos {b : Int64} (hb : 0 < b.toInt) : 0 < b ∧ ¬ b = 0 ∧ ¬ b ≤ 0 := by
  refine ⟨by rw [Int64.lt_iff_toInt_lt, lz]; exact hb, by intro e; rw [e, lz] at hb; omega, by rw [Int64.le_iff_toInt_le, lz]; omega⟩
theorem nw_x {a b : Int64} (hb : 0 < b.toInt) : fX0_nearestWhole a b = some (nw a b) := by
  obtain ⟨b1, b2, b3⟩ := lpos hb
  unfold fX0_nearestWhole fX0_nearestWhole_39
  simp only [if_pos b1, if_neg b2, ab_x]
  unfold nw nwb nwl
  by_cases c : ab a - ab a / b * b < b - (ab a - ab a / b * b)
  · simp only [if_pos c]
    by_cases d : 0 ≤ a
    · simp only [if_pos d]
    · simp only [if_neg d]
  · simp only [if_neg c]
    by_cases d : 0 ≤ a
    · simp only [if_pos d]
    · simp only [if_neg d]
theorem nw_b {a b : Int64} (ha : -9223372036854775808 < a.toInt) (hb : 0 < b.toInt) : inb (nw a b) (-9999) 9999 := by
  have h1 := a.toInt_lt
  have e1 : (ab a / b).toInt = (ab a).toInt / b.toInt := by rw [ldiv (by rw [ab_i ha]; omega), Int.tdiv_eq_ediv_of_nonneg (by rw [ab_i ha]; omega)]
  have e2 : 0 ≤ (ab a).toInt / b.toInt := Int.ediv_nonneg (by rw [ab_i ha]; omega) (by omega)
  have e3 : (ab a).toInt / b.toInt ≤ (ab a).toInt := Int.ediv_le_self _ (by rw [ab_i ha]; omega)
  have e4 := ab_i ha
  have h2 := b.toInt_lt
  have e6 : 0 ≤ (nwl a b).toInt := by
    unfold nwl
    by_cases c : ab a - ab a / b * b < b - (ab a - ab a / b * b)
    · rw [if_pos c, Int64.add_zero, e1]; exact e2
    · rw [if_neg c]
      have r1 := lrem (a := ab a) (b := b) (by rw [e4]; omega) hb
      have r2 := Int.emod_nonneg (ab a).toInt (show b.toInt ≠ 0 by omega)
      have r3 := Int.emod_lt_of_pos (ab a).toInt hb
      rw [Int64.lt_iff_toInt_lt, r1, Int64.toInt_sub b, r1, bm64 (by omega) (by omega)] at c
      have g1 := Int.mul_ediv_add_emod (ab a).toInt b.toInt
      have g3 : 2 * ((ab a).toInt / b.toInt) ≤ b.toInt * ((ab a).toInt / b.toInt) := Int.mul_le_mul_of_nonneg_right (by omega) e2
      have o : (1 : Int64).toInt = 1 := by decide
      rw [Int64.toInt_add, e1, o, bm64 (by omega) (by omega)]
      omega
  have e7 : 0 ≤ (nwb a b).toInt ∧ (nwb a b).toInt ≤ 9999 := by
    unfold nwb
    have o : (9999 : Int64).toInt = 9999 := by decide
    by_cases c : 9999 < nwl a b
    · rw [if_pos c, o]; omega
    · rw [if_neg c]
      rw [Int64.lt_iff_toInt_lt, o] at c
      omega
  have e8 : (nwb a b).toInt32.toInt = (nwb a b).toInt := by
    rw [Int64.toInt_toInt32]
    exact bm32 (by omega) (by omega)
  unfold nw inb
  by_cases c : 0 ≤ a
  · rw [if_pos c, e8]; omega
  · rw [if_neg c, ti_neg (by omega), e8]; omega
/-- one bend told -/
theorem setb_x {x : ST} {p : Nat} {a b : Int64} (hp : p < 5) (ha : -9223372036854775808 < a.toInt) (hb : 0 < b.toInt) : fX0_setBend (nI p) a b x = some (sA (sB (sB x 17 (nI p) (rA a b)) 18 (nI p) (rB a b)) 19 (nI p) (nw (rA a b) (rB a b))) := by
  obtain ⟨g1, g2⟩ := gd_i ha hb
  obtain ⟨q1, q2, q3⟩ := lpos g2
  unfold fX0_setBend
  rw [ab_x, (gcd_both ha hb).1, Option.bind_some, if_neg q3, if_neg q2]
  unfold fX0_setBend_31 fX0_setBend_53
  have ix := ix_nI hp (show 5 < 2 ^ 31 by decide)
  rw [if_pos ix, if_neg q3, if_neg q2, if_pos ix]
  rw [show a / gd a b = rA a b from rfl, show b / gd a b = rB a b from rfl, show gB (sB (sB x 17 (nI p) (rA a b)) 18 (nI p) (rB a b)) 17 (nI p).toNatClampNeg = vp_updL (gB x 17) (nI p).toNatClampNeg (rA a b) (nI p).toNatClampNeg from rfl, show gB (sB (sB x 17 (nI p) (rA a b)) 18 (nI p) (rB a b)) 18 (nI p).toNatClampNeg = vp_updL (gB x 18) (nI p).toNatClampNeg (rB a b) (nI p).toNatClampNeg from rfl, updL_eq, updL_eq, if_pos rfl, if_pos rfl, nw_x (rB_pos ha hb).1, Option.bind_some, if_pos ix, if_pos ix, if_pos ix]
/-- and by the reference -/
theorem fb79_m {m : ST} (ha : -9223372036854775808 < (gL m 0).toInt) (hb : 0 < (gL m 1).toInt) : fX12_findBend_79 m = some (sL (sL m 0 (rA (gL m 0) (gL m 1))) 1 (rB (gL m 0) (gL m 1))) := by
  obtain ⟨g1, g2⟩ := gd_i ha hb
  obtain ⟨q1, q2, q3⟩ := lpos g2
  unfold fX12_findBend_79
  rw [(gcd_both ha hb).2, Option.bind_some, if_neg q2, if_neg q2]
  rfl
theorem fw40_m {m : ST} {kb : Int32 → ST → Option ST} {p : Nat} (hp : p < 5) (hb : 0 < (gL m 1).toInt) : (if 0 ≤ gL m 0 then fX12_findWholes_40 kb (nI p) (gL m 0) m else fX12_findWholes_40 kb (nI p) (-gL m 0) m) = kb (nI (p + 1)) (sA m 15 (nI p) (nw (gL m 0) (gL m 1))) := by
  obtain ⟨b1, b2, b3⟩ := lpos hb
  have e : (if 0 ≤ gL m 0 then fX12_findWholes_40 kb (nI p) (gL m 0) m else fX12_findWholes_40 kb (nI p) (-gL m 0) m) = fX12_findWholes_40 kb (nI p) (ab (gL m 0)) m := by
    unfold ab
    by_cases c : 0 ≤ gL m 0
    · rw [if_pos c, if_pos c]
    · rw [if_neg c, if_neg c]
  rw [e]
  unfold fX12_findWholes_40 fX12_findWholes_73 fX12_findWholes_93 fX12_findWholes_117
  simp only [if_neg b2, if_pos (ix_nI hp (show 5 < 2 ^ 31 by decide)), nI_1]
  unfold nw nwb nwl
  have key : ∀ w : Int64, (if w ≤ 9999 then if 0 ≤ gL m 0 then kb (nI (p + 1)) (sA m 15 (nI p) w.toInt32) else kb (nI (p + 1)) (sA m 15 (nI p) (-w).toInt32) else if 0 ≤ gL m 0 then kb (nI (p + 1)) (sA m 15 (nI p) (9999 : Int64).toInt32) else kb (nI (p + 1)) (sA m 15 (nI p) (-9999 : Int64).toInt32)) = kb (nI (p + 1)) (sA m 15 (nI p) (if 0 ≤ gL m 0 then (if 9999 < w then 9999 else w).toInt32 else -(if 9999 < w then 9999 else w).toInt32)) := by
    intro w
    by_cases c : w ≤ 9999
    · rw [if_pos c, if_neg (Int64.not_lt.mpr c)]
      by_cases d : 0 ≤ gL m 0
      · rw [if_pos d, if_pos d]
      · rw [if_neg d, if_neg d, Int64.toInt32_neg]
    · rw [if_neg c, if_pos (Int64.not_le.mp c)]
      by_cases d : 0 ≤ gL m 0
      · rw [if_pos d, if_pos d]
      · rw [if_neg d, if_neg d]
        rfl
  by_cases c : ab (gL m 0) - ab (gL m 0) / gL m 1 * gL m 1 < gL m 1 - (ab (gL m 0) - ab (gL m 0) / gL m 1 * gL m 1)
  · rw [if_pos c, if_pos c]
    exact key _
  · rw [if_neg c, if_neg c]
    exact key _

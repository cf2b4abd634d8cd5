/-! columns and products -/
def lv (D : Nat → Int32) : Nat → Nat
  | 0 => 0
  | p + 1 => if D (p + 1) = 0 then p + 1 else lv D p
def dc (D : Nat → Int32) : Nat → Nat
  | 0 => 0
  | p + 1 => dc D p + (if D p = 0 then 0 else 1)
def ad (L T : Nat → Int32) (q p : Nat) : Int32 := if L q = 0 then T (5 * q + p) else 0
def cf (D L T : Nat → Int32) (S : Nat) : Nat → Nat → Int32
  | 0, _ => 0
  | p + 1, j => if j / 8 = lv D p ∧ j % 8 < S then cf D L T S p j + ad L T (j % 8) p else cf D L T S p j
theorem lv_le (D : Nat → Int32) : ∀ p, lv D p ≤ p
  | 0 => Nat.le_refl 0
  | p + 1 => by
    unfold lv
    split
    · exact Nat.le_refl _
    · have := lv_le D p; omega
theorem cf_z {D L T : Nat → Int32} {S : Nat} : ∀ (p j : Nat), p ≤ j / 8 ∨ S ≤ j % 8 → cf D L T S p j = 0
  | 0, _, _ => rfl
  | p + 1, j, h => by
    unfold cf
    have := lv_le D p
    rw [if_neg (by omega), cf_z p j (by omega)]
theorem ad_b {L T : Nat → Int32} {q p : Nat} (hT : ∀ j, j < 40 → inb (T j) (-9) 9) (hq : q < 8) (hp : p < 5) : inb (ad L T q p) (-9) 9 := by
  unfold ad
  split
  · exact hT _ (by omega)
  · exact ⟨by decide, by decide⟩
theorem dc_le (D : Nat → Int32) : ∀ p, dc D p ≤ p
  | 0 => Nat.le_refl 0
  | p + 1 => by
    unfold dc
    have := dc_le D p
    split <;> omega
theorem cf_b {D L T : Nat → Int32} {S : Nat} (h0 : D 0 = 0) (hT : ∀ j, j < 40 → inb (T j) (-9) 9) : ∀ (p j : Nat), p ≤ 5 → -(9 * (1 + dc D p) : Int) ≤ (cf D L T S p j).toInt ∧ (cf D L T S p j).toInt ≤ 9 * (1 + dc D p)
  | 0, j, _ => ⟨show -(9 * (1 + ((0 : Nat) : Int))) ≤ (0 : Int32).toInt by decide, show (0 : Int32).toInt ≤ 9 * (1 + ((0 : Nat) : Int)) by decide⟩
  | p + 1, j, h => by
    obtain ⟨h1, h2⟩ := cf_b (L := L) (S := S) h0 hT p j (by omega)
    have h3 := dc_le D p
    obtain ⟨a1, a2⟩ := ad_b (L := L) hT (show j % 8 < 8 by omega) (show p < 5 by omega)
    unfold cf dc
    by_cases d : D p = 0
    · rw [if_pos d]
      by_cases c : j / 8 = lv D p ∧ j % 8 < S
      · rw [if_pos c]
        have hl : lv D p = p := by
          cases p with
          | zero => rfl
          | succ p => unfold lv; rw [if_pos d]
        have hz := cf_z (D := D) (L := L) (T := T) (S := S) p j (Or.inl (by omega))
        rw [hz, Int32.zero_add]
        omega
      · rw [if_neg c]
        omega
    · rw [if_neg d]
      by_cases c : j / 8 = lv D p ∧ j % 8 < S
      · rw [if_pos c, ti_add (by omega) (by omega)]
        omega
      · rw [if_neg c]
        omega
theorem i8 (a b : Nat) : nI a * 8 + nI b = nI (8 * a + b) := by rw [show (8 : Int32) = nI 8 from rfl, pk_mul, nI_add, Nat.mul_comm]
/-- what the class's columns need of the state -/
def CX (x : ST) (S P : Nat) (D L T : Nat → Int32) : Prop := (gI x 11 = nI S) ∧ (S ≤ 8) ∧ (gI x 9 = nI P) ∧ (P ≤ 5) ∧ (1 ≤ P) ∧ (∀ i, i < 5 → gA x 30 i = D i ∧ (D i = 0 ∨ D i = 1)) ∧ (D 0 = 0) ∧ (∀ q, q < S → gA x 40 q = L q ∧ (L q = 0 ∨ L q = 1)) ∧ (∀ j, j < 40 → gA x 41 j = T j ∧ inb (T j) (-9) 9)
theorem CX.s {x : ST} {S P : Nat} {D L T : Nat → Int32} (H : CX x S P D L T) : gI x 11 = nI S := H.1
theorem CX.s8 {x : ST} {S P : Nat} {D L T : Nat → Int32} (H : CX x S P D L T) : S ≤ 8 := H.2.1
theorem CX.p {x : ST} {S P : Nat} {D L T : Nat → Int32} (H : CX x S P D L T) : gI x 9 = nI P := H.2.2.1
theorem CX.p5 {x : ST} {S P : Nat} {D L T : Nat → Int32} (H : CX x S P D L T) : P ≤ 5 := H.2.2.2.1
theorem CX.p1 {x : ST} {S P : Nat} {D L T : Nat → Int32} (H : CX x S P D L T) : 1 ≤ P := H.2.2.2.2.1
theorem CX.d {x : ST} {S P : Nat} {D L T : Nat → Int32} (H : CX x S P D L T) : ∀ i, i < 5 → gA x 30 i = D i ∧ (D i = 0 ∨ D i = 1) := H.2.2.2.2.2.1
theorem CX.d0 {x : ST} {S P : Nat} {D L T : Nat → Int32} (H : CX x S P D L T) : D 0 = 0 := H.2.2.2.2.2.2.1
theorem CX.l {x : ST} {S P : Nat} {D L T : Nat → Int32} (H : CX x S P D L T) : ∀ q, q < S → gA x 40 q = L q ∧ (L q = 0 ∨ L q = 1) := H.2.2.2.2.2.2.2.1
theorem CX.t {x : ST} {S P : Nat} {D L T : Nat → Int32} (H : CX x S P D L T) : ∀ j, j < 40 → gA x 41 j = T j ∧ inb (T j) (-9) 9 := H.2.2.2.2.2.2.2.2
def cg (D L T : Nat → Int32) (S p q j : Nat) : Int32 := if j / 8 = lv D p ∧ j % 8 < q then cf D L T S p j + ad L T (j % 8) p else cf D L T S p j
theorem zb_of {b : Int32} (h : b = 0 ∨ b = 1) : zb01 b = true := by
  rcases h with rfl | rfl
  · exact zb0
  · exact zb1
theorem col_q {x : ST} {S P p : Nat} {D L T : Nat → Int32} (H : CX x S P D L T) (hp : p < P) {kb : Int32 → Int32 → ST → Option ST} : ∀ (n q : Nat) (f : Nat → Int32), q ≤ S → S < n + q → (∀ j, j < 40 → f j = cg D L T S p q j) → ∃ f', fX0_takeColumns_44 kb n (nI (lv D p)) (nI p) (nI q) (sF x 12 f) = kb (nI (lv D p)) (nI (p + 1)) (sF x 12 f') ∧ ∀ j, j < 40 → f' j = cf D L T S (p + 1) j := by
  have h5 := H.p5
  have h8 := H.s8
  have hl := lv_le D p
  intro n
  induction n with
  | zero => intro q f h1 h2; omega
  | succ n ih =>
    intro q f h1 h2 hf
    rw [fX0_takeColumns_44]
    unfold fX9_count
    rw [Option.bind_some]
    simp only [show gI (sF x 12 f) 11 = gI x 11 from rfl, H.s]
    by_cases c : S ≤ q
    · have : q = S := by omega
      subst this
      rw [if_pos (nI_le c (by omega))]
      unfold fX0_takeColumns_96
      rw [nI_1]
      exact ⟨f, rfl, hf⟩
    · have hq : q < S := by omega
      rw [if_neg (nI_ge (by omega) (by omega)), i8, if_pos (ix_nI (by omega) (by decide))]
      unfold fX9_isLost fX10_number
      have e40 : gA (sF x 12 f) 40 q = L q := (H.l q hq).1
      have e41 : gA (sF x 12 f) 41 (5 * q + p) = T (5 * q + p) := (H.t _ (by omega)).1
      rw [if_pos (ix_nI (by omega) (by decide)), cl_nI (by omega), e40, if_pos (zb_of (H.l q hq).2), Option.bind_some, i5, if_pos (ix_nI (by omega) (by decide)), cl_nI (by omega), e41, Option.bind_some]
      have fin : ∃ f', fX0_takeColumns_88 kb (fX0_takeColumns_44 kb n) (nI (lv D p)) (nI p) (nI q) (ad L T q p) (gA (sF x 12 f) 12 (nI (8 * lv D p + q)).toNatClampNeg) (nI (8 * lv D p + q)) (sF x 12 f) = kb (nI (lv D p)) (nI (p + 1)) (sF x 12 f') ∧ ∀ j, j < 40 → f' j = cf D L T S (p + 1) j := by
        unfold fX0_takeColumns_88
        rw [if_pos (ix_nI (by omega) (by decide)), gA_sF, sA_sF, cl_nI (by omega), nI_1]
        apply ih (q + 1) _ (by omega) (by omega)
        intro j hj
        rw [upd_eq]
        unfold cg
        by_cases e : j = 8 * lv D p + q
        · rw [if_pos e, if_pos (by omega), hf _ (by omega)]
          unfold cg
          rw [if_neg (by omega), e]
          congr 2
          omega
        · rw [if_neg e, hf j hj]
          unfold cg
          by_cases z : j / 8 = lv D p ∧ j % 8 < q
          · rw [if_pos z, if_pos (by omega)]
          · rw [if_neg z, if_neg (by omega)]
      unfold ad at fin
      by_cases z : L q = 0
      · rw [if_pos z] at fin
        simp only [if_pos z]
        exact fin
      · rw [if_neg z] at fin
        simp only [if_neg z]
        exact fin
theorem lv_pos {D : Nat → Int32} {p : Nat} (h0 : D 0 = 0) : (if D p = 0 then p else (if p = 0 then 0 else lv D (p - 1))) = lv D p := by
  cases p with
  | zero => rw [if_pos h0]; rfl
  | succ p => rw [lv]; rfl
theorem col_p {x : ST} {S P : Nat} {D L T : Nat → Int32} (H : CX x S P D L T) : ∀ (n p : Nat) (f : Nat → Int32), p ≤ P → P < n + p → (∀ j, j < 40 → f j = cf D L T S p j) → ∃ f', fX0_takeColumns_14 n (nI (if p = 0 then 0 else lv D (p - 1))) (nI p) (sF x 12 f) = some (sF x 12 f') ∧ ∀ j, j < 40 → f' j = cf D L T S P j := by
  have h5 := H.p5
  intro n
  induction n with
  | zero => intro p f h1 h2; omega
  | succ n ih =>
    intro p f h1 h2 hf
    rw [fX0_takeColumns_14]
    unfold fX6_count
    rw [Option.bind_some]
    simp only [show gI (sF x 12 f) 9 = gI x 9 from rfl, H.p]
    by_cases c : P ≤ p
    · have : p = P := by omega
      subst this
      rw [if_pos (nI_le c (by omega))]
      exact ⟨f, rfl, hf⟩
    · rw [if_neg (nI_ge (by omega) (by omega))]
      unfold fX6_isDead
      have e30 : gA (sF x 12 f) 30 p = D p := (H.d p (by omega)).1
      rw [if_pos (ix_nI (by omega) (by decide)), cl_nI (by omega), e30, if_pos (zb_of (H.d p (by omega)).2), Option.bind_some]
      unfold fX0_takeColumns_39
      have fin : ∃ f', fX0_takeColumns_44 (fX0_takeColumns_14 n) 200 (nI (lv D p)) (nI p) 0 (sF x 12 f) = some (sF x 12 f') ∧ ∀ j, j < 40 → f' j = cf D L T S P j := by
        obtain ⟨f1, F1, F2⟩ := col_q H (p := p) (by omega) (kb := fX0_takeColumns_14 n) 200 0 f (by omega) (by have := H.s8; omega) (by
          intro j hj
          unfold cg
          rw [if_neg (by omega)]
          exact hf j hj)
        rw [show fX0_takeColumns_44 (fX0_takeColumns_14 n) 200 (nI (lv D p)) (nI p) 0 (sF x 12 f) = _ from F1]
        have := ih (p + 1) f1 (by omega) (by omega) F2
        rw [if_neg (by omega), Nat.add_sub_cancel] at this
        exact this
      have e := lv_pos (p := p) H.d0
      by_cases z : D p = 0
      · rw [if_pos z] at e
        simp only [if_pos z]
        rw [← e] at fin
        exact fin
      · rw [if_neg z] at e
        simp only [if_neg z]
        rw [e]
        exact fin
theorem zfill_lt {f : Nat → Int32} {n j : Nat} {v : Int32} (h : j < n) : zfill f n v j = v := by
  unfold zfill; simp [h]
theorem cols_x {x : ST} {S P : Nat} {D L T : Nat → Int32} (H : CX x S P D L T) : ∃ f, fX0_takeColumns x = some (sF x 12 f) ∧ ∀ j, j < 40 → f j = cf D L T S P j := by
  unfold fX0_takeColumns
  exact col_p H 200 0 _ (by omega) (by have := H.p5; omega) (fun j hj => zfill_lt hj)
/-- slopes -/
def sl (L M R : Nat → Int32) (S q : Nat) : Int32 := if q < S then (if L q = 0 then M q - R q else 0) else 0
theorem slo_x {x : ST} {S P : Nat} {D L T M R : Nat → Int32} (H : CX x S P D L T) (hm : ∀ q, q < S → gA x 39 q = M q) (hr : ∀ q, q < S → gA x 37 q = R q) : ∀ (n q : Nat) (f : Nat → Int32), q ≤ S → S < n + q → (∀ j, j < 8 → f j = if j < q then sl L M R S j else 0) → ∃ f', fX0_takeSlopes_10 n (nI q) (sF x 13 f) = some (sF x 13 f') ∧ ∀ j, j < 8 → f' j = sl L M R S j := by
  have h8 := H.s8
  intro n
  induction n with
  | zero => intro q f h1 h2; omega
  | succ n ih =>
    intro q f h1 h2 hf
    rw [fX0_takeSlopes_10]
    unfold fX9_count
    rw [Option.bind_some]
    simp only [show gI (sF x 13 f) 11 = gI x 11 from rfl, H.s]
    by_cases c : S ≤ q
    · have : q = S := by omega
      subst this
      rw [if_pos (nI_le c (by omega))]
      refine ⟨f, rfl, fun j hj => ?_⟩
      rw [hf j hj]
      by_cases z : j < q
      · rw [if_pos z]
      · rw [if_neg z]
        unfold sl
        rw [if_neg z]
    · have hq : q < S := by omega
      rw [if_neg (nI_ge (by omega) (by omega))]
      unfold fX9_isLost fX9_slopeOf
      have e40 : gA (sF x 13 f) 40 q = L q := (H.l q hq).1
      have e39 : gA (sF x 13 f) 39 q = M q := hm q hq
      have e37 : gA (sF x 13 f) 37 q = R q := hr q hq
      rw [if_pos (ix_nI (by omega) (by decide)), cl_nI (by omega), e40, if_pos (zb_of (H.l q hq).2), Option.bind_some]
      simp only [if_pos (ix_nI (show q < 8 by omega) (by decide)), e39, e37, cl_nI (show q < 2 ^ 31 by omega), Option.bind_some]
      have fin : ∃ f', fX0_takeSlopes_40 (fX0_takeSlopes_10 n) (nI q) (sl L M R S q) (nI q) (sF x 13 f) = some (sF x 13 f') ∧ ∀ j, j < 8 → f' j = sl L M R S j := by
        unfold fX0_takeSlopes_40
        rw [if_pos (ix_nI (by omega) (by decide)), sA_sF, cl_nI (by omega), nI_1]
        apply ih (q + 1) _ (by omega) (by omega)
        intro j hj
        rw [upd_eq]
        by_cases e : j = q
        · rw [if_pos e, if_pos (by omega), e]
        · rw [if_neg e, hf j hj]
          by_cases z : j < q
          · rw [if_pos z, if_pos (by omega)]
          · rw [if_neg z, if_neg (by omega)]
      have es : sl L M R S q = if L q = 0 then M q - R q else 0 := by unfold sl; rw [if_pos hq]
      rw [es] at fin
      by_cases z : L q = 0
      · rw [if_pos z] at fin
        simp only [if_pos z]
        exact fin
      · rw [if_neg z] at fin
        simp only [if_neg z]
        exact fin
theorem slopes_x {x : ST} {S P : Nat} {D L T M R : Nat → Int32} (H : CX x S P D L T) (hm : ∀ q, q < S → gA x 39 q = M q) (hr : ∀ q, q < S → gA x 37 q = R q) : ∃ f, fX0_takeSlopes x = some (sF x 13 f) ∧ ∀ j, j < 8 → f j = sl L M R S j := by
  unfold fX0_takeSlopes
  exact slo_x H hm hr 200 0 _ (by omega) (by have := H.s8; omega) (fun j hj => by rw [if_neg (by omega)]; exact zfill_lt hj)
/-! products -/
def grZ (C : Nat → Int32) (a b : Nat) : Int := sm (fun q => (C (8 * a + q)).toInt * (C (8 * b + q)).toInt) 8
def slZ (C σ : Nat → Int32) (a : Nat) : Int := sm (fun q => (C (8 * a + q)).toInt * (σ q).toInt) 8
theorem oi_ti (v : Int32) : v.toInt64 = Int64.ofInt v.toInt := by
  apply Int64.toInt_inj.mp
  have h1 := v.toInt_lt
  have h2 := v.le_toInt
  rw [Int32.toInt_toInt64, Int64.toInt_ofInt]
  exact (bm64 (by omega) (by omega)).symm
theorem oi_mul32 {a b : Int32} (h1 : -2147483648 ≤ a.toInt * b.toInt) (h2 : a.toInt * b.toInt ≤ 2147483647) : (a * b).toInt64 = Int64.ofInt (a.toInt * b.toInt) := by
  rw [oi_ti, ti_mul h1 h2]
theorem mulb {a b : Int} {A B : Nat} (ha : a.natAbs ≤ A) (hb : b.natAbs ≤ B) : (a * b).natAbs ≤ A * B := by
  rw [Int.natAbs_mul]
  exact Nat.mul_le_mul ha hb
theorem prod_x {x : ST} {C : Nat → Int32} {a b : Nat} (ha : a < 5) (hb : b < 5) (hC : ∀ j, j < 40 → gA x 12 j = C j ∧ inb (C j) (-45) 45) : ∀ n i : Nat, i ≤ 8 → 8 < n + i → fX0_productOf_5 n (nI a) (nI b) (Int64.ofInt (sm (fun q => (C (8 * a + q)).toInt * (C (8 * b + q)).toInt) i)) (nI i) x = some (Int64.ofInt (grZ C a b), x) := by
  intro n
  induction n with
  | zero => intro i h1 h2; omega
  | succ n ih =>
    intro i h1 h2
    rw [fX0_productOf_5]
    by_cases q : 8 ≤ i
    · have : i = 8 := by omega
      subst this
      rw [if_pos (lit_le (v := 8) (a := 8) (b := 8) rfl (Nat.le_refl _) (by decide))]
      rfl
    · rw [if_neg (lit_nle (v := 8) (a := 8) (b := i) rfl (by omega) (by decide)), i8, i8, if_pos (ix_nI (by omega) (by decide)), if_pos (ix_nI (by omega) (by decide)), cl_nI (by omega), cl_nI (by omega)]
      obtain ⟨a1, a2, a3⟩ := hC (8 * a + i) (by omega)
      obtain ⟨b1, b2, b3⟩ := hC (8 * b + i) (by omega)
      have := mulb (a := (C (8 * a + i)).toInt) (b := (C (8 * b + i)).toInt) (A := 45) (B := 45) (by omega) (by omega)
      rw [a1, b1, oi_mul32 (by omega) (by omega), ← oi_add, nI_1]
      exact ih (i + 1) (by omega) (by omega)
theorem psl_x {x : ST} {C σ : Nat → Int32} {a : Nat} (ha : a < 5) (hC : ∀ j, j < 40 → gA x 12 j = C j ∧ inb (C j) (-45) 45) (hσ : ∀ j, j < 8 → gA x 13 j = σ j ∧ inb (σ j) (-3000) 3000) : ∀ n i : Nat, i ≤ 8 → 8 < n + i → fX0_productWithSlopes_5 n (nI a) (Int64.ofInt (sm (fun q => (C (8 * a + q)).toInt * (σ q).toInt) i)) (nI i) x = some (Int64.ofInt (slZ C σ a), x) := by
  intro n
  induction n with
  | zero => intro i h1 h2; omega
  | succ n ih =>
    intro i h1 h2
    rw [fX0_productWithSlopes_5]
    by_cases q : 8 ≤ i
    · have : i = 8 := by omega
      subst this
      rw [if_pos (lit_le (v := 8) (a := 8) (b := 8) rfl (Nat.le_refl _) (by decide))]
      rfl
    · rw [if_neg (lit_nle (v := 8) (a := 8) (b := i) rfl (by omega) (by decide)), i8, if_pos (ix_nI (by omega) (by decide)), if_pos (ix_nI (by omega) (by decide)), cl_nI (by omega), cl_nI (by omega)]
      obtain ⟨a1, a2, a3⟩ := hC (8 * a + i) (by omega)
      obtain ⟨b1, b2, b3⟩ := hσ i (by omega)
      have := mulb (a := (C (8 * a + i)).toInt) (b := (σ i).toInt) (A := 45) (B := 3000) (by omega) (by omega)
      rw [a1, b1, oi_mul32 (by omega) (by omega), ← oi_add, nI_1]
      exact ih (i + 1) (by omega) (by omega)
-- the reference
theorem prod_m {m : ST} {C : Nat → Int32} {a b S : Nat} (ha : a < 5) (hb : b < 5) (hS : S ≤ 8) (es : gI m 0 = nI S) (hC : ∀ j, j < 40 → gB m 11 j = (C j).toInt64) (hz : ∀ j, S ≤ j % 8 → C j = 0) : ∀ n i : Nat, i ≤ S → S < n + i → fX12_productOf_5 n (nI a) (nI b) (Int64.ofInt (sm (fun q => (C (8 * a + q)).toInt * (C (8 * b + q)).toInt) i)) (nI i) m = some (Int64.ofInt (grZ C a b), m) := by
  intro n
  induction n with
  | zero => intro i h1 h2; omega
  | succ n ih =>
    intro i h1 h2
    rw [fX12_productOf_5, es]
    by_cases q : S ≤ i
    · have : i = S := by omega
      subst this
      rw [if_pos (nI_le q (by omega))]
      unfold grZ
      rw [sm_cut (w := i) hS (fun c h1 h2 => by rw [hz (8 * a + c) (by omega)]; exact Int.zero_mul _)]
    · rw [if_neg (nI_ge (by omega) (by omega)), i8', i8', if_pos (ix_nI (by omega) (by decide)), if_pos (ix_nI (by omega) (by decide)), cl_nI (by omega), cl_nI (by omega), hC _ (by omega), hC _ (by omega), oi_ti, oi_ti, ← oi_mul, ← oi_add, nI_1]
      exact ih (i + 1) (by omega) (by omega)
theorem psl_m {m : ST} {C σ L : Nat → Int32} {a S : Nat} (ha : a < 5) (hS : S ≤ 8) (es : gI m 0 = nI S) (hC : ∀ j, j < 40 → gB m 11 j = (C j).toInt64) (hz : ∀ j, S ≤ j % 8 → C j = 0)
    (hl : ∀ q, q < S → fX12_isLost (nI q) m = some (L q, m)) (hsl : ∀ q, q < S → L q = 0 → fX12_slopeOf (nI q) m = some (σ q, m)) (hsz : ∀ q, q < S → L q ≠ 0 → σ q = 0) : ∀ n i : Nat, i ≤ S → S < n + i → fX12_slopesBy_5 n (nI a) (Int64.ofInt (sm (fun q => (C (8 * a + q)).toInt * (σ q).toInt) i)) (nI i) m = some (Int64.ofInt (slZ C σ a), m) := by
  intro n
  induction n with
  | zero => intro i h1 h2; omega
  | succ n ih =>
    intro i h1 h2
    rw [fX12_slopesBy_5, es]
    by_cases q : S ≤ i
    · have : i = S := by omega
      subst this
      rw [if_pos (nI_le q (by omega))]
      unfold slZ
      rw [sm_cut (w := i) hS (fun c h1 h2 => by rw [hz (8 * a + c) (by omega)]; exact Int.zero_mul _)]
    · have ih2 := ih (i + 1) (by omega) (by omega)
      rw [sm, oi_add, oi_mul] at ih2
      rw [if_neg (nI_ge (by omega) (by omega)), hl i (by omega), Option.bind_some]
      unfold fX12_slopesBy_48
      by_cases z : L i = 0
      · simp only [if_pos z]
        rw [i8', if_pos (ix_nI (by omega) (by decide)), hsl i (by omega) z, Option.bind_some, cl_nI (by omega), nI_1]
        rw [hC _ (by omega), oi_ti, oi_ti]
        exact ih2
      · simp only [if_neg z]
        rw [nI_1]
        rw [hsz i (by omega) z, show Int64.ofInt (0 : Int32).toInt = 0 from rfl, Int64.mul_zero] at ih2
        exact ih2
theorem z40_m {m : ST} : ∀ (n i : Nat) (f : Nat → Int64), i ≤ 40 → 40 < n + i → (∀ j, j < i → f j = 0) → ∃ f', fX12_findColumns_2 n (nI i) (sH m 11 f) = fX12_findColumns_21 (sH m 11 f') ∧ ∀ j, j < 40 → f' j = 0 := by
  intro n
  induction n with
  | zero => intro i f h1 h2; omega
  | succ n ih =>
    intro i f h1 h2 hf
    rw [fX12_findColumns_2]
    by_cases q : 40 ≤ i
    · rw [if_pos (lit_le (v := 40) (a := 40) (b := i) rfl q (by omega))]
      exact ⟨f, rfl, fun j hj => hf j (by omega)⟩
    · rw [if_neg (lit_nle (v := 40) (a := 40) (b := i) rfl (by omega) (by decide)), if_pos (ix_nI (by omega) (by decide)), sB_sH, cl_nI (by omega), nI_1]
      apply ih (i + 1) _ (by omega) (by omega)
      intro j hj
      rw [updL_eq]
      by_cases e : j = i
      · rw [if_pos e]
      · rw [if_neg e]; exact hf j (by omega)
/-- what the reference's columns need -/
def CM (m : ST) (S P : Nat) (D L T : Nat → Int32) : Prop := (gI m 0 = nI S) ∧ (S ≤ 8) ∧ (gI m 1 = nI P) ∧ (P ≤ 5) ∧ (1 ≤ P) ∧ (∀ i, i < 5 → gA m 10 i = D i ∧ (D i = 0 ∨ D i = 1)) ∧ (D 0 = 0) ∧ (∀ (q : Nat) (y : ST), q < S → gA y 1 = gA m 1 → gA y 4 = gA m 4 → fX12_isLost (nI q) y = some (L q, y)) ∧ (∀ j, j < 40 → gA m 3 j = T j ∧ inb (T j) (-9) 9)
theorem CM.s {m : ST} {S P : Nat} {D L T : Nat → Int32} (H : CM m S P D L T) : gI m 0 = nI S := H.1
theorem CM.s8 {m : ST} {S P : Nat} {D L T : Nat → Int32} (H : CM m S P D L T) : S ≤ 8 := H.2.1
theorem CM.p {m : ST} {S P : Nat} {D L T : Nat → Int32} (H : CM m S P D L T) : gI m 1 = nI P := H.2.2.1
theorem CM.p5 {m : ST} {S P : Nat} {D L T : Nat → Int32} (H : CM m S P D L T) : P ≤ 5 := H.2.2.2.1
theorem CM.p1 {m : ST} {S P : Nat} {D L T : Nat → Int32} (H : CM m S P D L T) : 1 ≤ P := H.2.2.2.2.1
theorem CM.d {m : ST} {S P : Nat} {D L T : Nat → Int32} (H : CM m S P D L T) : ∀ i, i < 5 → gA m 10 i = D i ∧ (D i = 0 ∨ D i = 1) := H.2.2.2.2.2.1
theorem CM.d0 {m : ST} {S P : Nat} {D L T : Nat → Int32} (H : CM m S P D L T) : D 0 = 0 := H.2.2.2.2.2.2.1
theorem CM.l {m : ST} {S P : Nat} {D L T : Nat → Int32} (H : CM m S P D L T) : ∀ (q : Nat) (y : ST), q < S → gA y 1 = gA m 1 → gA y 4 = gA m 4 → fX12_isLost (nI q) y = some (L q, y) := H.2.2.2.2.2.2.2.1
theorem CM.t {m : ST} {S P : Nat} {D L T : Nat → Int32} (H : CM m S P D L T) : ∀ j, j < 40 → gA m 3 j = T j ∧ inb (T j) (-9) 9 := H.2.2.2.2.2.2.2.2
theorem cg_b {D L T : Nat → Int32} {S p q j : Nat} (h0 : D 0 = 0) (hT : ∀ j, j < 40 → inb (T j) (-9) 9) (hp : p < 5) (c : j / 8 = lv D p ∧ j % 8 < q) : (cf D L T S p j + ad L T (j % 8) p).toInt64 = (cf D L T S p j).toInt64 + (ad L T (j % 8) p).toInt64 := by
  obtain ⟨h1, h2⟩ := cf_b (L := L) (S := S) h0 hT p j (by omega)
  have h3 := dc_le D p
  obtain ⟨a1, a2⟩ := ad_b (L := L) hT (show j % 8 < 8 by omega) hp
  rw [oi_ti, oi_ti, oi_ti, ti_add (by omega) (by omega), oi_add]
theorem col_qm {m : ST} {S P p : Nat} {D L T : Nat → Int32} (H : CM m S P D L T) (hp : p < P) {kb : Int32 → Int32 → ST → Option ST} : ∀ (n q : Nat) (f : Nat → Int64), q ≤ S → S < n + q → (∀ j, j < 40 → f j = (cg D L T S p q j).toInt64) → ∃ f', fX12_findColumns_50 kb n (nI (lv D p)) (nI p) (nI q) (sH m 11 f) = kb (nI (lv D p)) (nI (p + 1)) (sH m 11 f') ∧ ∀ j, j < 40 → f' j = (cf D L T S (p + 1) j).toInt64 := by
  have h5 := H.p5
  have h8 := H.s8
  have hl := lv_le D p
  intro n
  induction n with
  | zero => intro q f h1 h2; omega
  | succ n ih =>
    intro q f h1 h2 hf
    rw [fX12_findColumns_50, show gI (sH m 11 f) 0 = gI m 0 from rfl, H.s]
    by_cases c : S ≤ q
    · have : q = S := by omega
      subst this
      rw [if_pos (nI_le c (by omega))]
      unfold fX12_findColumns_101
      rw [nI_1]
      exact ⟨f, rfl, hf⟩
    · have hq : q < S := by omega
      rw [if_neg (nI_ge (by omega) (by omega)), i8', if_pos (ix_nI (by omega) (by decide)), H.l q (sH m 11 f) hq rfl rfl, Option.bind_some]
      have e3 : gA (sH m 11 f) 3 (5 * q + p) = T (5 * q + p) := (H.t _ (by omega)).1
      have fin : ∃ f', fX12_findColumns_93 kb (fX12_findColumns_50 kb n) (nI (lv D p)) (nI p) (nI q) (ad L T q p).toInt64 (gB (sH m 11 f) 11 (nI (8 * lv D p + q)).toNatClampNeg) (nI (8 * lv D p + q)) (sH m 11 f) = kb (nI (lv D p)) (nI (p + 1)) (sH m 11 f') ∧ ∀ j, j < 40 → f' j = (cf D L T S (p + 1) j).toInt64 := by
        unfold fX12_findColumns_93
        rw [if_pos (ix_nI (by omega) (by decide)), gB_sH, sB_sH, cl_nI (by omega), nI_1]
        apply ih (q + 1) _ (by omega) (by omega)
        intro j hj
        rw [updL_eq]
        unfold cg
        by_cases e : j = 8 * lv D p + q
        · rw [if_pos e, if_pos (by omega), hf _ (by omega), cg_b (q := q + 1) H.d0 (fun j hj => (H.t j hj).2) (by omega) (by omega)]
          unfold cg
          rw [if_neg (by omega), e]
          congr 3
          omega
        · rw [if_neg e, hf j hj]
          unfold cg
          by_cases z : j / 8 = lv D p ∧ j % 8 < q
          · rw [if_pos z, if_pos (by omega)]
          · rw [if_neg z, if_neg (by omega)]
      unfold ad at fin
      by_cases z : L q = 0
      · rw [if_pos z] at fin
        simp only [if_pos z]
        rw [i5', if_pos (ix_nI (by omega) (by decide)), cl_nI (show 5 * q + p < 2 ^ 31 by omega), e3]
        exact fin
      · rw [if_neg z] at fin
        simp only [if_neg z]
        exact fin
theorem col_pm {m : ST} {S P : Nat} {D L T : Nat → Int32} (H : CM m S P D L T) : ∀ (n p : Nat) (f : Nat → Int64), p ≤ P → P < n + p → (∀ j, j < 40 → f j = (cf D L T S p j).toInt64) → ∃ f', fX12_findColumns_25 n (nI (if p = 0 then 0 else lv D (p - 1))) (nI p) (sH m 11 f) = fX12_findColumns_107 (sH m 11 f') ∧ ∀ j, j < 40 → f' j = (cf D L T S P j).toInt64 := by
  have h5 := H.p5
  intro n
  induction n with
  | zero => intro p f h1 h2; omega
  | succ n ih =>
    intro p f h1 h2 hf
    rw [fX12_findColumns_25, show gI (sH m 11 f) 1 = gI m 1 from rfl, H.p]
    by_cases c : P ≤ p
    · have : p = P := by omega
      subst this
      rw [if_pos (nI_le c (by omega))]
      exact ⟨f, rfl, hf⟩
    · rw [if_neg (nI_ge (by omega) (by omega))]
      have e10 : gA (sH m 11 f) 10 p = D p := (H.d p (by omega)).1
      rw [if_pos (ix_nI (by omega) (by decide)), cl_nI (by omega), e10]
      unfold fX12_findColumns_47
      have fin : ∃ f', fX12_findColumns_50 (fX12_findColumns_25 n) 200 (nI (lv D p)) (nI p) 0 (sH m 11 f) = fX12_findColumns_107 (sH m 11 f') ∧ ∀ j, j < 40 → f' j = (cf D L T S P j).toInt64 := by
        obtain ⟨f1, F1, F2⟩ := col_qm H (p := p) (by omega) (kb := fX12_findColumns_25 n) 200 0 f (by omega) (by have := H.s8; omega) (by
          intro j hj
          unfold cg
          rw [if_neg (by omega)]
          exact hf j hj)
        rw [show fX12_findColumns_50 (fX12_findColumns_25 n) 200 (nI (lv D p)) (nI p) 0 (sH m 11 f) = _ from F1]
        have := ih (p + 1) f1 (by omega) (by omega) F2
        rw [if_neg (by omega), Nat.add_sub_cancel] at this
        exact this
      have e := lv_pos (p := p) H.d0
      by_cases z : D p = 0
      · rw [if_pos z] at e
        simp only [if_pos z]
        rw [← e] at fin
        exact fin
      · rw [if_neg z] at e
        simp only [if_neg z]
        rw [e]
        exact fin
theorem cols_m {m : ST} {S P : Nat} {D L T : Nat → Int32} (H : CM m S P D L T) : ∃ f, fX12_findColumns m = fX12_findColumns_107 (sH m 11 f) ∧ ∀ j, j < 40 → f j = (cf D L T S P j).toInt64 := by
  unfold fX12_findColumns
  obtain ⟨f1, F1, F2⟩ := z40_m (m := m) 200 0 (gB m 11) (by omega) (by omega) (fun j hj => absurd hj (Nat.not_lt_zero j))
  rw [sH_id] at F1
  rw [show fX12_findColumns_2 200 0 m = _ from F1]
  unfold fX12_findColumns_21
  exact col_pm H 200 0 f1 (by omega) (by have := H.p5; omega) (fun j hj => by rw [F2 j hj]; rfl)

/-! the reference's bends, and both together -/
def BM (C σ D : Nat → Int32) (P : Nat) (w : ST) (n : Nat) (A : Nat → Nat) : Prop := gI w 1 = nI P ∧ (∀ i, i < 5 → gA w 10 i = D i) ∧ gI w 2 = nI n ∧ (∀ i, i < n → gA w 12 i = nI (A i) ∧ A i < 5) ∧ (∀ r c, r < n → c < n → gB w 13 (6 * r + c) = Int64.ofInt (GA C A r c)) ∧ (∀ r, r < n → gB w 13 (6 * r + 5) = Int64.ofInt (slZ C σ (A r)))
def fW (x y : ST) : Prop := fr (fun _ => false) (fun a => a == 15) x y
def f0 (x y : ST) : Prop := fr (fun _ => false) (fun _ => false) x y
theorem fr.sub {p q p' q' : Nat → Bool} {x y : ST} (h : fr p q x y) (hp : ∀ i, p' i = false → p i = false) (hq : ∀ a, q' a = false → q a = false) : fr p' q' x y := ⟨fun i hi => h.1 i (hp i hi), fun a ha => h.2 a (hq a ha)⟩
theorem BM_fr {C σ D : Nat → Int32} {P n : Nat} {A : Nat → Nat} {w z : ST} (h : BM C σ D P w n A) (hf : fW w z) (h13 : gB z 13 = gB w 13) : BM C σ D P z n A := by
  obtain ⟨h1, h2, h3, h4, h5, h6⟩ := h
  refine ⟨?_, ?_, ?_, ?_, ?_, ?_⟩
  · rw [hf.1 1 rfl]; exact h1
  · rw [hf.2 10 rfl]; exact h2
  · rw [hf.1 2 rfl]; exact h3
  · rw [hf.2 12 rfl]; exact h4
  · rw [h13]; exact h5
  · rw [h13]; exact h6
theorem fb_2 {D : Nat → Int32} {w : ST} (h10 : ∀ i, i < 5 → gA w 10 i = D i) (h0 : D 0 = 0) : ∀ (p N : Nat), p < 5 → p < N → fX12_findBend_2 N (nI p) w = fX12_findBend_17 (nI (lv D p)) w
  | 0, N, hp, h => by
    obtain ⟨N, rfl⟩ := Nat.exists_eq_succ_of_ne_zero (by omega : N ≠ 0)
    rw [fX12_findBend_2, if_pos (ix_nI hp (by decide)), cl_nI (by omega), h10 0 (by omega), if_pos h0]
    rfl
  | p + 1, N, hp, h => by
    obtain ⟨N, rfl⟩ := Nat.exists_eq_succ_of_ne_zero (by omega : N ≠ 0)
    rw [fX12_findBend_2, if_pos (ix_nI hp (by decide)), cl_nI (by omega), h10 (p + 1) hp]
    unfold lv
    by_cases d : D (p + 1) = 0
    · rw [if_pos d, if_pos d]
    · rw [if_neg d, if_neg d, (bf2 (p + 1) (by omega)).2.2, (bf2 p (by omega)).1]
      exact fb_2 h10 h0 p N (by omega) (by omega)
theorem nI_in5 : ∀ a, a < 6 → ∀ b, b < 6 → (nI a = nI b → a = b) := by decide +kernel
theorem fb_29 {C σ D : Nat → Int32} {P n l : Nat} {A : Nat → Nat} {w : ST} (hn : n ≤ 5) (hl : l < 5) (hB : BM C σ D P w n A) (hok : OKW (rwn C σ A n l n)) : ∀ (N i : Nat) (z : ST), i ≤ n → n < N + i → f0 w z → gB z 13 = gB w 13 → gL z 0 = (rwn C σ A n l i).1 → gL z 1 = (rwn C σ A n l i).2 → ∃ z', fX12_findBend_29 N (nI l) (nI i) z = some z' ∧ f0 w z' ∧ gB z' 13 = gB w 13 ∧ gL z' 0 = rA (rwn C σ A n l n).1 (rwn C σ A n l n).2 ∧ gL z' 1 = rB (rwn C σ A n l n).1 (rwn C σ A n l n).2 := by
  obtain ⟨h1, h2, h3, h4, h5, h6⟩ := hB
  intro N
  induction N with
  | zero => intro i z q1 q2; omega
  | succ N ih =>
    intro i z q1 q2 hf h13 e0 e1
    rw [fX12_findBend_29, hf.1 2 rfl, h3]
    by_cases c : n ≤ i
    · have : i = n := by omega
      subst this
      rw [if_pos (nI_le c (by omega)), fb79_m (by rw [e0]; exact hok.1) (by rw [e1]; exact hok.2)]
      refine ⟨_, rfl, hf, h13, ?_, ?_⟩
      · rw [← e0, ← e1]; rfl
      · rw [← e0, ← e1]; rfl
    · obtain ⟨a1, a2⟩ := h4 i (by omega)
      rw [if_neg (nI_ge (by omega) (by omega)), if_pos (ix_nI (by omega) (by decide)), cl_nI (by omega), hf.2 12 rfl, a1]
      unfold fX12_findBend_73
      rw [nI_1]
      by_cases e : A i = l
      · rw [if_pos (by rw [e])]
        obtain ⟨f, F1⟩ := span_m (x := z) (w := n) (v2 := nI i) (g := g2 C σ A i) hn (by
          intro r c hr hc
          rw [h13]
          unfold g2
          by_cases e : c = i
          · rw [if_pos (by rw [e]), if_pos e]; exact h6 r hr
          · rw [if_neg (fun q => e (nI_in5 c (by omega) i (by omega) q)), if_neg e]; exact h5 r c hr hc)
        rw [F1, Option.bind_some]
        obtain ⟨f', F2⟩ := span_m (x := sL (sH z 14 f) 0 (Int64.ofInt (mz (g2 C σ A i) n (2 ^ n - 1)))) (w := n) (v2 := -1) (g := GA C A) hn (by
          intro r c hr hc
          rw [if_neg (neg1 c (by omega)), show gB (sL (sH z 14 f) 0 (Int64.ofInt (mz (g2 C σ A i) n (2 ^ n - 1)))) 13 = gB z 13 from rfl, h13]
          exact h5 r c hr hc)
        simp only [show gI (sL (sH z 14 f) 0 (Int64.ofInt (mz (g2 C σ A i) n (2 ^ n - 1)))) 2 = gI z 2 from rfl, hf.1 2 rfl, h3]
        rw [F2, Option.bind_some]
        refine ih (i + 1) (sL (sH (sL (sH z 14 f) 0 _) 14 f') 1 _) (by omega) (by omega) ((hf.sH _ _ |>.sL _ _).sH _ _ |>.sL _ _) h13 ?_ ?_
        · unfold rwn; rw [if_pos e]; rfl
        · unfold rwn; rw [if_pos e]; rfl
      · rw [if_neg (fun q => e (nI_in5 (A i) (by omega) l (by omega) q))]
        apply ih (i + 1) z (by omega) (by omega) hf h13
        · unfold rwn; rw [if_neg e]; exact e0
        · unfold rwn; rw [if_neg e]; exact e1
theorem fb_m {C σ D : Nat → Int32} {P n p : Nat} {A : Nat → Nat} {w : ST} (hn : n ≤ 5) (hp : p < 5) (h0 : D 0 = 0) (hB : BM C σ D P w n A) (hok : ∀ l, OKW (rwn C σ A n l n)) : ∃ z', fX12_findBend (nI p) w = some z' ∧ f0 w z' ∧ gB z' 13 = gB w 13 ∧ gL z' 0 = rA (rwn C σ A n (lv D p) n).1 (rwn C σ A n (lv D p) n).2 ∧ gL z' 1 = rB (rwn C σ A n (lv D p) n).1 (rwn C σ A n (lv D p) n).2 := by
  unfold fX12_findBend
  rw [fb_2 hB.2.1 h0 p 200 hp (by omega)]
  unfold fX12_findBend_17
  exact fb_29 (l := lv D p) hn (Nat.lt_of_le_of_lt (lv_le D p) hp) hB (hok _) 200 0 (sL (sL w 0 0) 1 1) (by omega) (by omega) (fr.rf.sL _ _ |>.sL _ _) rfl rfl rfl
theorem fw_6 {C σ D : Nat → Int32} {P n : Nat} {A : Nat → Nat} {w : ST} (hn : n ≤ 5) (hP : P ≤ 5) (h0 : D 0 = 0) (hB : BM C σ D P w n A) (hok : ∀ l, OKW (rwn C σ A n l n)) : ∀ (N p : Nat) (z : ST), p ≤ P → P < N + p → fW w z → gB z 13 = gB w 13 → (∀ q, q < p → gA z 15 q = nw (rA (rwn C σ A n (lv D q) n).1 (rwn C σ A n (lv D q) n).2) (rB (rwn C σ A n (lv D q) n).1 (rwn C σ A n (lv D q) n).2)) → ∃ z', fX12_findWholes_6 N (nI p) z = some z' ∧ fW w z' ∧ (∀ q, q < P → gA z' 15 q = nw (rA (rwn C σ A n (lv D q) n).1 (rwn C σ A n (lv D q) n).2) (rB (rwn C σ A n (lv D q) n).1 (rwn C σ A n (lv D q) n).2)) := by
  intro N
  induction N with
  | zero => intro p z q1 q2; omega
  | succ N ih =>
    intro p z q1 q2 hf h13 hq
    rw [fX12_findWholes_6, hf.1 1 rfl, hB.1]
    by_cases c : P ≤ p
    · have : p = P := by omega
      subst this
      rw [if_pos (nI_le c (by omega))]
      exact ⟨z, rfl, hf, hq⟩
    · rw [if_neg (nI_ge (by omega) (by omega))]
      obtain ⟨z1, Z1, Z2, Z3, Z4, Z5⟩ := fb_m (p := p) hn (by omega) h0 (BM_fr hB hf h13) hok
      obtain ⟨o1, o2⟩ := hok (lv D p)
      obtain ⟨r1, r2, r3, r4⟩ := rB_pos o1 o2
      rw [Z1, Option.bind_some, fw40_m (by omega) (by rw [Z5]; exact r1), Z4, Z5]
      have zf : fW z z1 := Z2.sub (fun i _ => rfl) (fun a _ => rfl)
      apply ih (p + 1) _ (by omega) (by omega) ((hf.tr zf).sA rfl _ _) (by rw [← h13, ← Z3]; rfl)
      intro q hqp
      show upd (gA z1 15) (nI p).toNatClampNeg _ q = _
      rw [cl_nI (by omega), upd_eq]
      by_cases e : q = p
      · rw [if_pos e, e]
      · rw [if_neg e, Z2.2 15 rfl]; exact hq q (by omega)
def BR (x m : ST) : Prop := RCount (gI x 11) (gI m 0) (gI x 9) (gI m 1) ∧ REq 128 0 255 (gA x 36) (gA m 1) ∧ REq 8 0 3000 (gA x 37) (gA m 2) ∧ RSet (gA x 32) (gA m 4) (gA m 5) (gA m 6) ∧ REq 40 (-9) 9 (gA x 41) (gA m 3) ∧ RDead (gA x 30) (gA m 10)
theorem Rel.br {k : Nat} {x m : ST} (h : Rel k x m) : BR x m := ⟨h.1, h.2.1, h.2.2.1, h.2.2.2.1, h.2.2.2.2.1, h.2.2.2.2.2.2.1⟩
theorem dc_lt {D : Nat → Int32} (h0 : D 0 = 0) : ∀ p, dc D (p + 1) ≤ p
  | 0 => by show 0 + (if D 0 = 0 then 0 else 1) ≤ 0; rw [if_pos h0]; exact Nat.le_refl _
  | p + 1 => by
    have := dc_lt h0 p
    rw [dc]
    split <;> omega
theorem sb_4 {n : Nat} {A : Nat → Nat} {y : ST} (hn : n ≤ 5) (e0 : gI y 0 = nI n) (hA : ∀ i, i < n → gA y 14 i = nI (A i)) : ∀ N i, i ≤ n → n < N + i → fX0_seenBits_4 N (bt A i) (nI i) y = some (bt A n, y) := by
  intro N
  induction N with
  | zero => intro i q1 q2; omega
  | succ N ih =>
    intro i q1 q2
    rw [fX0_seenBits_4, e0]
    by_cases c : n ≤ i
    · have : i = n := by omega
      subst this
      rw [if_pos (nI_le c (by omega))]
    · rw [if_neg (nI_ge (by omega) (by omega)), if_pos (ix_nI (by omega) (by decide)), cl_nI (by omega), hA i (by omega), nI_1]
      exact ih (i + 1) (by omega) (by omega)
theorem csX_of {x y : ST} (h : fX x y) : csX x y := h.sub (fun i hi => by simp [sXi] at hi ⊢; omega) (fun a ha => by simp [sXa] at ha ⊢; omega)
theorem csX_of' {x y : ST} (h : fT x y) : csX x y := h.sub (fun i hi => rfl) (fun a ha => by simp [sXa] at ha ⊢; omega)
theorem csM_of {x y : ST} (h : fM x y) : csM x y := h.sub (fun i hi => by simp [sMi] at hi ⊢; omega) (fun a ha => by simp [sMa] at ha ⊢; omega)
theorem csM_of' {x y : ST} (h : fW x y) : csM x y := h.sub (fun i hi => rfl) (fun a ha => by simp [sMa] at ha ⊢; omega)
theorem csM_of0 {x y : ST} (h : f0 x y) : csM x y := h.sub (fun i hi => rfl) (fun a ha => rfl)
theorem bends {x m : ST} (h : BR x m) : ∃ (S P : Nat) (y : ST), (1 ≤ S ∧ S ≤ 8 ∧ 1 ≤ P ∧ P ≤ 5 ∧ gI m 0 = nI S ∧ gI x 11 = nI S ∧ gI m 1 = nI P ∧ gI x 9 = nI P) ∧ fX11_findBends x = some y ∧ csX x y ∧ gI y 12 = psum (lo (gA m 1) (gA m 4 0) (gA m 4 1)) S ∧ (∀ q, q < P → inb (gA y 19 q) (-9999) 9999) ∧ (∃ m' b, fX0_seenBits y = some (b, y) ∧ fX12_findColumns m = some m' ∧ gI m' 3 = b ∧ csM m m' ∧ ∀ q, q < P → ∃ m'', fX12_findBend (nI q) m' = some m'' ∧ csM m m'' ∧ gL m'' 0 = gB y 17 q ∧ gL m'' 1 = gB y 18 q) ∧ (∃ m', fX12_findWholes m = some m' ∧ csM m m' ∧ ∀ q, q < P → gA m' 15 q = gA y 19 q) := by
  obtain ⟨⟨c1, c2, c3, c4⟩, g2', g3, g4, g5, g6⟩ := h
  obtain ⟨S, hS⟩ : ∃ S, S = (gI x 11).toInt.toNat := ⟨_, rfl⟩
  obtain ⟨P, hP⟩ : ∃ P, P = (gI x 9).toInt.toNat := ⟨_, rfl⟩
  have ex : gI x 11 = nI S := by rw [hS]; exact nI_of_toInt (by have := c3.1; omega)
  have ep : gI x 9 = nI P := by rw [hP]; exact nI_of_toInt (by have := c4.1; omega)
  have em : gI m 0 = nI S := by rw [← c1]; exact ex
  have epm : gI m 1 = nI P := by rw [← c2]; exact ep
  have S1 : 1 ≤ S ∧ S ≤ 8 := by obtain ⟨q1, q2⟩ := c3; omega
  have P1 : 1 ≤ P ∧ P ≤ 5 := by obtain ⟨q1, q2⟩ := c4; omega
  have e0 : (0 : Int32).toNatClampNeg = 0 := by decide
  have e1' : (1 : Int32).toNatClampNeg = 1 := by decide
  obtain ⟨y0, Y1, Y2, Y3, Y4⟩ := measure_x (x := x) (D := gA m 4 0) (M := gA m 4 1) S1.2 ex
  have hc : ∀ q, q < S → al (gA x 36) (gA m 4 0) q 16 = al (gA m 1) (gA m 4 0) q 16 ∧ wt (gA x 36) (gA m 4 0) q 16 = wt (gA m 1) (gA m 4 0) q 16 := fun q hq => al_c (f := gA x 36) (g := gA m 1) (D := gA m 4 0) (s := q) (n := 16) (fun i hi => (g2' (16 * q + i) (by omega)).1)
  have hlo : ∀ q, q < S → lo (gA x 36) (gA m 4 0) (gA m 4 1) q = lo (gA m 1) (gA m 4 0) (gA m 4 1) q := fun q hq => by unfold lo; rw [(hc q hq).1]
  obtain ⟨L, hL⟩ : ∃ L, L = lo (gA m 1) (gA m 4 0) (gA m 4 1) := ⟨_, rfl⟩
  obtain ⟨M, hM⟩ : ∃ M, M = mdx (gA m 1) (gA m 4 0) := ⟨_, rfl⟩
  have hD0 : gA m 10 0 = 0 := g6.1
  have HX : CX y0 S P (gA m 10) L (gA m 3) := by
    refine ⟨by rw [Y2.1 11 rfl]; exact ex, S1.2, by rw [Y2.1 9 rfl]; exact ep, P1.2, P1.1, ?_, hD0, ?_, ?_⟩
    · rw [Y2.2 30 rfl]; exact g6.2
    · intro q hq
      rw [hL]
      exact ⟨(Y3 q hq).2.2.trans (hlo q hq), lo_01 _ _ _ _⟩
    · rw [Y2.2 41 rfl]; exact g5
  have HM : CM m S P (gA m 10) L (gA m 3) := by
    refine ⟨em, S1.2, epm, P1.2, P1.1, fun i hi => ⟨rfl, (g6.2 i hi).2⟩, hD0, ?_, fun j hj => ⟨rfl, (g5 j hj).2⟩⟩
    intro q y hq h1 h4
    rw [lo_m (by omega), h1, h4, hL]
  obtain ⟨f, F1, F2⟩ := cols_x HX
  have HX2 : CX (sF y0 12 f) S P (gA m 10) L (gA m 3) := HX
  obtain ⟨f', F3, F4⟩ := slopes_x (M := M) (R := gA m 2) HX2 (by
    intro q hq
    show gA y0 39 q = _
    rw [(Y3 q hq).2.1, hM]
    unfold mdx md
    rw [(hc q hq).1, (hc q hq).2]) (by
    intro q hq
    show gA y0 37 q = _
    rw [Y2.2 37 rfl]
    exact (g3 q (by omega)).1)
  obtain ⟨g, G1, G2⟩ := cols_m HM
  obtain ⟨C, hCd⟩ : ∃ C, C = cf (gA m 10) L (gA m 3) S P := ⟨_, rfl⟩
  obtain ⟨σ, hσd⟩ : ∃ σ, σ = sl L M (gA m 2) S := ⟨_, rfl⟩
  have hCb : ∀ j, (C j).toInt.natAbs ≤ 9 * (1 + dc (gA m 10) P) := by
    intro j
    have := cf_b (D := gA m 10) (L := L) (T := gA m 3) (S := S) hD0 (fun j hj => (g5 j hj).2) P j P1.2
    rw [hCd]
    omega
  have hdc : dc (gA m 10) P ≤ 4 := by
    obtain ⟨P', rfl⟩ := Nat.exists_eq_succ_of_ne_zero (by omega : P ≠ 0)
    have := dc_lt hD0 P'
    have e : dc (gA m 10) P'.succ = dc (gA m 10) (P' + 1) := rfl
    omega
  have hDb : inb (gA m 4 0) 0 255 := (g4 0 (by omega)).2.2.2
  have hMb : 1 ≤ (gA m 4 1).toInt := (g4 1 (by omega)).2.2.2.1
  have hmb : ∀ q, q < S → inb (M q) 0 3000 := by
    intro q hq
    rw [hM]
    unfold mdx
    split
    · exact ⟨by decide, by decide⟩
    · exact md_b (M := gA m 4 1) hDb (fun i hi => (g2' (16 * q + i) (by omega)).2)
  have hσb : ∀ j, j < 8 → inb (σ j) (-3000) 3000 := by
    intro j hj
    rw [hσd]
    unfold sl
    by_cases c : j < S
    · rw [if_pos c]
      by_cases d : L j = 0
      · rw [if_pos d]
        obtain ⟨m1, m2⟩ := hmb j c
        obtain ⟨r1, r2⟩ := (g3 j hj).2
        unfold inb
        rw [ti_sub (by omega) (by omega)]
        omega
      · rw [if_neg d]; exact ⟨by decide, by decide⟩
    · rw [if_neg c]; exact ⟨by decide, by decide⟩
  have hσn : ∀ j, j < 8 → (σ j).toInt.natAbs ≤ 3000 := fun j hj => by
    obtain ⟨q1, q2⟩ := hσb j hj
    omega
  have KXh : KX C σ (gA m 10) P (sI (sF (sF y0 12 f) 13 f') 0 0) := by
    refine ⟨?_, ?_, HX.p, P1.1, P1.2, HX.d, hD0⟩
    · intro j hj
      refine ⟨?_, ?_⟩
      · show f j = _
        rw [F2 j hj, hCd]
      · have := hCb j
        unfold inb
        omega
    · intro j hj
      refine ⟨?_, hσb j hj⟩
      show f' j = _
      rw [F4 j hj, hσd]
  have KMh : KM C σ (gA m 10) L S P (sI (sI (sH m 11 g) 2 0) 3 0) := by
    refine ⟨?_, ?_, em, S1.2, epm, fun i _ => rfl, ?_, ?_, ?_⟩
    · intro j hj
      show g j = _
      rw [G2 j hj, hCd]
    · intro j hj
      rw [hCd]
      exact cf_z P j (Or.inr hj)
    · intro q y hq h1 h4
      exact HM.l q y hq h1 h4
    · intro q y hq h1 h4 h2 hl
      rw [hL] at hl
      have al1 := lo_0 hMb hl
      have e1 : gA y 1 = gA m 1 := h1
      have e4 : gA y 4 = gA m 4 := h4
      have e2 : gA y 2 = gA m 2 := h2
      have hz : ¬ al (gA m 1) (gA m 4 0) q 16 = 0 := by intro e'; rw [e'] at al1; exact absurd al1 (by decide)
      have hnl : ¬ al (gA m 1) (gA m 4 0) q 16 ≤ 0 := by
        rw [Int32.le_iff_toInt_le]
        have z : (0 : Int32).toInt = 0 := by decide
        omega
      rw [sl_m (by omega) (by rw [e1, e4]; exact hz), e1, e4, e2, hσd]
      unfold sl
      rw [if_pos hq, hL, if_pos hl, hM]
      unfold mdx
      rw [if_neg hnl]
    · intro q hq hl
      rw [hσd]
      unfold sl
      rw [if_pos hq, if_neg hl]
  obtain ⟨n, A, y, z, L1, L2, L3, L4, L5⟩ := lock KXh KMh 200 200 0 0 (fun _ => 0) _ _ (by omega) (by omega) (by omega) ⟨Nat.le_refl 0, fun i hi => absurd hi (Nat.not_lt_zero i), fun i j hi => absurd hi (Nat.not_lt_zero i), show (0 : Int) < 1 by decide⟩ ⟨fr.rf, rfl, fun i hi => absurd hi (Nat.not_lt_zero i), fun i j hi => absurd hi (Nat.not_lt_zero i), fun i hi => absurd hi (Nat.not_lt_zero i)⟩ ⟨fr.rf, rfl, rfl, rfl, fun i hi => absurd hi (Nat.not_lt_zero i), fun i j hi => absurd hi (Nat.not_lt_zero i), fun i hi => absurd hi (Nat.not_lt_zero i)⟩
  obtain ⟨w, W1, W2, hok, W3⟩ := solve_x KXh L3 L4 hCb hσn
  obtain ⟨l1, l2, l3, l4⟩ := L3
  obtain ⟨y1, y2, y3, y4, y5⟩ := L4
  obtain ⟨z1, z2, z3, z4, z5, z6, z7⟩ := L5
  have hn : n ≤ 5 := by omega
  have hA5 : ∀ i, i < n → A i < 5 := fun i hi => by have := (l2 i hi).1; omega
  have cx : csX x w := by
    have q1 : csX y0 (sI (sF (sF y0 12 f) 13 f') 0 0) := ((fr.rf.sF rfl _).sF rfl _).sI rfl _
    exact ((Y2.tr q1).tr (csX_of y1)).tr (csX_of' W2)
  have cm : csM m z := by
    have q1 : csM m (sI (sI (sH m 11 g) 2 0) 3 0) := ((fr.rf.sH _ _).sI rfl _).sI rfl _
    exact q1.tr (csM_of z1)
  have hB : BM C σ (gA m 10) P z n A := ⟨by rw [cm.1 1 rfl]; exact epm, fun i hi => by rw [cm.2 10 rfl], z3, fun i hi => ⟨z5 i hi, hA5 i hi⟩, z6, z7⟩
  have hFC : fX12_findColumns m = some z := by
    rw [G1]
    unfold fX12_findColumns_107
    exact L2
  refine ⟨S, P, w, ⟨S1.1, S1.2, P1.1, P1.2, em, ex, epm, ep⟩, ?_, cx, ?_, ?_, ⟨z, bt A n, ?_, hFC, z4, cm, ?_⟩, ?_⟩
  · unfold fX11_findBends fX7_get
    simp only [if_pos (show ixok 0 7 = true by decide), if_pos (show ixok 1 7 = true by decide), Option.bind_some, e0, e1', (g4 0 (by omega)).1, (g4 1 (by omega)).1]
    rw [Y1, Option.bind_some]
    unfold fX0_find
    rw [F1, Option.bind_some, F3, Option.bind_some]
    rw [show fX0_find_20 200 0 (sI (sF (sF y0 12 f) 13 f') 0 0) = _ from L1, W1, Option.bind_some]
  · rw [W2.1 12 rfl, y1.1 12 rfl]
    show gI y0 12 = _
    rw [Y4]
    exact psum_c hlo
  · intro q hq
    rw [(W3 q hq).2.2]
    obtain ⟨o1, o2⟩ := hok (lv (gA m 10) q)
    obtain ⟨r1, r2, r3, r4⟩ := rB_pos o1 o2
    exact nw_b r2 r1
  · unfold fX0_seenBits
    exact sb_4 hn (by rw [W2.1 0 rfl]; exact y2) (by rw [W2.2 14 rfl]; exact y3) 200 0 (by omega) (by omega)
  · intro q hq
    obtain ⟨u, U1, U2, U3, U4, U5⟩ := fb_m (p := q) hn (by omega) hD0 hB hok
    refine ⟨u, U1, cm.tr (csM_of0 U2), ?_, ?_⟩
    · rw [U4, (W3 q hq).1]
    · rw [U5, (W3 q hq).2.1]
  · obtain ⟨u, U1, U2, U3⟩ := fw_6 hn P1.2 hD0 hB hok 200 0 z (by omega) (by omega) fr.rf rfl (fun q hq => absurd hq (Nat.not_lt_zero q))
    refine ⟨u, ?_, cm.tr (csM_of' U2), ?_⟩
    · unfold fX12_findWholes
      rw [hFC, Option.bind_some]
      exact U1
    · intro q hq
      rw [U3 q hq, (W3 q hq).2.2]
theorem op_seen {k : Nat} {x m : ST} (h : Rel k x m) (hk : k < 512) : Ans (k + 1) (fX11_seen  x) (fX12_seen  m) := by
  obtain ⟨S, P, y, B1, B2, B3, B4, B5, ⟨m', b, M1, M2, M3, M4, M5⟩, B7⟩ := bends h.br
  unfold fX11_seen fX12_seen
  rw [B2, Option.bind_some, M1, Option.bind_some, M2, Option.bind_some, M3]
  exact ⟨_, _, _, rfl, rfl, Rel_fr h.mono B3 M4⟩
theorem op_bend {k : Nat} {x m : ST} (h : Rel k x m) (hk : k < 512) (v1 v2 : Int32) : AnsL (k + 1) (fX11_bend v1 v2 x) (fX12_bend v1 v2 m) := by
  obtain ⟨S, P, y, ⟨b1, b2, b3, b4, b5, b6, b7, b8⟩, B2, B3, B4, B5, ⟨m', b, M1, M2, M3, M4, M5⟩, B7⟩ := bends h.br
  have hp := nI_m1 (n := P) (by omega)
  have hm := h.mono
  unfold fX11_bend fX12_bend
  simp only [isPart_x, isPart_m, b7, b8, wi, in_eq 0 1 0 1 rfl rfl, Option.bind_some]
  rcases wb_n v1 _ P hp with e1 | ⟨e1, l, hl, rfl⟩
  · simp only [e1, if_true]
    exact ⟨_, _, _, rfl, rfl, hm⟩
  simp only [e1, if_neg one_ne]
  rcases wb_n v2 1 2 (by decide) with e2 | ⟨e2, w, hw, rfl⟩
  · simp only [e2, if_true]
    exact ⟨_, _, _, rfl, rfl, hm⟩
  simp only [e2, if_neg one_ne]
  obtain ⟨m'', N1, N2, N3, N4⟩ := M5 l hl
  rw [B2, Option.bind_some, M2, Option.bind_some, N1, Option.bind_some]
  unfold fX0_above fX0_below
  have hr := Rel_fr hm B3 N2
  rw [if_pos (ix_nI (show l < 5 by omega) (by decide)), if_pos (ix_nI (show l < 5 by omega) (by decide)), cl_nI (by omega), Option.bind_some, Option.bind_some, N3, N4]
  by_cases c : nI w = 0
  · rw [if_pos c, if_pos c]
    exact ⟨_, _, _, rfl, rfl, hr⟩
  · rw [if_neg c, if_neg c]
    exact ⟨_, _, _, rfl, rfl, hr⟩
theorem op_whole {k : Nat} {x m : ST} (h : Rel k x m) (hk : k < 512) (v1 : Int32) : Ans (k + 1) (fX11_whole v1 x) (fX12_whole v1 m) := by
  obtain ⟨S, P, y, ⟨b1, b2, b3, b4, b5, b6, b7, b8⟩, B2, B3, B4, B5, B6, ⟨m', M1, M2, M3⟩⟩ := bends h.br
  have hp := nI_m1 (n := P) (by omega)
  have hm := h.mono
  unfold fX11_whole fX12_whole
  simp only [isPart_x, isPart_m, b7, b8, Option.bind_some]
  rcases wb_n v1 _ P hp with e1 | ⟨e1, l, hl, rfl⟩
  · simp only [e1, if_true]
    exact ⟨_, _, _, rfl, rfl, hm⟩
  simp only [e1, if_neg one_ne]
  rw [B2, Option.bind_some, M1, Option.bind_some]
  unfold fX0_rounded
  rw [if_pos (ix_nI (show l < 5 by omega) (by decide)), if_pos (ix_nI (show l < 5 by omega) (by decide)), cl_nI (by omega), Option.bind_some, M3 l hl]
  exact ⟨_, _, _, rfl, rfl, Rel_fr hm B3 M2⟩

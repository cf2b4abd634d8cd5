theorem sF_c (x : ST) {k j : Nat} (h : k ≠ j) (f g : Nat → Int32) : sF (sF x k f) j g = sF (sF x j g) k f := by
  have e : va_up (va_up x.2.2.1 k f) j g = va_up (va_up x.2.2.1 j g) k f := by
    funext q
    unfold va_up
    by_cases a : q = j
    · subst a
      rw [if_pos rfl, if_neg (Ne.symm h), if_pos rfl]
    · rw [if_neg a]
      by_cases b : q = k
      · rw [if_pos b, if_pos b]
      · rw [if_neg b, if_neg b, if_neg a]
  show (_, _, va_up (va_up x.2.2.1 k f) j g, _) = (_, _, va_up (va_up x.2.2.1 j g) k f, _)
  rw [e]
  rfl
theorem begin_1 {M : ST} {f : Nat → Int32} : ∀ n i : Nat, i ≤ 128 → 128 < n + i → fX12_begin_12 n (nI i) (sF M 1 (zfill f i 0)) = fX12_begin_32 (sF M 1 (zfill f 128 0)) := by
  intro n
  induction n with
  | zero => intro t h1 h2; omega
  | succ n ih =>
    intro t h1 h2
    rw [fX12_begin_12]
    by_cases q : 128 ≤ t
    · have : t = 128 := by omega
      subst this
      rw [if_pos (lit_le (v := 128) (a := 128) (b := 128) rfl (Nat.le_refl _) (by decide))]
    · rw [if_neg (lit_nle (v := 128) (a := 128) (b := t) rfl (by omega) (by decide)), if_pos (ix_nI (by omega) (by decide)), sA_sF, cl_nI (by omega), zfill_s, nI_1]
      exact ih (t + 1) (by omega) (by omega)
theorem begin_2 {M : ST} {f : Nat → Int32} : ∀ n i : Nat, i ≤ 8 → 8 < n + i → fX12_begin_34 n (nI i) (sF M 2 (zfill f i 1500)) = fX12_begin_55 (sF M 2 (zfill f 8 1500)) := by
  intro n
  induction n with
  | zero => intro t h1 h2; omega
  | succ n ih =>
    intro t h1 h2
    rw [fX12_begin_34]
    by_cases q : 8 ≤ t
    · have : t = 8 := by omega
      subst this
      rw [if_pos (lit_le (v := 8) (a := 8) (b := 8) rfl (Nat.le_refl _) (by decide))]
    · rw [if_neg (lit_nle (v := 8) (a := 8) (b := t) rfl (by omega) (by decide)), if_pos (ix_nI (by omega) (by decide)), sA_sF, cl_nI (by omega), zfill_s, nI_1]
      exact ih (t + 1) (by omega) (by omega)
theorem begin_3 {M : ST} {f : Nat → Int32} : ∀ n i : Nat, i ≤ 40 → 40 < n + i → fX12_begin_57 n (nI i) (sF M 3 (zfill f i 0)) = fX12_begin_76 (sF M 3 (zfill f 40 0)) := by
  intro n
  induction n with
  | zero => intro t h1 h2; omega
  | succ n ih =>
    intro t h1 h2
    rw [fX12_begin_57]
    by_cases q : 40 ≤ t
    · have : t = 40 := by omega
      subst this
      rw [if_pos (lit_le (v := 40) (a := 40) (b := 40) rfl (Nat.le_refl _) (by decide))]
    · rw [if_neg (lit_nle (v := 40) (a := 40) (b := t) rfl (by omega) (by decide)), if_pos (ix_nI (by omega) (by decide)), sA_sF, cl_nI (by omega), zfill_s, nI_1]
      exact ih (t + 1) (by omega) (by omega)
theorem begin_4 {M : ST} {f g h : Nat → Int32} : ∀ n i : Nat, i ≤ 5 → 5 < n + i → fX12_begin_78 n (nI i) (sF (sF (sF M 7 (zfill f i 0)) 10 (zfill g i 0)) 19 (zfill h i 0)) = fX12_begin_110 (sF (sF (sF M 7 (zfill f 5 0)) 10 (zfill g 5 0)) 19 (zfill h 5 0)) := by
  intro n
  induction n with
  | zero => intro t h1 h2; omega
  | succ n ih =>
    intro t h1 h2
    rw [fX12_begin_78]
    by_cases q : 5 ≤ t
    · have : t = 5 := by omega
      subst this
      rw [if_pos (lit_le (v := 5) (a := 5) (b := 5) rfl (Nat.le_refl _) (by decide))]
    · rw [if_neg (lit_nle (v := 5) (a := 5) (b := t) rfl (by omega) (by decide)), if_pos (ix_nI (by omega) (by decide)), if_pos (ix_nI (by omega) (by decide)), if_pos (ix_nI (by omega) (by decide)), nar0, nI_1]
      rw [sF_c _ (show (7 : Nat) ≠ 10 by decide), sF_c _ (show (7 : Nat) ≠ 19 by decide), sA_sF, cl_nI (by omega), zfill_s]
      rw [sF_c _ (show (10 : Nat) ≠ 19 by decide), sF_c _ (show (10 : Nat) ≠ 7 by decide), sA_sF, cl_nI (by omega), zfill_s]
      rw [sF_c _ (show (19 : Nat) ≠ 7 by decide), sF_c _ (show (19 : Nat) ≠ 10 by decide), sA_sF, cl_nI (by omega), zfill_s]
      exact ih (t + 1) (by omega) (by omega)
theorem begin_m (v1 v2 : Int32) (m : ST) : fX12_begin v1 v2 m = some (sI (sI (sI (sI (sI (sF (sF (sF (sF (sF (sF (sI (sI m 0 v1) 1 v2) 1 (zfill (gA m 1) 128 0)) 2 (zfill (gA m 2) 8 1500)) 3 (zfill (gA m 3) 40 0)) 7 (zfill (gA m 7) 5 0)) 10 (zfill (gA m 10) 5 0)) 19 (zfill (gA m 19) 5 0)) 4 0) 5 0) 6 0) 7 0) 8 0) := by
  unfold fX12_begin
  have L1 := begin_1 (M := sI (sI m 0 v1) 1 v2) (f := gA m 1) 200 0 (by omega) (by omega)
  rw [zfill_0, show sF (sI (sI m 0 v1) 1 v2) 1 (gA m 1) = sI (sI m 0 v1) 1 v2 from sF_id (sI (sI m 0 v1) 1 v2) 1] at L1
  have L1' : fX12_begin_12 200 0 (sI (sI m 0 v1) 1 v2) = _ := L1
  rw [L1']
  unfold fX12_begin_32
  generalize hA : sF (sI (sI m 0 v1) 1 v2) 1 (zfill (gA m 1) 128 0) = A
  have a2 : gA A 2 = gA m 2 := by rw [← hA]; rfl
  have a3 : gA A 3 = gA m 3 := by rw [← hA]; rfl
  have a7 : gA A 7 = gA m 7 := by rw [← hA]; rfl
  have a10 : gA A 10 = gA m 10 := by rw [← hA]; rfl
  have a19 : gA A 19 = gA m 19 := by rw [← hA]; rfl
  have L2 := begin_2 (M := A) (f := gA A 2) 200 0 (by omega) (by omega)
  rw [zfill_0, sF_id] at L2
  have L2' : fX12_begin_34 200 0 A = _ := L2
  rw [L2', a2]
  unfold fX12_begin_55
  generalize hB : sF A 2 (zfill (gA m 2) 8 1500) = B
  have b3 : gA B 3 = gA m 3 := by rw [← hB]; exact a3
  have b7 : gA B 7 = gA m 7 := by rw [← hB]; exact a7
  have b10 : gA B 10 = gA m 10 := by rw [← hB]; exact a10
  have b19 : gA B 19 = gA m 19 := by rw [← hB]; exact a19
  have L3 := begin_3 (M := B) (f := gA B 3) 200 0 (by omega) (by omega)
  rw [zfill_0, sF_id] at L3
  have L3' : fX12_begin_57 200 0 B = _ := L3
  rw [L3', b3]
  unfold fX12_begin_76
  generalize hC : sF B 3 (zfill (gA m 3) 40 0) = C
  have c7 : gA C 7 = gA m 7 := by rw [← hC]; exact b7
  have c10 : gA C 10 = gA m 10 := by rw [← hC]; exact b10
  have c19 : gA C 19 = gA m 19 := by rw [← hC]; exact b19
  have L4 := begin_4 (M := C) (f := gA C 7) (g := gA C 10) (h := gA C 19) 200 0 (by omega) (by omega)
  rw [zfill_0, zfill_0, zfill_0, sF_id, sF_id, sF_id] at L4
  have L4' : fX12_begin_78 200 0 C = _ := L4
  rw [L4', c7, c10, c19]
  rfl
theorem renew_dead {X : ST} {f : Nat → Int32} : ∀ n i : Nat, i ≤ 5 → 5 < n + i → fX6_renew_12 n (nI i) (sF X 30 (zfill f i 0)) = fX6_renew_30 (sF X 30 (zfill f 5 0)) := by
  intro n
  induction n with
  | zero => intro t h1 h2; omega
  | succ n ih =>
    intro t h1 h2
    rw [fX6_renew_12]
    by_cases q : 5 ≤ t
    · have : t = 5 := by omega
      subst this
      rw [if_pos (lit_le (v := 5) (a := 5) (b := 5) rfl (Nat.le_refl _) (by decide))]
    · rw [if_neg (lit_nle (v := 5) (a := 5) (b := t) rfl (by omega) (by decide)), if_pos (ix_nI (by omega) (by decide)), nar0, sA_sF, cl_nI (by omega), zfill_s, nI_1]
      exact ih (t + 1) (by omega) (by omega)
theorem REq.fill {n : Nat} {lo hi : Int} {f g : Nat → Int32} {v : Int32} (hv : inb v lo hi) : REq n lo hi (zfill f n v) (zfill g n v) := by
  intro j hj
  unfold zfill
  rw [if_pos hj, if_pos hj]
  exact ⟨rfl, hv⟩
theorem zfill_at {f : Nat → Int32} {n j : Nat} {v : Int32} (h : j < n) : zfill f n v j = v := by
  unfold zfill
  rw [if_pos h]
theorem op_mirror {k : Nat} {x m : ST} (h : Rel k x m) (hk : k < 512) (v1 v2 : Int32) : Ans (k + 1) (fX11_mirror v1 v2 x) (fX12_mirror v1 v2 m) := by
  have hm := h.mono
  obtain ⟨g1, g2, g3, g4, g5, g6, g7, g8, g9, g10, ⟨g11a, g11⟩, g12⟩ := h.mono
  unfold fX11_mirror fX12_mirror
  simp only [wi, in_eq 1 8 1 8 rfl rfl, in_eq 1 5 1 5 rfl rfl, Option.bind_some]
  rcases wb_c v1 1 8 with e1 | ⟨e1, l1, u1⟩
  · simp only [e1, if_true]
    exact ⟨_, _, _, rfl, rfl, hm⟩
  simp only [e1, if_neg one_ne]
  rcases wb_c v2 1 5 with e2 | ⟨e2, l2, u2⟩
  · simp only [e2, if_true]
    exact ⟨_, _, _, rfl, rfl, hm⟩
  simp only [e2, if_neg one_ne, begin_m, Option.bind_some]
  unfold fX9_renew fX6_renew
  simp only [Option.bind_some]
  generalize hX : sI (sI (sF (sF (sI x 11 v1) 36 (zfill (gA (sI x 11 v1) 36) 128 0)) 37 (zfill (gA (sF (sI x 11 v1) 36 (zfill (gA (sI x 11 v1) 36) 128 0)) 37) 8 1500)) 9 v2) 10 0 = X
  have L := renew_dead (X := X) (f := gA X 30) 200 0 (by omega) (by omega)
  rw [zfill_0, sF_id] at L
  have L' : fX6_renew_12 200 0 X = _ := L
  rw [L']
  unfold fX6_renew_30 fX6_level fX10_renew fX3_renew fX3_enter fX1_renew
  simp only [Option.bind_some]
  subst hX
  have z0 : inb (0 : Int32) 0 255 := (by decide : (0 : Int) ≤ (0 : Int32).toInt ∧ (0 : Int32).toInt ≤ 255)
  refine ⟨_, _, _, rfl, rfl, ?_⟩
  refine ⟨⟨rfl, rfl, inb_of l1 u1 (by decide) (by decide), inb_of l2 u2 (by decide) (by decide)⟩, REq.fill (n := 128) z0, REq.fill (n := 8) (by decide : (0 : Int) ≤ (1500 : Int32).toInt ∧ (1500 : Int32).toInt ≤ 3000), g4, REq.fill (n := 40) (by decide : (-9 : Int) ≤ (0 : Int32).toInt ∧ (0 : Int32).toInt ≤ 9), ?_, ⟨zfill_at (f := gA m 10) (n := 5) (j := 0) (v := 0) (by decide), fun p hp => ?_⟩, ⟨fun p hp => ?_, ?_⟩, rfl, ⟨rfl, rfl, rfl, ?_, ?_, ?_⟩, ⟨⟨0, by omega, rfl, rfl, rfl⟩, g11⟩, g12⟩
  · intro p hp
    exact ⟨0, by omega, zfill_at (n := 5) hp, zfill_at (n := 5) hp, fun j hj => absurd hj (Nat.not_lt_zero _), fun h => absurd rfl h⟩
  · exact ⟨(zfill_at (n := 5) hp).trans (zfill_at (n := 5) hp).symm, Or.inl (zfill_at (n := 5) hp)⟩
  · exact (zfill_at (n := 5) hp).trans (zfill_at (n := 5) hp).symm
  · show usq (zfill (gA m 19) 5 0) ≤ _
    unfold usq
    rw [zfill_at (by decide), zfill_at (by decide), zfill_at (by decide), zfill_at (by decide), zfill_at (by decide)]
    have : (0 : Int32).toInt = 0 := by decide
    rw [this]
    omega
  · exact (by decide : (0 : Int) ≤ (0 : Int32).toInt ∧ (0 : Int32).toInt ≤ 3)
  · intro e; exact absurd (show (0 : Int32) = 1 from e) (by decide)
  · intro e; exact absurd (show (0 : Int32) = 3 from e) (by decide)
theorem init_lanes {X : ST} {f : Nat → Int32} : ∀ n i : Nat, i ≤ 4 → 4 < n + i → fX12_init_350 n (nI i) (sF X 28 (zfill f i (-1))) = fX12_init_368 (sF X 28 (zfill f 4 (-1))) := by
  intro n
  induction n with
  | zero => intro t h1 h2; omega
  | succ n ih =>
    intro t h1 h2
    rw [fX12_init_350]
    by_cases q : 4 ≤ t
    · have : t = 4 := by omega
      subst this
      rw [if_pos (lit_le (v := 4) (a := 4) (b := 4) rfl (Nat.le_refl _) (by decide))]
    · rw [if_neg (lit_nle (v := 4) (a := 4) (b := t) rfl (by omega) (by decide)), if_pos (ix_nI (by omega) (by decide)), sA_sF, cl_nI (by omega), zfill_s, nI_1]
      exact ih (t + 1) (by omega) (by omega)
theorem REq.of0 {n : Nat} {lo hi : Int} {f g : Nat → Int32} (hf : ∀ j, j < n → f j = 0) (hg : ∀ j, j < n → g j = 0) (h0 : lo ≤ 0) (h1 : 0 ≤ hi) : REq n lo hi f g := by
  intro j hj
  rw [hf j hj, hg j hj]
  have : (0 : Int32).toInt = 0 := by decide
  exact ⟨rfl, by rw [this]; exact h0, by rw [this]; exact h1⟩
theorem op_init : ∃ m0 : ST, fX12_init m00 = some m0 ∧ Rel 0 x00 m0 := by
  unfold fX12_init
  have L := init_lanes (X := m00) (f := gA m00 28) 200 0 (by omega) (by omega)
  rw [zfill_0, sF_id] at L
  have L' : fX12_init_350 200 0 m00 = _ := L
  rw [L']
  unfold fX12_init_368
  rw [if_pos (show ixok 0 10 = true by decide), if_pos (show ixok 5 10 = true by decide), begin_m, Option.bind_some]
  refine ⟨_, rfl, ?_⟩
  have z0 : (0 : Int32).toInt = 0 := by decide
  refine ⟨⟨rfl, rfl, (by decide : (1 : Int) ≤ (4 : Int32).toInt ∧ (4 : Int32).toInt ≤ 8), (by decide : (1 : Int) ≤ (2 : Int32).toInt ∧ (2 : Int32).toInt ≤ 5)⟩, REq.of0 (fun j hj => rfl) (fun j hj => zfill_at (n := 128) hj) (by decide) (by decide), REq.fill (n := 8) (by decide : (0 : Int) ≤ (1500 : Int32).toInt ∧ (1500 : Int32).toInt ≤ 3000), ?_, REq.of0 (fun j hj => rfl) (fun j hj => zfill_at (n := 40) hj) (by decide) (by decide), ?_, ⟨zfill_at (f := gA m00 10) (n := 5) (j := 0) (v := 0) (by decide), fun p hp => ?_⟩, ⟨fun p hp => ?_, ?_⟩, rfl, ⟨rfl, rfl, rfl, ?_, ?_, ?_⟩, ⟨⟨0, by omega, rfl, rfl, rfl⟩, fun j hj => ⟨rfl, rfl, rfl⟩⟩, ?_, REq.of0 (fun j hj => rfl) (fun j hj => rfl) (by decide) (by decide), REq.of0 (fun j hj => rfl) (fun j hj => rfl) (by decide) (by decide), ?_⟩
  · intro j hj
    rcases (show j = 0 ∨ j = 1 ∨ j = 2 ∨ j = 3 ∨ j = 4 ∨ j = 5 ∨ j = 6 by omega) with rfl | rfl | rfl | rfl | rfl | rfl | rfl
    all_goals exact ⟨rfl, rfl, rfl, by decide, by decide⟩
  · intro p hp
    exact ⟨0, by omega, rfl, zfill_at (n := 5) hp, fun j hj => absurd hj (Nat.not_lt_zero _), fun h => absurd rfl h⟩
  · exact ⟨(zfill_at (n := 5) hp).symm, Or.inl (zfill_at (n := 5) hp)⟩
  · exact (zfill_at (n := 5) hp).symm
  · show usq (zfill (fun _ => 0) 5 0) ≤ _
    decide
  · exact (by decide : (0 : Int) ≤ (0 : Int32).toInt ∧ (0 : Int32).toInt ≤ 3)
  · intro e; exact absurd (show (0 : Int32) = 1 from e) (by decide)
  · intro e; exact absurd (show (0 : Int32) = 3 from e) (by decide)
  · intro j hj
    rcases (show j = 0 ∨ j = 1 ∨ j = 2 ∨ j = 3 ∨ j = 4 ∨ j = 5 ∨ j = 6 ∨ j = 7 ∨ j = 8 ∨ j = 9 by omega) with rfl | rfl | rfl | rfl | rfl | rfl | rfl | rfl | rfl | rfl
    all_goals exact ⟨by decide +kernel, by decide +kernel, by decide +kernel⟩
  · intro s hs
    refine Or.inl ⟨?_, zfill_at (n := 4) hs⟩
    rcases (show s = 0 ∨ s = 1 ∨ s = 2 ∨ s = 3 by omega) with rfl | rfl | rfl | rfl
    all_goals rfl

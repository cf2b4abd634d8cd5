/-! all frames of a call -/
theorem BR_fr {x0 m0 z : ST} (h : BR x0 m0) (f : fMM m0 z) : BR x0 z := by
  unfold BR at h ⊢
  rw [f.1 0 rfl, f.1 1 rfl, f.2 1 rfl, f.2 2 rfl, f.2 4 rfl, f.2 5 rfl, f.2 6 rfl, f.2 3 rfl, f.2 10 rfl]
  exact h
theorem fr_4 {m0 : ST} {S : Nat} {L : Nat → Int32} (hS : S ≤ 8) (hL : L = lo (gA m0 1) (gA m0 4 0) (gA m0 4 1)) (e0 : gI m0 0 = nI S) {z : ST} (f : fMM m0 z) : ∀ M s : Nat, s ≤ S → S < M + s → fX12_frame_4 M (psum L s) (nI s) z = fX12_frame_34 (psum L S) z := by
  intro M
  induction M with
  | zero => intro s h1 h2; omega
  | succ M ih =>
    intro s h1 h2
    rw [fX12_frame_4, f.1 0 rfl, e0]
    by_cases c : S ≤ s
    · have : s = S := by omega
      subst this
      rw [if_pos (nI_le c (by omega))]
    · have ih2 := ih (s + 1) (by omega) (by omega)
      rw [psum] at ih2
      rw [if_neg (nI_ge (by omega) (by omega)), lo_m (by omega), Option.bind_some, f.2 1 rfl, f.2 4 rfl, ← hL]
      unfold fX12_frame_26
      rw [nI_1]
      rcases lo_01 (gA m0 1) (gA m0 4 0) (gA m0 4 1) s with e | e
      · rw [← hL] at e
        rw [e] at ih2
        simp only [e, if_true]
        exact ih2
      · rw [← hL] at e
        rw [e] at ih2
        simp only [e, if_neg one_ne]
        exact ih2
theorem sqi_b {v w : Int32} {k : Nat} (hk : k < 512) (h : sqi v ≤ sqi w + 3600) (hw : sqi w ≤ 18000 + 18000 * k) : v.toInt.natAbs ≤ 3040 := by
  unfold sqi at h hw
  have e := Int.natAbs_mul_self (a := v.toInt)
  rcases Nat.lt_or_ge 3040 v.toInt.natAbs with q | q
  · have := Nat.mul_le_mul q q
    have : ((3041 * 3041 : Nat) : Int) ≤ (v.toInt.natAbs * v.toInt.natAbs : Nat) := by exact_mod_cast this
    omega
  · exact q
theorem usq_p {g : Nat → Int32} {j : Nat} (hj : j < 5) : sqi (g j) ≤ usq g := by
  have a0 := sq0 (g 0).toInt
  have a1 := sq0 (g 1).toInt
  have a2 := sq0 (g 2).toInt
  have a3 := sq0 (g 3).toInt
  have a4 := sq0 (g 4).toInt
  unfold usq sqi
  rcases (show j = 0 ∨ j = 1 ∨ j = 2 ∨ j = 3 ∨ j = 4 by omega) with rfl | rfl | rfl | rfl | rfl <;> omega
theorem loop_b {B P n S : Nat} {few : Int32} {x0 m0 y0 : ST} {Fn : (Nat → Int32) → Nat → Int32} {L : Nat → Int32} (hP : P ≤ 5) (hn : n ≤ 100) (hB : B ≤ 51200) (ep : gI x0 9 = nI P) (em : gI m0 1 = nI P) (hS : S ≤ 8) (hL : L = lo (gA m0 1) (gA m0 4 0) (gA m0 4 1)) (e0 : gI m0 0 = nI S) (el : gI y0 12 = psum L S) (hfew : few = if gA m0 4 2 < gI y0 12 then 0 else 1)
    (hmove : ∀ y2 z2 : ST, fXX x0 y2 → fMM m0 z2 → gA y2 19 = gA y0 19 → (∀ p, p < 5 → gA y2 31 p = gA z2 19 p) → (∀ p, p < 5 → sqi (gA z2 19 p) ≤ sqi (gA m0 19 p) + 3600) → ∃ (v : Int32) (y3 z3 : ST), fX11_moveUnits y2 = some (v, y3) ∧ fX12_bendMore z2 = some z3 ∧ fV y2 y3 ∧ fr sMi sMa9 z2 z3 ∧ (v = 0 ∨ v = 1) ∧ (v = 0 → ∀ p, p < P → Fn (gA y2 31) p = gA y2 31 p) ∧ (∀ p, p < P → gA y3 31 p = Fn (gA y2 31) p) ∧ (∀ p, P ≤ p → gA y3 31 p = gA y2 31 p) ∧ (∀ p, p < 5 → gA y3 31 p = gA z3 19 p) ∧ (∀ p, p < 5 → sqi (gA z3 19 p) ≤ sqi (gA m0 19 p) + 3600))
    (hFn : ∀ u u' : Nat → Int32, (∀ p, p < P → u p = u' p) → ∀ p, Fn u p = Fn u' p) : ∀ (M M' i : Nat) (mv : Int32) (y z : ST), i ≤ n → n < M + i → n < M' + i → IW (B + i) few mv x0 m0 y0 Fn P y z (gI z 8) → ∃ (r mv' : Int32) (y' z' : ST), fX11_frames_45 M (nI n) few mv (nI i) y = some (r, y') ∧ fX12_frames_16 M' (nI n) (nI i) z = some (r, z') ∧ IW (B + n) few mv' x0 m0 y0 Fn P y' z' (gI z' 8) := by
  intro M
  induction M with
  | zero => intro M' i mv y z h1 h2; omega
  | succ M ih =>
    intro M' i mv y z h1 h2 h3 hI
    obtain ⟨M', rfl⟩ := Nat.exists_eq_succ_of_ne_zero (by omega : M' ≠ 0)
    rw [fX11_frames_45, fX12_frames_16]
    by_cases c : n ≤ i
    · have : i = n := by omega
      subst this
      rw [if_pos (nI_le c (by omega)), if_pos (nI_le c (by omega))]
      unfold fX11_frames_131 fX3_now
      rw [Option.bind_some]
      refine ⟨gI z 5, mv, y, z, ?_, rfl, hI⟩
      rw [hI.2.2.2.2.2.2.1.1]
    · rw [if_neg (nI_ge (by omega) (by omega)), if_neg (nI_ge (by omega) (by omega))]
      have hF01 : few = 0 ∨ few = 1 := by
        rw [hfew]
        split
        · exact Or.inl rfl
        · exact Or.inr rfl
      have hK : ∃ g, KP few y g := by
        rcases hF01 with q | q
        · exact ⟨0, Or.inl ⟨q, rfl⟩⟩
        · exact ⟨_, Or.inr ⟨q, rfl⟩⟩
      obtain ⟨g, hg⟩ := hK
      obtain ⟨Y, Z, mv', Y1, Y2, Y3⟩ := keep_b hg hmove hFn hP hI
      obtain ⟨y', z', N1, N2, N3⟩ := note_b hP (by omega) ep em Y3
      have hfr : fX12_frame z = some z' := by
        unfold fX12_frame
        rw [show fX12_frame_4 200 0 0 z = _ from fr_4 hS hL e0 hI.2.1 200 0 (by omega) (by omega), ← el]
        unfold fX12_frame_34
        have e2 : (2 : Int32).toNatClampNeg = 2 := by decide
        rw [if_pos (show ixok 2 7 = true by decide), e2, hI.2.1.2 4 rfl]
        have : (if gA m0 4 2 < gI y0 12 then fX12_frame_49 (gI y0 12) 0 z else fX12_frame_49 (gI y0 12) 1 z) = fX12_frame_49 (gI y0 12) few z := by
          rw [hfew]
          split <;> rfl
        rw [this, Y2, N2]
      rw [hfr, Option.bind_some, nI_1]
      have hbd : ((fX3_now y).bind fun q12 => (fX3_pass few q12.2).bind fun q14 => if q14.1 = 0 then fX11_frames_78 (fX11_frames_45 M) (nI n) few mv (nI i) q12.1 q14.2 else (fX6_level q14.2).bind fun q17 => fX11_frames_78 (fX11_frames_45 M) (nI n) few mv (nI i) q12.1 q17) = fX11_frames_45 M (nI n) few mv' (nI (i + 1)) y' := by
        have := Y1 (fX11_frames_45 M) (nI n) (nI i)
        rw [N1, nI_1] at this
        exact this
      rw [hbd]
      exact ih M' (i + 1) mv' y' z' (by omega) (by omega) (by omega) N3
theorem op_frames {k : Nat} {x m : ST} (h : Rel k x m) (hk : k < 512) (v1 : Int32) : Ans (k + 1) (fX11_frames v1 x) (fX12_frames v1 m) := by
  have hbr := h.br
  obtain ⟨S, P, y0, ⟨b1, b2, b3, b4, b5, b6, b7, b8⟩, B2, B3, B4, B5, B6, _⟩ := bends hbr
  obtain ⟨T, N, t1, t2, t3, t4, t5, t6⟩ := lim hbr
  have hm := h.mono
  unfold fX11_frames fX12_frames
  simp only [wi, in_eq 1 100 1 100 rfl rfl, Option.bind_some]
  rcases wb_c v1 1 100 with e1 | ⟨e1, l1, l2⟩
  · simp only [e1, if_true]
    exact ⟨_, _, _, rfl, rfl, hm⟩
  simp only [e1, if_neg one_ne]
  have o1 : (1 : Int32).toInt = 1 := by decide
  have o2 : (100 : Int32).toInt = 100 := by decide
  obtain ⟨n, hn⟩ : ∃ n, n = v1.toInt.toNat := ⟨_, rfl⟩
  have hv : v1 = nI n := by rw [hn]; exact nI_of_toInt (by omega)
  have hn1 : n ≤ 100 := by omega
  subst hv
  have e2 : (2 : Int32).toNatClampNeg = 2 := by decide
  obtain ⟨g1, g2', g3, g4, g5, g6, g7, ⟨g8, g8b⟩, g9, g10, g11, g12, g13, g14, g15⟩ := h
  have hG : inb (gA m 4 3) 0 200 := (g4 3 (by omega)).2.2.2
  have eset : ∀ j, j < 7 → gA x 32 j = gA m 4 j := fun j hj => (g4 j hj).1
  rw [B2, Option.bind_some]
  unfold fX9_lostOnes fX7_get
  rw [Option.bind_some]
  simp only
  rw [if_pos (show ixok 2 7 = true by decide), Option.bind_some, e2, B3.2 32 rfl, eset 2 (by omega)]
  obtain ⟨few, hfew⟩ : ∃ few : Int32, few = if gA m 4 2 < gI y0 12 then 0 else 1 := ⟨_, rfl⟩
  have hst : (if gA m 4 2 < gI y0 12 then fX11_frames_39 (nI n) 0 y0 else fX11_frames_39 (nI n) 1 y0) = fX11_frames_39 (nI n) few y0 := by
    rw [hfew]
    split <;> rfl
  simp only [hst]
  unfold fX11_frames_39
  have hFn : ∀ u u' : Nat → Int32, (∀ p, p < P → u p = u' p) → ∀ p, FF u (gA y0 19) (gA m 4 3) (gA m 10) T N P p = FF u' (gA y0 19) (gA m 4 3) (gA m 10) T N P p := by
    intro u u' hu p
    unfold FF
    rw [wf_c hu (fun _ _ => rfl)]
  have hub : ∀ (z : ST), (∀ p, p < 5 → sqi (gA z 19 p) ≤ sqi (gA m 19 p) + 3600) → ∀ p, p < P → (gA z 19 p).toInt.natAbs ≤ 3040 := by
    intro z hz p hp
    have := usq_p (g := gA m 19) (j := p) (by omega)
    exact sqi_b hk (hz p (by omega)) (by omega)
  have hmove : ∀ y2 z2 : ST, fXX x y2 → fMM m z2 → gA y2 19 = gA y0 19 → (∀ p, p < 5 → gA y2 31 p = gA z2 19 p) → (∀ p, p < 5 → sqi (gA z2 19 p) ≤ sqi (gA m 19 p) + 3600) → ∃ (v : Int32) (y3 z3 : ST), fX11_moveUnits y2 = some (v, y3) ∧ fX12_bendMore z2 = some z3 ∧ fV y2 y3 ∧ fr sMi sMa9 z2 z3 ∧ (v = 0 ∨ v = 1) ∧ (v = 0 → ∀ p, p < P → (fun u p => FF u (gA y0 19) (gA m 4 3) (gA m 10) T N P p) (gA y2 31) p = gA y2 31 p) ∧ (∀ p, p < P → gA y3 31 p = (fun u p => FF u (gA y0 19) (gA m 4 3) (gA m 10) T N P p) (gA y2 31) p) ∧ (∀ p, P ≤ p → gA y3 31 p = gA y2 31 p) ∧ (∀ p, p < 5 → gA y3 31 p = gA z3 19 p) ∧ (∀ p, p < 5 → sqi (gA z3 19 p) ≤ sqi (gA m 19 p) + 3600) := by
    intro y2 z2 fx fm h19 hu hb
    have hu2 := hub z2 hb
    obtain ⟨v, y3, X1, X2, X3, X4, X5, X6⟩ := mv_x (y := y2) (V := gA y0 19) (D := gA m 10) (T := T) (N := N) (P := P) (G := gA m 4 3) t1 t2 b3 b4 (by rw [fx.1 9 rfl]; exact b8) (by rw [fx.2 30 rfl]; exact g7.2) (by rw [fx.2 32 rfl]; exact eset 3 (by omega)) (by rw [fx.2 32 rfl]; exact t5) (by rw [fx.2 32 rfl]; exact t6) hG h19 (fun p hp => by rw [hu p (by omega)]; exact hu2 p hp) B5
    obtain ⟨S', P', y', ⟨_, _, c3, c4, _, _, c7, _⟩, C2, _, _, _, _, ⟨z1, Z1, Z2, Z3⟩⟩ := bends (BR_fr hbr fm)
    have hy : y' = y0 := by
      rw [B2] at C2
      exact (Option.some.inj C2).symm
    have hPP : P' = P := by
      rw [fm.1 1 rfl, b7] at c7
      exact (nI_in5 P (by omega) P' (by omega) c7).symm
    subst hy
    subst hPP
    obtain ⟨z3, M1, M2, M3, M4⟩ := mv_m (z := z2) (z1 := z1) (V := gA y' 19) (D := gA m 10) (T := T) (N := N) (P := P') (G := gA m 4 3) t1 t2 b3 b4 Z1 Z2 Z3 (by rw [fm.1 1 rfl]; exact b7) (by rw [fm.2 10 rfl]; exact fun i _ => rfl) (by rw [fm.2 4 rfl]) (by rw [fm.2 4 rfl]; exact t3) (by rw [fm.2 4 rfl]; exact t4) hG hu2 B5
    have hsame : ∀ p, FF (gA y2 31) (gA y' 19) (gA m 4 3) (gA m 10) T N P' p = FF (gA z2 19) (gA y' 19) (gA m 4 3) (gA m 10) T N P' p := hFn _ _ (fun p hp => hu p (by omega))
    refine ⟨v, y3, z3, X1, M1, X2, M2, X3, X4, X5, X6, ?_, ?_⟩
    · intro p hp
      by_cases c : p < P'
      · rw [X5 p c, M3 p c, hsame]
      · rw [X6 p (by omega), M4 p (by omega)]
        exact hu p hp
    · intro p hp
      by_cases c : p < P'
      · rw [M3 p c]
        have hr := ro_b (w := wf (gA z2 19) (gA y' 19) (gA m 4 3) P') (D := gA m 10) (T := T) (N := N) (P := P') p
        have h0 : 0 ≤ sqi (gA m 19 p) := sq0 _
        have hs : sqi (FF (gA z2 19) (gA y' 19) (gA m 4 3) (gA m 10) T N P' p) ≤ 3600 := by
          unfold sqi FF
          rw [oI_t (by omega) (by omega)]
          have := mulb (a := ro (wf (gA z2 19) (gA y' 19) (gA m 4 3) P') (gA m 10) T N P' p) (b := ro (wf (gA z2 19) (gA y' 19) (gA m 4 3) P') (gA m 10) T N P' p) (A := 60) (B := 60) (by omega) (by omega)
          omega
        omega
      · rw [M4 p (by omega)]
        exact hb p hp
  have hI : IW (100 * k + 0) few 1 x m y0 (fun u p => FF u (gA y0 19) (gA m 4 3) (gA m 10) T N P p) P y0 m (gI m 8) := by
    refine ⟨B3.sub (fun i hi => by unfold uXi at hi; simp at hi; simp [hi]) (fun a ha => by unfold uXa at ha; simp at ha; simp [ha]), fr.rf, rfl, rfl, ?_, ?_, ?_, ?_, Or.inr rfl, fun q => absurd q one_ne⟩
    · rw [B3.2 31 rfl]; exact g8
    · intro p hp; omega
    · rw [B3.1 5 rfl, B3.1 6 rfl, B3.1 7 rfl, B3.1 8 rfl]; exact g10
    · rw [B3.1 1 rfl, B3.1 2 rfl, B3.2 20 rfl]; exact g11
  obtain ⟨r, mv', y', z', R1, R2, R3⟩ := loop_b (B := 100 * k) (n := n) (few := few) (x0 := x) (m0 := m) (y0 := y0) b4 hn1 (by omega) b8 b7 b2 rfl b5 B4 hfew hmove hFn 200 200 0 1 y0 m (by omega) (by omega) (by omega) hI
  obtain ⟨f1, f2, r3, r4, r5, r6, r7, ⟨⟨d, d1, d2⟩, r8⟩, r9⟩ := R3
  refine ⟨r, y', z', R1, R2, ?_⟩
  unfold Rel
  rw [f1.1 11 rfl, f1.1 9 rfl, f1.1 10 rfl, f2.1 0 rfl, f2.1 1 rfl, f2.1 4 rfl,
    f1.2 36 rfl, f1.2 37 rfl, f1.2 32 rfl, f1.2 41 rfl, f1.2 42 rfl, f1.2 43 rfl, f1.2 44 rfl, f1.2 45 rfl, f1.2 46 rfl, f1.2 30 rfl, f1.2 27 rfl, f1.2 25 rfl, f1.2 26 rfl, f1.2 33 rfl, f1.2 34 rfl, f1.2 35 rfl,
    f2.2 1 rfl, f2.2 2 rfl, f2.2 4 rfl, f2.2 5 rfl, f2.2 6 rfl, f2.2 3 rfl, f2.2 7 rfl, f2.2 8 rfl, f2.2 9 rfl, f2.2 10 rfl, f2.2 23 rfl, f2.2 26 rfl, f2.2 27 rfl, f2.2 28 rfl, f2.2 29 rfl, f2.2 30 rfl]
  refine ⟨g1, g2', g3, g4, g5, g6, g7, ⟨r5, ?_⟩, g9, r7, ⟨⟨d, by omega, d2⟩, r8⟩, g12, g13, g14, g15⟩
  have q0 := r6 0 (by omega)
  have q1 := r6 1 (by omega)
  have q2 := r6 2 (by omega)
  have q3 := r6 3 (by omega)
  have q4 := r6 4 (by omega)
  unfold sqi at q0 q1 q2 q3 q4
  unfold usq at g8b ⊢
  omega

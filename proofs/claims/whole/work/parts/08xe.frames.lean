/-! frames -/
def RLogB (B : Nat) (kept next dn : Int32) (lines ls ll lu : Nat → Int32) : Prop := (∃ d : Nat, d ≤ B ∧ dn = nI d ∧ kept = nI (min d 30) ∧ next = nI (d % 30)) ∧ ∀ j, j < 30 → lines (3 * j) = ls j ∧ lines (3 * j + 1) = ll j ∧ lines (3 * j + 2) = lu j
def uXi : Nat → Bool := fun i => sXi i || i == 1 || i == 2 || i == 5 || i == 6 || i == 7 || i == 8
def uXa : Nat → Bool := fun a => sXa a || a == 31 || a == 20
def uMi : Nat → Bool := fun i => sMi i || i == 5 || i == 6 || i == 7 || i == 8
def uMa : Nat → Bool := fun a => sMa a || a == 19 || a == 20 || a == 21 || a == 22
abbrev fXX (x y : ST) : Prop := fr uXi uXa x y
abbrev fMM (x y : ST) : Prop := fr uMi uMa x y
def sqi (v : Int32) : Int := v.toInt * v.toInt
theorem note_x {y : ST} {d : Nat} {st lost sm : Int32} (e2 : gI y 2 = nI (d % 30)) (e1 : gI y 1 = nI (min d 30)) : fX1_note st lost sm y = some (sI (sI (sF y 20 (upd (upd (upd (gA y 20) (3 * (d % 30)) st) (3 * (d % 30) + 1) lost) (3 * (d % 30) + 2) sm)) 2 (nI ((d + 1) % 30))) 1 (nI (min (d + 1) 30))) := by
  have h30 : d % 30 < 30 := Nat.mod_lt _ (by decide)
  have a1 : nI (d % 30) * 3 = nI (3 * (d % 30)) := by rw [show (3 : Int32) = nI 3 from rfl, pk_mul, Nat.mul_comm]
  have a2 : nI (3 * (d % 30)) + 2 = nI (3 * (d % 30) + 2) := by rw [show (2 : Int32) = nI 2 from rfl, nI_add]
  have a3 : nI (d % 30 + 1) - nI (d % 30 + 1) / 30 * 30 = nI ((d + 1) % 30) := by
    rw [show nI (d % 30 + 1) - nI (d % 30 + 1) / 30 * 30 = nI ((d % 30 + 1) % 30) from pk_rem (d := 30) (by omega) (by decide) (by decide)]
    congr 1
    omega
  have s1 : sA y 20 (nI (3 * (d % 30))) st = sF y 20 (upd (gA y 20) (3 * (d % 30)) st) := by
    show sF y 20 (upd (gA y 20) (nI (3 * (d % 30))).toNatClampNeg st) = _
    rw [cl_nI (by omega)]
  have s2 : ∀ f, sA (sF y 20 f) 20 (nI (3 * (d % 30) + 1)) lost = sF y 20 (upd f (3 * (d % 30) + 1) lost) := by
    intro f; rw [sA_sF, cl_nI (by omega)]
  have s3 : ∀ f, sA (sF y 20 f) 20 (nI (3 * (d % 30) + 2)) sm = sF y 20 (upd f (3 * (d % 30) + 2) sm) := by
    intro f; rw [sA_sF, cl_nI (by omega)]
  unfold fX1_note
  simp only [e2, a1, nI_1, a2, s1, show ∀ f, gI (sF y 20 f) 2 = nI (d % 30) from fun f => e2, s2, s3]
  rw [if_pos (ix_nI (show 3 * (d % 30) < 90 by omega) (by decide)), if_pos (ix_nI (show 3 * (d % 30) + 1 < 90 by omega) (by decide)), if_pos (ix_nI (show 3 * (d % 30) + 2 < 90 by omega) (by decide)), if_neg (show ¬ (30 : Int32) = 0 by decide), Option.bind_some, a3]
  simp only [show ∀ f v, gI (sI (sF y 20 f) 2 v) 1 = gI y 1 from fun _ _ => rfl, e1, nI_1]
  have a4 : (if 30 < nI (min d 30 + 1) then 30 else nI (min d 30 + 1)) = nI (min (d + 1) 30) := by
    by_cases c : d < 30
    · rw [show min d 30 = d by omega, show min (d + 1) 30 = d + 1 by omega]
      exact if_neg (show ¬ nI 30 < nI (d + 1) by rw [Int32.not_lt]; exact nI_le (by omega) (by omega))
    · rw [show min d 30 = 30 by omega, show min (d + 1) 30 = 30 by omega]
      rfl
  rw [a4]
theorem note_m {z : ST} {d P : Nat} {lost : Int32} (hP : P ≤ 5) (hd : d ≤ 60000) (e8 : gI z 8 = nI d) (e1 : gI z 1 = nI P) : fX12_frame_187 lost z = some (sI (sA (sA (sA z 20 (nI (d % 30)) (gI z 5)) 21 (nI (d % 30)) lost) 22 (nI (d % 30)) (psum (gA z 19) P)) 8 (nI (d + 1))) := by
  have h30 : d % 30 < 30 := Nat.mod_lt _ (by decide)
  have a1 : nI d - nI d / 30 * 30 = nI (d % 30) := pk_rem (d := 30) (by omega) (by decide) (by decide)
  unfold fX12_frame_187
  rw [e8, a1, if_neg (show ¬ (30 : Int32) = 0 by decide), if_pos (ix_nI h30 (by decide)), if_pos (ix_nI h30 (by decide))]
  unfold fX12_unitsAll
  have S := sum_m (m := sA (sA z 20 (nI (d % 30)) (gI z 5)) 21 (nI (d % 30)) lost) (p := P) hP e1 200 0 (by omega) (by omega)
  rw [show fX12_unitsAll_4 200 0 0 (sA (sA z 20 (nI (d % 30)) (gI z 5)) 21 (nI (d % 30)) lost) = _ from S, Option.bind_some, if_pos (ix_nI h30 (by decide))]
  simp only
  rw [show gI (sA (sA (sA z 20 (nI (d % 30)) (gI z 5)) 21 (nI (d % 30)) lost) 22 (nI (d % 30)) (psum (gA (sA (sA z 20 (nI (d % 30)) (gI z 5)) 21 (nI (d % 30)) lost) 19) P)) 8 = gI z 8 from rfl, e8, nI_1]
  rfl
def IW (B : Nat) (few mv : Int32) (x0 m0 y0 : ST) (Fn : (Nat → Int32) → Nat → Int32) (P : Nat) (y z : ST) (dn : Int32) : Prop :=
  fXX x0 y ∧ fMM m0 z ∧ gI y 12 = gI y0 12 ∧ gA y 19 = gA y0 19 ∧ (∀ p, p < 5 → gA y 31 p = gA z 19 p) ∧ (∀ p, p < 5 → sqi (gA z 19 p) ≤ sqi (gA m0 19 p) + 3600) ∧
  RKeep (gI y 5) (gI y 6) (gI y 7) (gI y 8) (gI z 5) (gI z 6) (gI z 7) dn ∧ RLogB B (gI y 1) (gI y 2) (gI z 8) (gA y 20) (gA z 20) (gA z 21) (gA z 22) ∧
  (mv = 0 ∨ mv = 1) ∧ (mv = 0 → few = 1 ∧ gI y 5 = 2 ∧ ∀ p, p < P → Fn (gA y 31) p = gA y 31 p)
theorem note_b {B P : Nat} {few mv : Int32} {x0 m0 y0 y z : ST} {Fn : (Nat → Int32) → Nat → Int32} (hP : P ≤ 5) (hB : B ≤ 60000) (ep : gI x0 9 = nI P) (em : gI m0 1 = nI P) (h : IW B few mv x0 m0 y0 Fn P y z (gI z 8 + 1)) : ∃ y' z', (∀ kb v1 v4, fX11_frames_97 kb v1 few mv v4 y = kb v1 few mv (v4 + 1) y') ∧ fX12_frame_187 (gI y0 12) z = some z' ∧ IW (B + 1) few mv x0 m0 y0 Fn P y' z' (gI z' 8) := by
  obtain ⟨f1, f2, h12, h19, hu, hb, hk, ⟨⟨d, d1, d2, d3, d4⟩, hl⟩, hm1, hm2⟩ := h
  have N1 := note_x (y := y) (d := d) (st := gI y 5) (lost := gI y 12) (sm := psum (gA y 31) P) d4 d3
  have N2 := note_m (z := z) (d := d) (P := P) (lost := gI y0 12) hP (by omega) d2 (by rw [f2.1 1 rfl]; exact em)
  have S := sum_x (x := y) (p := P) hP (by rw [f1.1 9 rfl]; exact ep) 200 0 (by omega) (by omega)
  have es : psum (gA y 31) P = psum (gA z 19) P := psum_eq P (fun j hj => hu j (by omega))
  have h30 : d % 30 < 30 := Nat.mod_lt _ (by decide)
  refine ⟨sI (sI (sF y 20 (upd (upd (upd (gA y 20) (3 * (d % 30)) (gI y 5)) (3 * (d % 30) + 1) (gI y 12)) (3 * (d % 30) + 2) (psum (gA y 31) P))) 2 (nI ((d + 1) % 30))) 1 (nI (min (d + 1) 30)), _, ?_, N2, ?_⟩
  · intro kb v1 v4
    unfold fX11_frames_97 fX3_now fX9_lostOnes fX6_sum
    rw [Option.bind_some, Option.bind_some]
    simp only
    rw [show fX6_sum_4 200 0 0 y = _ from S, Option.bind_some, N1, Option.bind_some]
  · refine ⟨((f1.sF rfl _).sI rfl _).sI rfl _, (((f2.sA rfl _ _).sA rfl _ _).sA rfl _ _).sI rfl _, h12, h19, hu, hb, ?_, ⟨⟨d + 1, by omega, rfl, rfl, rfl⟩, ?_⟩, hm1, hm2⟩
    · have hk' := hk
      rw [d2, nI_1] at hk'
      exact hk'
    · intro j hj
      show upd (upd (upd (gA y 20) (3 * (d % 30)) (gI y 5)) (3 * (d % 30) + 1) (gI y 12)) (3 * (d % 30) + 2) (psum (gA y 31) P) (3 * j) = upd (gA z 20) (nI (d % 30)).toNatClampNeg (gI z 5) j ∧ upd (upd (upd (gA y 20) (3 * (d % 30)) (gI y 5)) (3 * (d % 30) + 1) (gI y 12)) (3 * (d % 30) + 2) (psum (gA y 31) P) (3 * j + 1) = upd (gA z 21) (nI (d % 30)).toNatClampNeg (gI y0 12) j ∧ upd (upd (upd (gA y 20) (3 * (d % 30)) (gI y 5)) (3 * (d % 30) + 1) (gI y 12)) (3 * (d % 30) + 2) (psum (gA y 31) P) (3 * j + 2) = upd (gA z 22) (nI (d % 30)).toNatClampNeg (psum (gA z 19) P) j
      obtain ⟨l1, l2, l3⟩ := hl j hj
      rw [cl_nI (by omega)]
      simp only [upd_eq]
      by_cases e : j = d % 30
      · subst e
        rw [if_neg (by omega), if_neg (by omega), if_pos rfl, if_pos rfl, if_neg (by omega), if_pos rfl, if_pos rfl, if_pos rfl, if_pos rfl]
        exact ⟨hk.1, h12, es⟩
      · rw [if_neg (by omega), if_neg (by omega), if_neg (by omega), if_neg e, if_neg (by omega), if_neg (by omega), if_neg (by omega), if_neg e, if_neg (by omega), if_neg (by omega), if_neg (by omega), if_neg e]
        exact ⟨l1, l2, l3⟩
theorem z169 {z : ST} {lost : Int32} : ∀ (M j : Nat), j ≤ 5 → 5 < M + j → fX12_frame_169 M lost (nI j) (sF z 19 (zfill (gA z 19) j 0)) = fX12_frame_187 lost (sF z 19 (zfill (gA z 19) 5 0)) := by
  intro M
  induction M with
  | zero => intro j h1 h2; omega
  | succ M ih =>
    intro j h1 h2
    rw [fX12_frame_169]
    by_cases c : 5 ≤ j
    · have : j = 5 := by omega
      subst this
      rw [if_pos (show (5 : Int32) ≤ nI 5 by decide)]
    · rw [if_neg (lit_nle (v := 5) (a := 5) (b := j) rfl (by omega) (by decide)), if_pos (ix_nI (by omega) (by decide)), sA_sF, cl_nI (by omega), zfill_s, nI_1]
      exact ih (j + 1) (by omega) (by omega)
theorem st4 {v : Int32} (h : inb v 0 3) : v = 0 ∨ v = 1 ∨ v = 2 ∨ v = 3 := by
  obtain ⟨h1, h2⟩ := h
  rcases (show v.toInt = 0 ∨ v.toInt = 1 ∨ v.toInt = 2 ∨ v.toInt = 3 by omega) with e | e | e | e
  · exact Or.inl (Int32.toInt_inj.mp (e.trans (by decide)))
  · exact Or.inr (Or.inl (Int32.toInt_inj.mp (e.trans (by decide))))
  · exact Or.inr (Or.inr (Or.inl (Int32.toInt_inj.mp (e.trans (by decide)))))
  · exact Or.inr (Or.inr (Or.inr (Int32.toInt_inj.mp (e.trans (by decide)))))
/-- the class's keeper, and what it does when the number of good frames comes to g -/
def bodyX (few mv : Int32) (y : ST) (kb : Int32 → Int32 → Int32 → Int32 → ST → Option (Int32 × ST)) (v1 v4 : Int32) : Option (Int32 × ST) := (fX3_now y).bind fun q12 => (fX3_pass few q12.2).bind fun q14 => if q14.1 = 0 then fX11_frames_78 kb v1 few mv v4 q12.1 q14.2 else (fX6_level q14.2).bind fun q17 => fX11_frames_78 kb v1 few mv v4 q12.1 q17
theorem bodyX_n {few mv g : Int32} {y Y : ST} (hp : fX3_pass few y = some (0, Y)) (h5 : ¬ gI y 5 = 2) : ∀ kb v1 v4, bodyX few mv y kb v1 v4 = fX11_frames_97 kb v1 few mv v4 Y := by
  intro kb v1 v4
  unfold bodyX fX3_now fX11_frames_78
  rw [Option.bind_some]
  simp only [hp, Option.bind_some, if_true, if_neg h5]
theorem ti1 {v : Int32} (h1 : -2147483648 ≤ v.toInt + 1) (h2 : v.toInt + 1 ≤ 2147483647) : (v + 1).toInt = v.toInt + 1 := ti_add (b := 1) h1 h2
def KP (few : Int32) (y : ST) (g : Int32) : Prop := (few = 0 ∧ g = 0) ∨ (few = 1 ∧ g = gI y 7 + 1)
theorem pass_g {few g : Int32} {y : ST} (h : KP few y g) : fX3_pass few y = fX3_pass_25 few g (sI y 6 (gI y 6 + 1)) := by
  unfold fX3_pass
  rcases h with ⟨rfl, rfl⟩ | ⟨rfl, rfl⟩
  · rw [if_pos rfl]
  · rw [if_neg one_ne]; rfl
theorem frame_g {few g lost : Int32} {y z : ST} (h : KP few y g) (e : gI y 7 = gI z 6) : fX12_frame_49 lost few z = fX12_frame_65 lost few g z := by
  unfold fX12_frame_49
  rcases h with ⟨rfl, rfl⟩ | ⟨rfl, rfl⟩
  · rw [if_pos rfl]
  · rw [if_neg one_ne, e]
theorem KP_b {few g : Int32} {y : ST} {b : Int} (h : KP few y g) (hb : inb (gI y 7) 0 b) (hB : b ≤ 1000) : inb g 0 (b + 1) := by
  obtain ⟨b1, b2⟩ := hb
  unfold inb
  rcases h with ⟨_, rfl⟩ | ⟨_, rfl⟩
  · have z : (0 : Int32).toInt = 0 := by decide
    omega
  · rw [ti1 (by omega) (by omega)]
    omega
theorem keep_b {B P : Nat} {few mv g : Int32} {x0 m0 y0 y z : ST} {Fn : (Nat → Int32) → Nat → Int32} (hg : KP few y g)
    (hmove : ∀ y2 z2 : ST, fXX x0 y2 → fMM m0 z2 → gA y2 19 = gA y0 19 → (∀ p, p < 5 → gA y2 31 p = gA z2 19 p) → (∀ p, p < 5 → sqi (gA z2 19 p) ≤ sqi (gA m0 19 p) + 3600) → ∃ (v : Int32) (y3 z3 : ST), fX11_moveUnits y2 = some (v, y3) ∧ fX12_bendMore z2 = some z3 ∧ fV y2 y3 ∧ fr sMi sMa9 z2 z3 ∧ (v = 0 ∨ v = 1) ∧ (v = 0 → ∀ p, p < P → Fn (gA y2 31) p = gA y2 31 p) ∧ (∀ p, p < P → gA y3 31 p = Fn (gA y2 31) p) ∧ (∀ p, P ≤ p → gA y3 31 p = gA y2 31 p) ∧ (∀ p, p < 5 → gA y3 31 p = gA z3 19 p) ∧ (∀ p, p < 5 → sqi (gA z3 19 p) ≤ sqi (gA m0 19 p) + 3600))
    (hFn : ∀ u u' : Nat → Int32, (∀ p, p < P → u p = u' p) → ∀ p, Fn u p = Fn u' p) (hP : P ≤ 5)
    (h : IW B few mv x0 m0 y0 Fn P y z (gI z 8)) : ∃ Y Z mv', (∀ kb v1 v4, bodyX few mv y kb v1 v4 = fX11_frames_97 kb v1 few mv' v4 Y) ∧ fX12_frame_49 (gI y0 12) few z = fX12_frame_187 (gI y0 12) Z ∧ IW B few mv' x0 m0 y0 Fn P Y Z (gI Z 8 + 1) := by
  obtain ⟨f1, f2, h12, h19, hu, hb, ⟨k1, k2, k3, k4, k5, k6⟩, hl, hm1, hm2⟩ := h
  rw [frame_g hg k3]
  have Pg := pass_g hg
  have e6 : gI y 6 + 1 = gI z 8 + 1 := by rw [k2]
  have mv1 : few = 0 → mv = 1 := by
    intro h0
    rcases hm1 with q | q
    · have := (hm2 q).1
      rw [h0] at this
      exact absurd this (by decide)
    · exact q
  have mvs : ∀ v : Int32, gI y 5 = v → v ≠ 2 → mv = 1 := by
    intro v h0 hne
    rcases hm1 with q | q
    · exact absurd ((hm2 q).2.1) (by rw [h0]; exact hne)
    · exact q
  unfold fX3_pass_25 at Pg
  unfold fX12_frame_65
  simp only [show gI (sI (sI y 6 (gI y 6 + 1)) 7 g) 5 = gI y 5 from rfl, show gI (sI (sI y 6 (gI y 6 + 1)) 7 g) 7 = g from rfl] at Pg
  simp only [show gI (sI (sI z 6 g) 7 (gI (sI z 6 g) 7 + 1)) 5 = gI z 5 from rfl, show gI (sI (sI z 6 g) 7 (gI (sI z 6 g) 7 + 1)) 6 = g from rfl, show gI (sI (sI z 6 g) 7 (gI (sI z 6 g) 7 + 1)) 7 = gI z 7 + 1 from rfl]
  have FX2 : fXX x0 (sI (sI y 6 (gI y 6 + 1)) 7 g) := (f1.sI rfl _).sI rfl _
  have FM2 : fMM m0 (sI (sI z 6 g) 7 (gI (sI z 6 g) 7 + 1)) := (f2.sI rfl _).sI rfl _
  rcases st4 k4 with s | s | s | s
  · -- at rest
    rw [s] at k1
    rw [k1] at Pg
    rw [if_neg (show ¬ (0 : Int32) = 1 by decide), if_neg (show ¬ (0 : Int32) = 2 by decide), if_neg (show ¬ (0 : Int32) = 3 by decide), if_pos zb0] at Pg
    rw [s, if_neg (show ¬ (0 : Int32) = 1 by decide), if_neg (show ¬ (0 : Int32) = 2 by decide), if_neg (show ¬ (0 : Int32) = 3 by decide)]
    have hmv := mvs 0 k1 (by decide)
    refine ⟨_, _, mv, bodyX_n (g := g) Pg (by rw [k1]; decide), rfl, FX2, FM2, h12, h19, hu, hb, ?_, hl, hm1, fun q => absurd (q.symm.trans hmv) (by decide)⟩
    show RKeep (gI y 5) (gI y 6 + 1) g (gI y 8) (gI z 5) g (gI z 7 + 1) (gI z 8 + 1)
    rw [k1, s]
    exact ⟨rfl, e6, rfl, ⟨by decide, by decide⟩, fun q => absurd q (by decide), fun q => absurd q (by decide)⟩
  · -- seeking
    rw [s] at k1
    rw [k1] at Pg
    have hmv := mvs 1 k1 (by decide)
    have gb := KP_b hg (b := 2) (by rw [k3]; exact k5 s) (by decide)
    have t3 : (3 : Int32).toInt = 3 := by decide
    rw [if_pos (show (1 : Int32) = 1 from rfl)] at Pg
    rw [s, if_pos (show (1 : Int32) = 1 from rfl)]
    by_cases c : g = 3
    · rw [if_neg (by rw [c]; decide)] at Pg
      unfold fX3_enter at Pg
      rw [Option.bind_some, if_pos zb0] at Pg
      rw [if_pos c]
      unfold fX12_become
      rw [Option.bind_some]
      refine ⟨_, _, mv, bodyX_n (g := g) Pg (by rw [k1]; decide), rfl, ((FX2.sI rfl _).sI rfl _).sI rfl _, ((FM2.sI rfl _).sI rfl _).sI rfl _, h12, h19, hu, hb, ?_, hl, hm1, fun q => absurd (q.symm.trans hmv) (by decide)⟩
      show RKeep 2 (gI y 6 + 1) 0 0 2 0 0 (gI z 8 + 1)
      exact ⟨rfl, e6, rfl, ⟨by decide, by decide⟩, fun q => absurd q (by decide), fun q => absurd q (by decide)⟩
    · have hlt : g.toInt < 3 := by
        obtain ⟨q1, q2⟩ := gb
        rcases (show g.toInt < 3 ∨ g.toInt = 3 by omega) with q | q
        · exact q
        · exact absurd (Int32.toInt_inj.mp (q.trans t3.symm)) c
      rw [if_pos (by rw [Int32.lt_iff_toInt_lt, t3]; exact hlt), if_pos zb0] at Pg
      rw [if_neg c]
      refine ⟨_, _, mv, bodyX_n (g := g) Pg (by rw [k1]; decide), rfl, FX2, FM2, h12, h19, hu, hb, ?_, hl, hm1, fun q => absurd (q.symm.trans hmv) (by decide)⟩
      show RKeep (gI y 5) (gI y 6 + 1) g (gI y 8) (gI z 5) g (gI z 7 + 1) (gI z 8 + 1)
      rw [k1, s]
      exact ⟨rfl, e6, rfl, ⟨by decide, by decide⟩, fun q => ⟨gb.1, by omega⟩, fun q => absurd q (by decide)⟩
  · -- held
    rw [s] at k1
    rw [k1] at Pg
    rw [if_neg (show ¬ (2 : Int32) = 1 by decide), if_pos (show (2 : Int32) = 2 from rfl)] at Pg
    rw [s, if_neg (show ¬ (2 : Int32) = 1 by decide), if_pos (show (2 : Int32) = 2 from rfl)]
    rcases hg with ⟨q0, q1⟩ | ⟨q0, q1⟩
    · have hmv := mv1 q0
      rw [if_pos q0] at Pg
      unfold fX3_enter at Pg
      rw [Option.bind_some, if_pos zb0] at Pg
      rw [if_pos q0]
      unfold fX12_become
      rw [Option.bind_some]
      refine ⟨sI (sI (sI (sI (sI y 6 (gI y 6 + 1)) 7 g) 5 3) 7 0) 8 0, _, mv, ?_, rfl, ((FX2.sI rfl _).sI rfl _).sI rfl _, ((FM2.sI rfl _).sI rfl _).sI rfl _, h12, h19, hu, hb, ?_, hl, hm1, fun q => absurd (q.symm.trans hmv) (by decide)⟩
      · intro kb v1 v4
        unfold bodyX fX3_now fX11_frames_78
        rw [Option.bind_some]
        simp only [Pg, Option.bind_some, if_true, k1, if_pos q0]
      · show RKeep 3 (gI y 6 + 1) 0 0 3 0 0 (gI z 8 + 1)
        exact ⟨rfl, e6, rfl, ⟨by decide, by decide⟩, fun q => absurd q (by decide), fun q => ⟨rfl, ⟨by decide, by decide⟩, by decide, by decide⟩⟩
    · have qn : ¬ few = 0 := by rw [q0]; exact one_ne
      rw [if_neg qn, if_pos zb0] at Pg
      rw [if_neg qn]
      obtain ⟨v, y3, z3, V1, V2, V3, V4, V5, V6, V7, V8, V9, V10⟩ := hmove _ _ FX2 FM2 h19 hu hb
      have G3 : fMM m0 z3 := FM2.tr (V4.sub (fun i h => by simp [uMi] at h; simp [h]) (fun a h => by simp [uMa] at h; simp [sMa9, h]))
      rw [V2, Option.bind_some]
      have z8 : gI z3 8 = gI z 8 := V4.1 8 rfl
      have hl3 : ∀ Y : ST, gI Y 1 = gI y 1 → gI Y 2 = gI y 2 → gA Y 20 = gA y 20 → RLogB B (gI Y 1) (gI Y 2) (gI z3 8) (gA Y 20) (gA z3 20) (gA z3 21) (gA z3 22) := by
        intro Y a1 a2 a3
        rw [a1, a2, a3, z8, V4.2 20 rfl, V4.2 21 rfl, V4.2 22 rfl]
        exact hl
      have kp3 : ∀ Y : ST, gI Y 5 = gI y 5 → gI Y 6 = gI y 6 + 1 → gI Y 7 = g → RKeep (gI Y 5) (gI Y 6) (gI Y 7) (gI Y 8) (gI z3 5) (gI z3 6) (gI z3 7) (gI z3 8 + 1) := by
        intro Y a1 a2 a3
        rw [a1, a2, a3, z8, V4.1 5 rfl, V4.1 6 rfl, V4.1 7 rfl, k1]
        show RKeep 2 (gI y 6 + 1) g (gI Y 8) (gI z 5) g (gI z 7 + 1) (gI z 8 + 1)
        rw [s]
        exact ⟨rfl, e6, rfl, ⟨by decide, by decide⟩, fun q => absurd q (by decide), fun q => absurd q (by decide)⟩
      rcases hm1 with hmv | hmv
      · obtain ⟨_, _, hfp⟩ := hm2 hmv
        have same : ∀ p, p < 5 → gA y3 31 p = gA y 31 p := by
          intro p hp
          by_cases c : p < P
          · rw [V7 p c]; exact hfp p c
          · exact V8 p (by omega)
        refine ⟨sI (sI y 6 (gI y 6 + 1)) 7 g, z3, mv, ?_, rfl, FX2, G3, h12, h19, ?_, V10, kp3 _ rfl rfl rfl, hl3 _ rfl rfl rfl, Or.inl hmv, fun _ => ⟨q0, k1, hfp⟩⟩
        · intro kb v1 v4
          unfold bodyX fX3_now fX11_frames_78
          rw [Option.bind_some]
          simp only [Pg, Option.bind_some, if_true, k1, if_neg qn, if_pos hmv]
        · intro p hp
          show gA y 31 p = _
          rw [← V9 p hp, same p hp]
      · refine ⟨y3, z3, v, ?_, rfl, ?_, G3, ?_, ?_, V9, V10, kp3 _ (V3.1 5 rfl) (V3.1 6 rfl) (V3.1 7 rfl), hl3 _ (V3.1 1 rfl) (V3.1 2 rfl) (V3.2 20 rfl), V5, ?_⟩
        · intro kb v1 v4
          unfold bodyX fX3_now fX11_frames_78
          rw [Option.bind_some]
          have mn : ¬ mv = 0 := by rw [hmv]; exact one_ne
          simp only [Pg, Option.bind_some, if_true, k1, if_neg qn, if_neg mn, V1]
        · exact FX2.tr (V3.sub (fun i h => by simp [uXi, sXi] at h ⊢; omega) (fun a h => by simp [uXa, sXa] at h ⊢; omega))
        · rw [V3.1 12 rfl]; exact h12
        · rw [V3.2 19 rfl]; exact h19
        · intro hv
          refine ⟨q0, by rw [V3.1 5 rfl]; exact k1, ?_⟩
          have hfp := V6 hv
          have same : ∀ p, p < P → gA y3 31 p = gA y 31 p := fun p hp => by rw [V7 p hp]; exact hfp p hp
          intro p hp
          rw [hFn _ (gA y 31) same, same p hp]
          exact hfp p hp
  · -- lost
    rw [s] at k1
    rw [k1] at Pg
    have hmv := mvs 3 k1 (by decide)
    obtain ⟨kf, kg, kh⟩ := k6 s
    have gb := KP_b hg (b := 4) (by rw [k3]; exact kg) (by decide)
    have t5 : (5 : Int32).toInt = 5 := by decide
    have t20 : (20 : Int32).toInt = 20 := by decide
    have tf : (gI z 7 + 1).toInt = (gI z 7).toInt + 1 := by obtain ⟨q1, q2⟩ := kh; exact ti1 (by omega) (by omega)
    rw [if_neg (show ¬ (3 : Int32) = 1 by decide), if_neg (show ¬ (3 : Int32) = 2 by decide), if_pos (show (3 : Int32) = 3 from rfl)] at Pg
    rw [s, if_neg (show ¬ (3 : Int32) = 1 by decide), if_neg (show ¬ (3 : Int32) = 2 by decide), if_pos (show (3 : Int32) = 3 from rfl)]
    unfold fX3_search at Pg
    simp only [show gI (sI (sI (sI y 6 (gI y 6 + 1)) 7 g) 8 (gI (sI (sI y 6 (gI y 6 + 1)) 7 g) 8 + 1)) 7 = g from rfl, show gI (sI (sI (sI y 6 (gI y 6 + 1)) 7 g) 8 (gI (sI (sI y 6 (gI y 6 + 1)) 7 g) 8 + 1)) 8 = gI y 8 + 1 from rfl] at Pg
    by_cases c : g = 5
    · rw [if_neg (by rw [c]; decide)] at Pg
      unfold fX3_enter at Pg
      rw [Option.bind_some, if_pos zb0, Option.bind_some] at Pg
      simp only [if_pos zb0] at Pg
      rw [if_pos c]
      unfold fX12_become
      rw [Option.bind_some]
      refine ⟨_, _, mv, bodyX_n (g := g) Pg (by rw [k1]; decide), rfl, (((FX2.sI rfl _).sI rfl _).sI rfl _).sI rfl _, ((FM2.sI rfl _).sI rfl _).sI rfl _, h12, h19, hu, hb, ?_, hl, hm1, fun q => absurd (q.symm.trans hmv) (by decide)⟩
      show RKeep 2 (gI y 6 + 1) 0 0 2 0 0 (gI z 8 + 1)
      exact ⟨rfl, e6, rfl, ⟨by decide, by decide⟩, fun q => absurd q (by decide), fun q => absurd q (by decide)⟩
    · have hlt : g.toInt < 5 := by
        obtain ⟨q1, q2⟩ := gb
        rcases (show g.toInt < 5 ∨ g.toInt = 5 by omega) with q | q
        · exact q
        · exact absurd (Int32.toInt_inj.mp (q.trans t5.symm)) c
      rw [if_pos (by rw [Int32.lt_iff_toInt_lt, t5]; exact hlt)] at Pg
      rw [if_neg c]
      by_cases d : gI z 7 + 1 = 20
      · rw [kf, if_pos (by rw [d]; exact Int32.le_refl _)] at Pg
        unfold fX3_enter at Pg
        rw [Option.bind_some, if_pos zb1, Option.bind_some] at Pg
        simp only [if_pos zb1] at Pg
        rw [if_pos d]
        unfold fX12_become
        rw [Option.bind_some]
        obtain ⟨Z, hZ⟩ : ∃ Z, Z = sI (sI (sI (sI (sI z 6 g) 7 (gI (sI z 6 g) 7 + 1)) 5 0) 6 0) 7 0 := ⟨_, rfl⟩
        have L := z169 (z := Z) (lost := gI y0 12) 200 0 (by omega) (by omega)
        rw [zfill_0, sF_id] at L
        rw [← hZ, show fX12_frame_169 200 (gI y0 12) 0 Z = _ from L]
        have zz : ∀ (f : Nat → Int32) (p : Nat), p < 5 → zfill f 5 0 p = 0 := fun f p hp => by unfold zfill; rw [if_pos hp]
        have FZ : fMM m0 Z := by rw [hZ]; exact ((FM2.sI rfl _).sI rfl _).sI rfl _
        obtain ⟨Y, hY⟩ : ∃ Y, Y = sI (sI (sI (sI (sI (sI y 6 (gI y 6 + 1)) 7 g) 8 (gI y 8 + 1)) 5 0) 7 0) 8 0 := ⟨_, rfl⟩
        refine ⟨sF Y 31 (zfill (gA Y 31) 5 0), _, mv, ?_, rfl, ?_, FZ.sF rfl _, ?_, ?_, ?_, ?_, ?_, ?_, hm1, fun q => absurd (q.symm.trans hmv) (by decide)⟩
        · intro kb v1 v4
          unfold bodyX fX3_now fX11_frames_78 fX6_level
          rw [Option.bind_some]
          simp only [Pg, Option.bind_some, if_neg one_ne, k1, if_neg (show ¬ (3 : Int32) = 2 by decide)]
          rw [hY]
          rfl
        · have : fXX x0 Y := by rw [hY]; exact (((FX2.sI rfl _).sI rfl _).sI rfl _).sI rfl _
          exact this.sF rfl _
        · rw [hY]; exact h12
        · rw [hY]; exact h19
        · intro p hp
          show zfill (gA Y 31) 5 0 p = zfill (gA Z 19) 5 0 p
          rw [zz _ p hp, zz _ p hp]
        · intro p hp
          show sqi (zfill (gA Z 19) 5 0 p) ≤ _
          rw [zz _ p hp]
          have : 0 ≤ sqi (gA m0 19 p) := sq0 _
          show (0 : Int32).toInt * (0 : Int32).toInt ≤ _
          rw [show (0 : Int32).toInt = 0 by decide]
          omega
        · rw [hY, hZ]
          show RKeep 0 (gI y 6 + 1) 0 0 0 0 0 (gI z 8 + 1)
          exact ⟨rfl, e6, rfl, ⟨by decide, by decide⟩, fun q => absurd q (by decide), fun q => absurd q (by decide)⟩
        · rw [hY, hZ]; exact hl
      · have nle : ¬ (20 : Int32) ≤ gI z 7 + 1 := by
          intro q
          rw [Int32.le_iff_toInt_le, t20, tf] at q
          obtain ⟨q1, q2⟩ := kh
          exact d (Int32.toInt_inj.mp (by rw [tf, t20]; omega))
        rw [kf, if_neg nle, if_pos zb0, Option.bind_some] at Pg
        simp only [if_pos zb0] at Pg
        rw [if_neg d]
        refine ⟨_, _, mv, bodyX_n (g := g) Pg (by rw [k1]; decide), rfl, FX2.sI rfl _, FM2, h12, h19, hu, hb, ?_, hl, hm1, fun q => absurd (q.symm.trans hmv) (by decide)⟩
        show RKeep (gI y 5) (gI y 6 + 1) g (gI y 8 + 1) (gI z 5) g (gI z 7 + 1) (gI z 8 + 1)
        rw [k1, s, kf]
        refine ⟨rfl, e6, rfl, ⟨by decide, by decide⟩, fun q => absurd q (by decide), fun q => ⟨rfl, ⟨gb.1, by omega⟩, ?_⟩⟩
        obtain ⟨q1, q2⟩ := kh
        unfold inb
        rw [tf]
        refine ⟨by omega, ?_⟩
        rcases (show (gI z 7).toInt < 19 ∨ (gI z 7).toInt = 19 by omega) with q | q
        · omega
        · exact absurd (Int32.toInt_inj.mp (by rw [tf, t20]; omega)) d

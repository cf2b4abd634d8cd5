/-! both go through the parts -/
def bt (A : Nat → Nat) : Nat → Int32
  | 0 => 0
  | n + 1 => bt A n ||| ((1 : Int32) <<< (nI (A n) &&& 31))
theorem bt_c {A B : Nat → Nat} : ∀ {n : Nat}, (∀ i, i < n → A i = B i) → bt A n = bt B n
  | 0, _ => rfl
  | n + 1, h => by
    unfold bt
    rw [bt_c (n := n) (fun i hi => h i (by omega)), h n (by omega)]
def SN (C D : Nat → Int32) (n : Nat) (A : Nat → Nat) (p : Nat) : Prop := n + dc D p ≤ p ∧ (∀ i, i < n → A i < p ∧ D (A i) = 0) ∧ (∀ i j, i < n → j < n → A i = A j → i = j) ∧ 0 < mz (GA C A) n (2 ^ n - 1)
def fX (x y : ST) : Prop := fr (fun i => i == 0) (fun a => a == 14 || a == 19) x y
def fM (x y : ST) : Prop := fr (fun i => i == 2 || i == 3) (fun a => a == 12) x y
def IX (C : Nat → Int32) (x y : ST) (n : Nat) (A : Nat → Nat) (p : Nat) : Prop := fX x y ∧ gI y 0 = nI n ∧ (∀ i, i < n → gA y 14 i = nI (A i)) ∧ (∀ r c, r < n → c < n → gB y 15 (6 * r + c) = Int64.ofInt (GA C A r c)) ∧ (∀ q, q < p → gB y 17 q = 0 ∧ gB y 18 q = 1 ∧ gA y 19 q = 0)
def IM (C σ : Nat → Int32) (m y : ST) (n : Nat) (A : Nat → Nat) : Prop := fM m y ∧ gB y 11 = gB m 11 ∧ gI y 2 = nI n ∧ gI y 3 = bt A n ∧ (∀ i, i < n → gA y 12 i = nI (A i)) ∧ (∀ r c, r < n → c < n → gB y 13 (6 * r + c) = Int64.ofInt (GA C A r c)) ∧ (∀ r, r < n → gB y 13 (6 * r + 5) = Int64.ofInt (slZ C σ (A r)))
/-- what holds of the two states where the columns stand -/
def KX (C σ D : Nat → Int32) (P : Nat) (x : ST) : Prop := (∀ j, j < 40 → gA x 12 j = C j ∧ inb (C j) (-45) 45) ∧ (∀ j, j < 8 → gA x 13 j = σ j ∧ inb (σ j) (-3000) 3000) ∧ gI x 9 = nI P ∧ 1 ≤ P ∧ P ≤ 5 ∧ (∀ i, i < 5 → gA x 30 i = D i ∧ (D i = 0 ∨ D i = 1)) ∧ D 0 = 0
def KM (C σ D L : Nat → Int32) (S P : Nat) (m : ST) : Prop := (∀ j, j < 40 → gB m 11 j = (C j).toInt64) ∧ (∀ j, S ≤ j % 8 → C j = 0) ∧ gI m 0 = nI S ∧ S ≤ 8 ∧ gI m 1 = nI P ∧ (∀ i, i < 5 → gA m 10 i = D i) ∧ (∀ (q : Nat) (y : ST), q < S → gA y 1 = gA m 1 → gA y 4 = gA m 4 → fX12_isLost (nI q) y = some (L q, y)) ∧ (∀ (q : Nat) (y : ST), q < S → gA y 1 = gA m 1 → gA y 4 = gA m 4 → gA y 2 = gA m 2 → L q = 0 → fX12_slopeOf (nI q) y = some (σ q, y)) ∧ (∀ q, q < S → L q ≠ 0 → σ q = 0)
theorem r01 : rA 0 1 = 0 ∧ rB 0 1 = 1 ∧ nw 0 1 = 0 := by decide +kernel
theorem set01 {x : ST} {p : Nat} (hp : p < 5) : fX0_setBend (nI p) 0 1 x = some (sA (sB (sB x 17 (nI p) 0) 18 (nI p) 1) 19 (nI p) 0) := by
  rw [setb_x hp (by decide) (by decide), r01.1, r01.2.1, r01.2.2]
theorem keep5 {w : ST} {a v : Int32} {f f' : Nat → Int64} {P : Nat} (h : ∀ q, q < P → gB w 17 q = 0 ∧ gB w 18 q = 1 ∧ gA w 19 q = 0) : ∀ q, q < P → gB (sH (sH (sA w 14 a v) 15 f) 16 f') 17 q = 0 ∧ gB (sH (sH (sA w 14 a v) 15 f) 16 f') 18 q = 1 ∧ gA (sH (sH (sA w 14 a v) 15 f) 16 f') 19 q = 0 := by
  intro q hq
  obtain ⟨a1, a2, a3⟩ := h q hq
  refine ⟨?_, ?_, ?_⟩
  · rw [show gB (sH (sH (sA w 14 a v) 15 f) 16 f') 17 = gB w 17 from rfl]; exact a1
  · rw [show gB (sH (sH (sA w 14 a v) 15 f) 16 f') 18 = gB w 18 from rfl]; exact a2
  · rw [show gA (sH (sH (sA w 14 a v) 15 f) 16 f') 19 = gA w 19 from rfl]; exact a3
theorem keep5' {w : ST} {k : Nat} {v : Int32} {P : Nat} (h : ∀ q, q < P → gB w 17 q = 0 ∧ gB w 18 q = 1 ∧ gA w 19 q = 0) : ∀ q, q < P → gB (sI w k v) 17 q = 0 ∧ gB (sI w k v) 18 q = 1 ∧ gA (sI w k v) 19 q = 0 := h
theorem lock {C σ D L : Nat → Int32} {S P : Nat} {x m : ST} (hX : KX C σ D P x) (hM : KM C σ D L S P m) : ∀ (N N' p n : Nat) (A : Nat → Nat) (y z : ST), p ≤ P → P < N + p → P < N' + p → SN C D n A p → IX C x y n A p → IM C σ m z n A → ∃ (n' : Nat) (A' : Nat → Nat) (y' z' : ST), fX0_find_20 N (nI p) y = fX0_find_58 y' ∧ fX12_findColumns_119 N' (nI p) z = some z' ∧ SN C D n' A' P ∧ IX C x y' n' A' P ∧ IM C σ m z' n' A' := by
  obtain ⟨x1, x2, x3, x4, x5, x6, x7⟩ := hX
  obtain ⟨m1, m2, m3, m4, m5, m6, m7, m8, m9⟩ := hM
  intro N
  induction N with
  | zero => intro N' p n A y z h1 h2; omega
  | succ N ih =>
    intro N' p n A y z h1 h2 h3 hS hY hZ
    obtain ⟨N3, rfl⟩ := Nat.exists_eq_succ_of_ne_zero (by omega : N' ≠ 0)
    obtain ⟨s1, s2, s3, s4⟩ := hS
    obtain ⟨y1, y2, y3, y4, y5⟩ := hY
    obtain ⟨z1, z2, z3, z4, z5, z6, z7⟩ := hZ
    rw [fX0_find_20, fX12_findColumns_119]
    unfold fX6_count
    rw [Option.bind_some]
    simp only [y1.1 9 rfl, z1.1 1 rfl, x3, m5]
    by_cases c : P ≤ p
    · have : p = P := by omega
      subst this
      rw [if_pos (nI_le c (by omega)), if_pos (nI_le c (by omega))]
      exact ⟨n, A, y, z, rfl, rfl, ⟨s1, s2, s3, s4⟩, ⟨y1, y2, y3, y4, y5⟩, ⟨z1, z2, z3, z4, z5, z6, z7⟩⟩
    · have hp : p < 5 := by omega
      rw [if_neg (nI_ge (by omega) (by omega)), if_neg (nI_ge (by omega) (by omega)), set01 hp, Option.bind_some]
      generalize hw : sA (sB (sB y 17 (nI p) 0) 18 (nI p) 1) 19 (nI p) 0 = w
      have w1 : fX x w := by rw [← hw]; exact (y1.sB _ _ _ |>.sB _ _ _).sA rfl _ _
      have w2 : gI w 0 = nI n := by rw [← hw]; exact y2
      have w3 : ∀ i, i < n → gA w 14 i = nI (A i) := by rw [← hw]; exact y3
      have w4 : ∀ r c, r < n → c < n → gB w 15 (6 * r + c) = Int64.ofInt (GA C A r c) := by rw [← hw]; exact y4
      have w5 : ∀ q, q < p + 1 → gB w 17 q = 0 ∧ gB w 18 q = 1 ∧ gA w 19 q = 0 := by
        intro q hq
        rw [← hw]
        show vp_updL (gB y 17) (nI p).toNatClampNeg 0 q = 0 ∧ vp_updL (gB y 18) (nI p).toNatClampNeg 1 q = 1 ∧ upd (gA y 19) (nI p).toNatClampNeg 0 q = 0
        rw [cl_nI (by omega), updL_eq, updL_eq, upd_eq]
        by_cases e : q = p
        · rw [if_pos e, if_pos e, if_pos e]; exact ⟨rfl, rfl, rfl⟩
        · rw [if_neg e, if_neg e, if_neg e]; exact y5 q (by omega)
      unfold fX6_isDead
      rw [if_pos (ix_nI hp (by decide)), cl_nI (by omega), w1.2 30 rfl, (x6 p hp).1, if_pos (zb_of (x6 p hp).2), Option.bind_some]
      have dz : gA z 10 p = D p := by rw [z1.2 10 rfl]; exact m6 p hp
      rw [if_pos (ix_nI hp (by decide)), dz]
      by_cases d : D p = 0
      · simp only [if_pos d]
        have hd : dc D (p + 1) = dc D p := by rw [dc, if_pos d]; rfl
        have hn : n < 5 := by omega
        have hA5 : ∀ i, i < n → A i < 5 := fun i hi => by have := (s2 i hi).1; omega
        obtain ⟨f, f', F1, F2⟩ := cons_x (y := w) (C := C) (A := A) (n := n) (p := p) hn hp w2 (fun i hi => ⟨w3 i hi, hA5 i hi⟩) (by rw [w1.2 12 rfl]; exact x1) w4
        rw [z3, if_pos (ix_nI hn (by decide))]
        obtain ⟨g, g', G1, G2, G3⟩ := cons_m (m := z) (C := C) (σ := σ) (L := L) (A := A) (n := n) (p := p) (S := S) (kb := fX12_findColumns_119 N3) hn hp m4 (by rw [z1.1 0 rfl]; exact m3) z3 (fun i hi => ⟨z5 i hi, hA5 i hi⟩) (by rw [z2]; exact m1) m2 (by rw [z1.2 1 rfl, z1.2 4 rfl]; exact m7) (by rw [z1.2 1 rfl, z1.2 4 rfl, z1.2 2 rfl]; exact m8) m9 z6 z7
        rw [G3, F2, Option.bind_some]
        unfold fX0_find_52
        rw [nI_1]
        by_cases q : Int64.ofInt (mz (GA C (nxt A n p)) (n + 1) (2 ^ (n + 1) - 1)) = 0
        · rw [if_pos q, if_pos q]
          apply ih N3 (p + 1) n A _ _ (by omega) (by omega) (by omega)
          · exact ⟨by omega, fun i hi => ⟨by have := (s2 i hi).1; omega, (s2 i hi).2⟩, s3, s4⟩
          · refine ⟨(w1.sA rfl _ _).sH _ _ |>.sH _ _, w2, ?_, ?_, keep5 w5⟩
            · intro i hi
              show upd (gA w 14) (nI n).toNatClampNeg (nI p) i = _
              rw [cl_nI (by omega), upd_n (by omega)]
              exact w3 i hi
            · intro r c hr hc
              show f (6 * r + c) = _
              rw [F1 r c (by omega) (by omega)]
              unfold GA
              rw [nxt_o (by omega), nxt_o (by omega)]
          · refine ⟨(z1.sA rfl _ _).sH _ _ |>.sH _ _, z2, z3, z4, ?_, ?_, ?_⟩
            · intro i hi
              show upd (gA z 12) (nI n).toNatClampNeg (nI p) i = _
              rw [cl_nI (by omega), upd_n (by omega)]
              exact z5 i hi
            · intro r c hr hc
              show g (6 * r + c) = _
              rw [G1 r c (by omega) (by omega)]
              unfold GA
              rw [nxt_o (by omega), nxt_o (by omega)]
            · intro r hr
              show g (6 * r + 5) = _
              rw [G2 r (by omega), nxt_o (by omega)]
        · rw [if_neg q, if_neg q]
          apply ih N3 (p + 1) (n + 1) (nxt A n p) _ _ (by omega) (by omega) (by omega)
          · refine ⟨by omega, ?_, ?_, D_pos hn (by rw [D_nxt (by omega)]; exact s4) (oi_ne q)⟩
            · intro i hi
              by_cases e : i = n
              · rw [e, nxt_n]; exact ⟨by omega, d⟩
              · rw [nxt_o e]; exact ⟨by have := (s2 i (by omega)).1; omega, (s2 i (by omega)).2⟩
            · intro i j hi hj he
              by_cases e1 : i = n
              · by_cases e2 : j = n
                · omega
                · rw [e1, nxt_n, nxt_o e2] at he
                  have := (s2 j (by omega)).1
                  omega
              · by_cases e2 : j = n
                · rw [e2, nxt_n, nxt_o e1] at he
                  have := (s2 i (by omega)).1
                  omega
                · rw [nxt_o e1, nxt_o e2] at he
                  exact s3 i j (by omega) (by omega) he
          · refine ⟨((w1.sA rfl _ _).sH _ _ |>.sH _ _).sI rfl _, rfl, ?_, F1, keep5' (keep5 w5)⟩
            intro i hi
            show upd (gA w 14) (nI n).toNatClampNeg (nI p) i = _
            rw [cl_nI (by omega), upd_eq]
            by_cases e : i = n
            · rw [if_pos e, e, nxt_n]
            · rw [if_neg e, nxt_o e]; exact w3 i (by omega)
          · refine ⟨(((z1.sA rfl _ _).sH _ _ |>.sH _ _).sI rfl _).sI rfl _, z2, rfl, ?_, ?_, G1, G2⟩
            · show gI z 3 ||| ((1 : Int32) <<< (nI p &&& 31)) = bt (nxt A n p) (n + 1)
              rw [bt, nxt_n, z4, bt_c (B := nxt A n p) (fun i hi => (nxt_o (by omega)).symm)]
            · intro i hi
              show upd (gA z 12) (nI n).toNatClampNeg (nI p) i = _
              rw [cl_nI (by omega), upd_eq]
              by_cases e : i = n
              · rw [if_pos e, e, nxt_n]
              · rw [if_neg e, nxt_o e]; exact z5 i (by omega)
      · simp only [if_neg d]
        have hd : dc D (p + 1) = dc D p + 1 := by rw [dc, if_neg d]
        unfold fX0_find_52 fX12_findColumns_272
        rw [nI_1]
        exact ih N3 (p + 1) n A w z (by omega) (by omega) (by omega) ⟨by omega, fun i hi => ⟨by have := (s2 i hi).1; omega, (s2 i hi).2⟩, s3, s4⟩ ⟨w1, w2, w3, w4, w5⟩ ⟨z1, z2, z3, z4, z5, z6, z7⟩

/-! pure rows: numbers, the state's reads and writes -/
theorem zb0 : zb01 0 = true := by decide
theorem zb1 : zb01 1 = true := by decide
def wb (v lo hi : Int32) : Int32 := if v < lo then 0 else if hi < v then 0 else 1
theorem wi (v lo hi : Int32) : fX11_within v lo hi = some (wb v lo hi) := by
  unfold fX11_within wb
  rw [if_pos zb0, if_pos zb1]
  by_cases h1 : v < lo
  · rw [if_pos h1, if_pos h1]
  · rw [if_neg h1, if_neg h1]
    by_cases h2 : hi < v
    · rw [if_pos h2, if_pos h2]
    · rw [if_neg h2, if_neg h2]
theorem in_eq {v : Int32} (lo hi : Int32) (a b : Int64) (ha : lo.toInt64 = a) (hb : hi.toInt64 = b) : fX12_in v.toInt64 a b = some (wb v lo hi) := by
  subst ha; subst hb
  unfold fX12_in wb
  rw [if_pos zb0, if_pos zb1]
  have e : ∀ p q : Int32, (p.toInt64 < q.toInt64) = (p < q) := fun p q => by
    apply propext
    rw [Int64.lt_iff_toInt_lt, Int32.lt_iff_toInt_lt, Int32.toInt_toInt64, Int32.toInt_toInt64]
  simp only [e]
  by_cases h1 : v < lo
  · rw [if_pos h1, if_pos h1]
  · rw [if_neg h1, if_neg h1]
    by_cases h2 : hi < v
    · rw [if_pos h2, if_pos h2]
    · rw [if_neg h2, if_neg h2]
theorem wb01 (v lo hi : Int32) : zb01 (wb v lo hi) = true := by
  unfold wb
  split
  · exact zb0
  · split
    · exact zb0
    · exact zb1
theorem wb_c (v lo hi : Int32) : wb v lo hi = 0 ∨ (wb v lo hi = 1 ∧ lo.toInt ≤ v.toInt ∧ v.toInt ≤ hi.toInt) := by
  unfold wb
  by_cases h1 : v < lo
  · rw [if_pos h1]; exact Or.inl rfl
  · rw [if_neg h1]
    by_cases h2 : hi < v
    · rw [if_pos h2]; exact Or.inl rfl
    · rw [if_neg h2]
      rw [Int32.lt_iff_toInt_lt] at h1 h2
      exact Or.inr ⟨rfl, by omega, by omega⟩
theorem wb_1 {v lo hi : Int32} (h1 : lo.toInt ≤ v.toInt) (h2 : v.toInt ≤ hi.toInt) : wb v lo hi = 1 := by
  unfold wb
  rw [if_neg (by rw [Int32.lt_iff_toInt_lt]; omega), if_neg (by rw [Int32.lt_iff_toInt_lt]; omega)]
theorem wb_0 {v lo hi : Int32} (h : v.toInt < lo.toInt ∨ hi.toInt < v.toInt) : wb v lo hi = 0 := by
  unfold wb
  by_cases h1 : v < lo
  · rw [if_pos h1]
  · rw [if_neg h1, if_pos (by rw [Int32.lt_iff_toInt_lt] at *; omega)]
theorem nI_of_toInt {v : Int32} (h : 0 ≤ v.toInt) : v = nI v.toInt.toNat := by
  apply Int32.toInt_inj.mp
  rw [nI_toInt (by have := v.toInt_lt; omega)]
  omega
/-- a number that was looked at: it isn't in 0 .. n - 1, or it is the index j -/
theorem wb_n (v hi : Int32) (n : Nat) (e : hi.toInt = (n : Int) - 1) : wb v 0 hi = 0 ∨ (wb v 0 hi = 1 ∧ ∃ j : Nat, j < n ∧ v = nI j) := by
  rcases wb_c v 0 hi with h | ⟨h, h1, h2⟩
  · exact Or.inl h
  · have h0 : (0 : Int32).toInt = 0 := by decide
    rw [h0] at h1
    exact Or.inr ⟨h, v.toInt.toNat, by omega, nI_of_toInt h1⟩
theorem one_ne : ¬ (1 : Int32) = 0 := by decide
theorem nI_m1 {n : Nat} (h : n < 2 ^ 30) : (nI n - 1).toInt = (n : Int) - 1 := pk_sub_toInt (b := 1) h (by decide)
theorem ix_nI {j n : Nat} (h : j < n) (hn : n < 2 ^ 31) : ixok (nI j) n = true := ixok_of (vp_in_nI h hn)
theorem cl_nI {j : Nat} (h : j < 2 ^ 31) : (nI j).toNatClampNeg = j := nI_clamp h
theorem upd_s {f : Nat → Int32} {k : Nat} {v : Int32} : upd f k v k = v := by simp [upd]
theorem upd_n {f : Nat → Int32} {k j : Nat} {v : Int32} (h : j ≠ k) : upd f k v j = f j := by simp [upd, h]
theorem upd_eq (f : Nat → Int32) (k : Nat) (v : Int32) (j : Nat) : upd f k v j = if j = k then v else f j := by
  by_cases h : j = k
  · subst h; simp [upd]
  · simp [upd, h]
theorem updL_eq (f : Nat → Int64) (k : Nat) (v : Int64) (j : Nat) : vp_updL f k v j = if j = k then v else f j := rfl
theorem nar0 : vp_nar .boolean 0 = 0 := by decide
theorem nar1 : vp_nar .boolean 1 = 1 := by decide
/-! the relation between the class's state x and the reference's state m after k calls -/
theorem bm32 {a : Int} (h1 : -2147483648 ≤ a) (h2 : a ≤ 2147483647) : a.bmod (2 ^ 32) = a := Int.bmod_eq_of_le (by omega) (by omega)
theorem bm64 {a : Int} (h1 : -9223372036854775808 ≤ a) (h2 : a ≤ 9223372036854775807) : a.bmod (2 ^ 64) = a := Int.bmod_eq_of_le (by omega) (by omega)
theorem ti_neg {a : Int32} (h : -2147483648 < a.toInt) : (-a).toInt = -a.toInt := by
  rw [Int32.toInt_neg]
  have := a.toInt_lt
  exact bm32 (by omega) (by omega)
theorem ti_add {a b : Int32} (h1 : -2147483648 ≤ a.toInt + b.toInt) (h2 : a.toInt + b.toInt ≤ 2147483647) : (a + b).toInt = a.toInt + b.toInt := by
  rw [Int32.toInt_add]
  exact bm32 h1 h2
theorem ti_sub {a b : Int32} (h1 : -2147483648 ≤ a.toInt - b.toInt) (h2 : a.toInt - b.toInt ≤ 2147483647) : (a - b).toInt = a.toInt - b.toInt := by
  rw [Int32.toInt_sub]
  exact bm32 h1 h2
theorem ti_mul {a b : Int32} (h1 : -2147483648 ≤ a.toInt * b.toInt) (h2 : a.toInt * b.toInt ≤ 2147483647) : (a * b).toInt = a.toInt * b.toInt := by
  rw [Int32.toInt_mul]
  exact bm32 h1 h2
theorem ti_div {a b : Int32} (ha : -2147483648 < a.toInt) : (a / b).toInt = a.toInt.tdiv b.toInt := by
  rw [Int32.toInt_div]
  have h1 := a.toInt_lt
  have h3 : (a.toInt.tdiv b.toInt).natAbs ≤ a.toInt.natAbs := by
    rw [Int.natAbs_tdiv]
    exact Nat.div_le_self _ _
  exact bm32 (by omega) (by omega)
def inb (v : Int32) (lo hi : Int) : Prop := lo ≤ v.toInt ∧ v.toInt ≤ hi
def RCount (a b c d : Int32) : Prop := a = b ∧ c = d ∧ inb a 1 8 ∧ inb c 1 5
def REq (n : Nat) (lo hi : Int) (f g : Nat → Int32) : Prop := ∀ j, j < n → f j = g j ∧ inb (g j) lo hi
def RSet (f g lo hi : Nat → Int32) : Prop := ∀ j, j < 7 → f j = g j ∧ lo j = zlow j ∧ hi j = zhigh j ∧ (zlow j).toInt ≤ (g j).toInt ∧ (g j).toInt ≤ (zhigh j).toInt
/-- sums and extremes over the first c pokes -/
def psum (f : Nat → Int32) : Nat → Int32
  | 0 => 0
  | n + 1 => psum f n + f n
def pmax (f : Nat → Int32) : Nat → Int32
  | 0 => -1000
  | n + 1 => if pmax f n < f n then f n else pmax f n
def pmin (f : Nat → Int32) : Nat → Int32
  | 0 => 1000
  | n + 1 => if f n < pmin f n then f n else pmin f n
def RPoke (s : Int32) (ch gr le bys pk : Nat → Int32) (many by_ pokes : Nat → Int32) : Prop := ∀ p, p < 5 → ∃ c : Nat, c ≤ 9 ∧ pk p = nI c ∧ many p = nI c ∧ (∀ j, j < c → inb (by_ (9 * p + j)) 1 99) ∧ (c ≠ 0 → bys p = psum (fun j => by_ (9 * p + j)) c ∧ ∀ q : Nat, nI q < s → q < 8 → (∀ j, j < c → inb (pokes (8 * (9 * p + j) + q)) (-999) 999) ∧ ch (5 * q + p) = psum (fun j => pokes (8 * (9 * p + j) + q)) c ∧ gr (5 * q + p) = pmax (fun j => pokes (8 * (9 * p + j) + q) / by_ (9 * p + j)) c ∧ le (5 * q + p) = pmin (fun j => pokes (8 * (9 * p + j) + q) / by_ (9 * p + j)) c)
def RDead (f g : Nat → Int32) : Prop := g 0 = 0 ∧ ∀ p, p < 5 → f p = g p ∧ (g p = 0 ∨ g p = 1)
def usq (f : Nat → Int32) : Int := (f 0).toInt * (f 0).toInt + (f 1).toInt * (f 1).toInt + (f 2).toInt * (f 2).toInt + (f 3).toInt * (f 3).toInt + (f 4).toInt * (f 4).toInt
def RUnits (k : Nat) (f g : Nat → Int32) : Prop := (∀ p, p < 5 → f p = g p) ∧ usq g ≤ 18000 + 18000 * k
def RKeep (st dn gd fl st' gd' fd' dn' : Int32) : Prop := st = st' ∧ dn = dn' ∧ gd = gd' ∧ inb st' 0 3 ∧ (st' = 1 → inb gd' 0 2) ∧ (st' = 3 → fl = fd' ∧ inb gd' 0 4 ∧ inb fd' 0 19)
def RLog (k : Nat) (kept next dn : Int32) (lines ls ll lu : Nat → Int32) : Prop := (∃ d : Nat, d ≤ 100 * k ∧ dn = nI d ∧ kept = nI (min d 30) ∧ next = nI (d % 30)) ∧ ∀ j, j < 30 → lines (3 * j) = ls j ∧ lines (3 * j + 1) = ll j ∧ lines (3 * j + 2) = lu j
def RSheet (lanes lens items lanes' sizes' items' : Nat → Int32) : Prop := ∀ s, s < 4 → (lens s = -1 ∧ lanes' s = -1) ∨ (∃ n : Nat, n ≤ 40 ∧ lens s = nI n ∧ sizes' s = nI n ∧ lanes s = lanes' s ∧ inb (lanes' s) 0 2 ∧ ∀ i, i < n → items (40 * s + i) = items' (40 * s + i))
def Rel (k : Nat) (x m : ST) : Prop :=
  RCount (gI x 11) (gI m 0) (gI x 9) (gI m 1) ∧ REq 128 0 255 (gA x 36) (gA m 1) ∧ REq 8 0 3000 (gA x 37) (gA m 2) ∧ RSet (gA x 32) (gA m 4) (gA m 5) (gA m 6) ∧ REq 40 (-9) 9 (gA x 41) (gA m 3) ∧
  RPoke (gI m 0) (gA x 42) (gA x 43) (gA x 44) (gA x 45) (gA x 46) (gA m 7) (gA m 8) (gA m 9) ∧ RDead (gA x 30) (gA m 10) ∧ RUnits k (gA x 31) (gA m 19) ∧ gI x 10 = gI m 4 ∧
  RKeep (gI x 5) (gI x 6) (gI x 7) (gI x 8) (gI m 5) (gI m 6) (gI m 7) (gI m 8) ∧ RLog k (gI x 1) (gI x 2) (gI m 8) (gA x 20) (gA m 20) (gA m 21) (gA m 22) ∧
  REq 10 (-50) 50 (gA x 27) (gA m 23) ∧ REq 96 (-99) 99 (gA x 25) (gA m 26) ∧ REq 3 (-31) 31 (gA x 26) (gA m 27) ∧ RSheet (gA x 33) (gA x 34) (gA x 35) (gA m 28) (gA m 29) (gA m 30)
theorem Rel.mono {k : Nat} {x m : ST} (h : Rel k x m) : Rel (k + 1) x m := by
  obtain ⟨h1, h2, h3, h4, h5, h6, h7, ⟨h8, h8b⟩, h9, h10, ⟨⟨d, hd, hd2⟩, h11⟩, h12⟩ := h
  exact ⟨h1, h2, h3, h4, h5, h6, h7, ⟨h8, by omega⟩, h9, h10, ⟨⟨d, by omega, hd2⟩, h11⟩, h12⟩

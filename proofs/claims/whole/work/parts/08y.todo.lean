/-- the answer r in both, the states x' and m' -/
def Ans (k : Nat) (f g : Option (Int32 × ST)) : Prop := ∃ (r : Int32) (x' m' : ST), f = some (r, x') ∧ g = some (r, m') ∧ Rel k x' m'
def AnsL (k : Nat) (f g : Option (Int64 × ST)) : Prop := ∃ (r : Int64) (x' m' : ST), f = some (r, x') ∧ g = some (r, m') ∧ Rel k x' m'
theorem op_mirror {k : Nat} {x m : ST} (h : Rel k x m) (hk : k < 512) (v1 v2 : Int32) : Ans (k + 1) (fX11_mirror v1 v2 x) (fX12_mirror v1 v2 m) := by
  sorry
theorem op_light {k : Nat} {x m : ST} (h : Rel k x m) (hk : k < 512) (v1 v2 v3 : Int32) : Ans (k + 1) (fX11_light v1 v2 v3 x) (fX12_light v1 v2 v3 m) := by
  sorry
theorem op_board {k : Nat} {x m : ST} (h : Rel k x m) (hk : k < 512) (v1 v2 v3 v4 : Int32) : Ans (k + 1) (fX11_board v1 v2 v3 v4 x) (fX12_board v1 v2 v3 v4 m) := by
  sorry
theorem op_set {k : Nat} {x m : ST} (h : Rel k x m) (hk : k < 512) (v1 v2 : Int32) : Ans (k + 1) (fX11_set v1 v2 x) (fX12_set v1 v2 m) := by
  sorry
theorem op_rest {k : Nat} {x m : ST} (h : Rel k x m) (hk : k < 512) (v1 v2 : Int32) : Ans (k + 1) (fX11_rest v1 v2 x) (fX12_rest v1 v2 m) := by
  sorry
theorem op_spot {k : Nat} {x m : ST} (h : Rel k x m) (hk : k < 512) (v1 v2 : Int32) : Ans (k + 1) (fX11_spot v1 v2 x) (fX12_spot v1 v2 m) := by
  sorry
theorem op_table {k : Nat} {x m : ST} (h : Rel k x m) (hk : k < 512) (v1 v2 v3 : Int32) : Ans (k + 1) (fX11_table v1 v2 v3 x) (fX12_table v1 v2 v3 m) := by
  sorry
theorem op_poke {k : Nat} {x m : ST} (h : Rel k x m) (hk : k < 512) (v1 v2 v3 v4 v5 : Int32) : Ans (k + 1) (fX11_poke v1 v2 v3 v4 v5 x) (fX12_poke v1 v2 v3 v4 v5 m) := by
  sorry
theorem op_told {k : Nat} {x m : ST} (h : Rel k x m) (hk : k < 512) (v1 v2 v3 : Int32) : Ans (k + 1) (fX11_told v1 v2 v3 x) (fX12_told v1 v2 v3 m) := by
  sorry
theorem op_dead {k : Nat} {x m : ST} (h : Rel k x m) (hk : k < 512) (v1 v2 : Int32) : Ans (k + 1) (fX11_dead v1 (if v2 = 0 then 0 else 1) x) (fX12_dead v1 (if v2 = 0 then 0 else 1) m) := by
  sorry
theorem op_seen {k : Nat} {x m : ST} (h : Rel k x m) (hk : k < 512) : Ans (k + 1) (fX11_seen  x) (fX12_seen  m) := by
  sorry
theorem op_bend {k : Nat} {x m : ST} (h : Rel k x m) (hk : k < 512) (v1 v2 : Int32) : AnsL (k + 1) (fX11_bend v1 v2 x) (fX12_bend v1 v2 m) := by
  sorry
theorem op_whole {k : Nat} {x m : ST} (h : Rel k x m) (hk : k < 512) (v1 : Int32) : Ans (k + 1) (fX11_whole v1 x) (fX12_whole v1 m) := by
  sorry
theorem op_nearest {k : Nat} {x m : ST} (h : Rel k x m) (hk : k < 512) (v1 : Int32) : Ans (k + 1) (fX11_nearest v1 x) (fX12_nearest v1 m) := by
  sorry
theorem op_off {k : Nat} {x m : ST} (h : Rel k x m) (hk : k < 512) : AnsL (k + 1) (fX11_off  x) (fX12_off  m) := by
  sorry
theorem op_start {k : Nat} {x m : ST} (h : Rel k x m) (hk : k < 512) : Ans (k + 1) (fX11_start  x) (fX12_start  m) := by
  sorry
theorem op_stop {k : Nat} {x m : ST} (h : Rel k x m) (hk : k < 512) : Ans (k + 1) (fX11_stop  x) (fX12_stop  m) := by
  sorry
theorem op_frames {k : Nat} {x m : ST} (h : Rel k x m) (hk : k < 512) (v1 : Int32) : Ans (k + 1) (fX11_frames v1 x) (fX12_frames v1 m) := by
  sorry
theorem op_state {k : Nat} {x m : ST} (h : Rel k x m) (hk : k < 512) (v1 : Int32) : Ans (k + 1) (fX11_state v1 x) (fX12_state v1 m) := by
  sorry
theorem op_units {k : Nat} {x m : ST} (h : Rel k x m) (hk : k < 512) (v1 v2 : Int32) : Ans (k + 1) (fX11_units v1 v2 x) (fX12_units v1 v2 m) := by
  sorry
theorem op_shed {k : Nat} {x m : ST} (h : Rel k x m) (hk : k < 512) : Ans (k + 1) (fX11_shed  x) (fX12_shed  m) := by
  sorry
theorem op_log {k : Nat} {x m : ST} (h : Rel k x m) (hk : k < 512) (v1 v2 : Int32) : Ans (k + 1) (fX11_log v1 v2 x) (fX12_log v1 v2 m) := by
  sorry
theorem op_loop {k : Nat} {x m : ST} (h : Rel k x m) (hk : k < 512) (v1 v2 v3 v4 v5 : Int32) : Ans (k + 1) (fX11_loop v1 v2 v3 v4 v5 x) (fX12_loop v1 v2 v3 v4 v5 m) := by
  sorry
theorem op_steady {k : Nat} {x m : ST} (h : Rel k x m) (hk : k < 512) (v1 : Int32) : Ans (k + 1) (fX11_steady v1 x) (fX12_steady v1 m) := by
  sorry
theorem op_unsteady {k : Nat} {x m : ST} (h : Rel k x m) (hk : k < 512) (v1 v2 : Int32) : Ans (k + 1) (fX11_unsteady v1 v2 x) (fX12_unsteady v1 v2 m) := by
  sorry
theorem op_cell {k : Nat} {x m : ST} (h : Rel k x m) (hk : k < 512) (v1 v2 v3 : Int32) : Ans (k + 1) (fX11_cell v1 v2 v3 x) (fX12_cell v1 v2 v3 m) := by
  sorry
theorem op_wind {k : Nat} {x m : ST} (h : Rel k x m) (hk : k < 512) (v1 v2 : Int32) : Ans (k + 1) (fX11_wind v1 v2 x) (fX12_wind v1 v2 m) := by
  sorry
theorem op_foretell {k : Nat} {x m : ST} (h : Rel k x m) (hk : k < 512) (v1 v2 : Int32) : Ans (k + 1) (fX11_foretell v1 v2 x) (fX12_foretell v1 v2 m) := by
  sorry
theorem op_guess {k : Nat} {x m : ST} (h : Rel k x m) (hk : k < 512) (v1 v2 v3 : Int32) : Ans (k + 1) (fX11_guess v1 v2 v3 x) (fX12_guess v1 v2 v3 m) := by
  sorry
theorem op_sheet {k : Nat} {x m : ST} (h : Rel k x m) (hk : k < 512) (v1 v2 v3 : Int32) : Ans (k + 1) (fX11_sheet v1 v2 v3 x) (fX12_sheet v1 v2 v3 m) := by
  sorry
theorem op_drop {k : Nat} {x m : ST} (h : Rel k x m) (hk : k < 512) (v1 : Int32) : Ans (k + 1) (fX11_drop v1 x) (fX12_drop v1 m) := by
  sorry
theorem op_item {k : Nat} {x m : ST} (h : Rel k x m) (hk : k < 512) (v1 v2 v3 v4 : Int32) : Ans (k + 1) (fX11_item v1 v2 v3 v4 x) (fX12_item v1 v2 v3 v4 m) := by
  sorry
theorem op_layer {k : Nat} {x m : ST} (h : Rel k x m) (hk : k < 512) (v1 v2 v3 v4 : Int32) : Ans (k + 1) (fX11_layer v1 v2 v3 v4 x) (fX12_layer v1 v2 v3 v4 m) := by
  sorry
theorem op_init : ∃ m0 : ST, fX12_init m00 = some m0 ∧ Rel 0 x00 m0 := by
  sorry

/-! THE MODEL'S CHART: a place of the actions in a pass. -/
/-- N in passes 0 and 1; S, R in pass 2 -/
def mc_one (o p i : Nat) (I : Nat → Nat → Int32) : Nat → Nat → Int32 :=
  if I 59 (48 * o + i) = 1 then (if p = 0 ∨ (p = 1 ∧ I 79 (i / 3) = 1) then ma_put I (48 * o + i) (nI p) else I)
  else if 1 < I 59 (48 * o + i) ∧ p = 2 ∧ I 79 (i / 3) = 1 then ma_put I (48 * o + i) (am_b01 (decide (I 59 (48 * o + i) = 2))) else I
theorem mc_237 (I : Nat → Nat → Int32) (J : Nat → Nat → Int64) (T : Nat → Nat → Nat) (L : Nat) (C : Nat × Nat) {o p i : Nat} (x1 x2 x3 : Int32) (on : Bool) (v7 : Value) (hp : p < 3) (ho : o < 2) (hi : i < 48) (h : I 59 (48 * o + i) ≤ 1) : am_E 148 237 [.ref 49, .int x1, .int x2, .int x3, .int (nI p), .int (nI (48 * o + i)), .int (am_b01 on), v7] [] (am_W I J T L C) = am_E 148 188 [.ref 49, .int x1, .int x2, .int x3, .int (nI p), .int (nI (48 * o + i + 1)), .int (am_b01 on), v7] [] (am_W I J T L C) := by
  rw [rg_148_237, am_inb_ok (by omega) (by decide), nI_clamp (by omega), if_pos h, rg_148_267, nI_1]

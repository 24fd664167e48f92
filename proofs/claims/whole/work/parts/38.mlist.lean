/-! THE MODEL'S LIST: the instruction and the next turn. -/
theorem ml_110 (I : Nat → Nat → Int32) (J : Nat → Nat → Int64) (T : Nat → Nat → Nat) (L : Nat) (C : Nat × Nat) (n p s x4 x5 : Int32) : am_E 147 110 [.ref 49, .int n, .int p, .int s, .int x4, .int x5] [] (am_W I J T L C) = if s = 0 then am_E 147 19 [.ref 49, .int n, .int p, .int 0, .int x4, .int x5] [] (am_W (am_up I 49 46 (I 49 46 + 1)) J T L C) else some (.int s, am_W (am_up I 49 46 (I 49 46)) J T L C) := by
  rw [rg_147_110]
  by_cases h : s = 0
  · subst h; rw [if_pos rfl, if_pos rfl]
  · rw [if_neg h, if_neg h, ml_stop _ _ _ _ _ _ _ _ _ _ h]
theorem ml_long (I : Nat → Nat → Int32) (J : Nat → Nat → Int64) (T : Nat → Nat → Nat) (L : Nat) (C : Nat × Nat) (n p x4 b : Int32) (v5 : Value) (h : I 49 46 = 500) : am_E 147 56 [.ref 49, .int n, .int p, .int 0, .int x4, v5] [.int b] (am_W I J T L C) = some (.int 3, am_W (am_up I 49 46 (I 49 46)) J T L C) := by
  rw [rg_147_56, if_pos h, ml_110, if_neg (by decide +kernel)]
theorem ml_act (I : Nat → Nat → Int32) (J : Nat → Nat → Int64) (T : Nat → Nat → Nat) (L : Nat) (C : Nat × Nat) {k p : Nat} (n b : Int32) (v5 : Value) {s : Int32} {I' : Nat → Nat → Int32} {J' : Nat → Nat → Int64} (hk : k < 160) (h : ¬ I 49 46 = 500) (h20 : ¬ I 51 k = 20) (h21 : ¬ I 51 k = 21) (ha : am_E 146 0 [.ref 49, .int (nI k), .null, .null] [] (am_W I J T L C) = some (.int s, am_W I' J' T L C)) : am_E 147 56 [.ref 49, .int n, .int (nI p), .int 0, .int (nI k), v5] [.int b] (am_W I J T L C) = if s = 0 then am_E 147 19 [.ref 49, .int n, .int (nI (p + 1)), .int 0, .int (nI k), .int b] [] (am_W (am_up I' 49 46 (I' 49 46 + 1)) J' T L C) else some (.int s, am_W (am_up I' 49 46 (I' 49 46)) J' T L C) := by
  rw [rg_147_56, if_neg h, am_inb_ok hk (by decide), nI_clamp (by omega), if_neg h20, am_inb_ok hk (by decide), if_neg h21, ha, am_okb, am_vIi, rg_147_108, nI_1, ml_110]
theorem ml_ret (I : Nat → Nat → Int32) (J : Nat → Nat → Int64) (T : Nat → Nat → Nat) (L : Nat) (C : Nat × Nat) {k p : Nat} (n : Int32) (b : Bool) (v5 : Value) (hk : k < 160) (h : ¬ I 49 46 = 500) (h21 : I 51 k = 21) : am_E 147 56 [.ref 49, .int n, .int (nI p), .int 0, .int (nI k), v5] [.int (am_b01 b)] (am_W I J T L C) = am_E 147 19 [.ref 49, .int n, .int (cond b n (nI (p + 1))), .int 0, .int (nI k), .int (am_b01 b)] [] (am_W (am_up I 49 46 (I 49 46 + 1)) J T L C) := by
  rw [rg_147_56, if_neg h, am_inb_ok hk (by decide), nI_clamp (by omega), h21, if_neg (by decide +kernel), am_inb_ok hk (by decide), if_pos rfl, am_if_b01, nI_1, rg_147_103, rg_147_103, ml_110, ml_110, if_pos rfl, if_pos rfl]
  cases b <;> rfl

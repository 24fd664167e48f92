/-! THE MODEL'S LIST: ends, and a turn up to its instruction. -/
def mo_so (h r : Int32) : Bool := if h = 4 then decide (r ≠ 0) else if h = 5 then decide (r = 0) else true
theorem mo_own {o : Nat} (p : Nat) (ho : o < 2) : 80 * nI o + nI p = nI (80 * o + p) := by
  have h : ∀ o, o < 2 → 80 * nI o = nI (80 * o) := by decide +kernel
  rw [h o ho, nI_add]
theorem ml_end (I : Nat → Nat → Int32) (J : Nat → Nat → Int64) (T : Nat → Nat → Nat) (L : Nat) (C : Nat × Nat) {n p : Nat} (s : Int32) (v4 v5 : Value) (h : n ≤ p) (hp : p < 2 ^ 31) : am_E 147 19 [.ref 49, .int (nI n), .int (nI p), .int s, v4, v5] [] (am_W I J T L C) = some (.int s, (am_W I J T L C)) := by
  rw [rg_147_19, if_pos (nI_le h hp)]
theorem ml_stop (I : Nat → Nat → Int32) (J : Nat → Nat → Int64) (T : Nat → Nat → Nat) (L : Nat) (C : Nat × Nat) (n p s : Int32) (v4 v5 : Value) (hs : ¬ s = 0) : am_E 147 19 [.ref 49, .int n, .int p, .int s, v4, v5] [] (am_W I J T L C) = some (.int s, (am_W I J T L C)) := by
  rw [rg_147_19, if_neg hs]
  by_cases h : n ≤ p
  · rw [if_pos h]
  · rw [if_neg h]
theorem ml_turn (I : Nat → Nat → Int32) (J : Nat → Nat → Int64) (T : Nat → Nat → Nat) (L : Nat) (C : Nat × Nat) {n p o : Nat} (v4 v5 : Value) (h : p < n) (hn : n ≤ 80) (ho : o < 2) (hO : I 49 22 = nI o) : am_E 147 19 [.ref 49, .int (nI n), .int (nI p), .int 0, v4, v5] [] (am_W I J T L C) = am_E 147 56 [.ref 49, .int (nI n), .int (nI p), .int 0, .int (nI (80 * o + p)), v5] [.int (am_b01 (mo_so (I 52 (80 * o + p)) (I 49 60)))] (am_W I J T L C) := by
  rw [rg_147_19, if_neg (nI_ge h (by omega)), if_pos rfl, hO, mo_own p ho, am_inb_ok (by omega) (by decide), am_inb_ok (by omega) (by decide), nI_clamp (by omega)]
  unfold mo_so
  by_cases h4 : I 52 (80 * o + p) = 4
  · rw [if_pos h4, if_pos h4]
    by_cases hr : I 49 60 = 0
    · rw [if_pos hr, decide_eq_false (fun e => e hr)]; rfl
    · rw [if_neg hr, decide_eq_true hr]; rfl
  · rw [if_neg h4, if_neg h4, rg_147_53]
    by_cases h5 : I 52 (80 * o + p) = 5
    · rw [if_pos h5, if_pos h5]
      by_cases hr : I 49 60 = 0
      · rw [if_pos hr, decide_eq_true hr]; rfl
      · rw [if_neg hr, decide_eq_false hr]; rfl
    · rw [if_neg h5, if_neg h5]; rfl

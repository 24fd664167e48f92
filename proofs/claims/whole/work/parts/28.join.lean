/-! THE MODEL'S SIGNS: made, join, signed. -/
theorem mo_made_0 (I : Nat → Nat → Int32) (J : Nat → Nat → Int64) (T : Nat → Nat → Nat) (L : Nat) (C : Nat × Nat) (x y : Int32) : am_E 141 0 [.int 0, .int x, .int y] [] (am_W I J T L C) = some (.int (x &&& y), (am_W I J T L C)) := (rg_141_0 I J T L C 0 x y).trans rfl
theorem mo_made_1 (I : Nat → Nat → Int32) (J : Nat → Nat → Int64) (T : Nat → Nat → Nat) (L : Nat) (C : Nat × Nat) (x y : Int32) : am_E 141 0 [.int 1, .int x, .int y] [] (am_W I J T L C) = some (.int (x ||| y), (am_W I J T L C)) := (rg_141_0 I J T L C 1 x y).trans rfl
theorem mo_made_2 (I : Nat → Nat → Int32) (J : Nat → Nat → Int64) (T : Nat → Nat → Nat) (L : Nat) (C : Nat × Nat) (x y : Int32) : am_E 141 0 [.int 2, .int x, .int y] [] (am_W I J T L C) = some (.int (x ^^^ y), (am_W I J T L C)) := (rg_141_0 I J T L C 2 x y).trans rfl
theorem mo_made_3 (I : Nat → Nat → Int32) (J : Nat → Nat → Int64) (T : Nat → Nat → Nat) (L : Nat) (C : Nat × Nat) (x y : Int32) : am_E 141 0 [.int 3, .int x, .int y] [] (am_W I J T L C) = some (.int (x + y), (am_W I J T L C)) := (rg_141_0 I J T L C 3 x y).trans rfl
theorem mo_made_4 (I : Nat → Nat → Int32) (J : Nat → Nat → Int64) (T : Nat → Nat → Nat) (L : Nat) (C : Nat × Nat) (x y : Int32) : am_E 141 0 [.int 4, .int x, .int y] [] (am_W I J T L C) = some (.int (x - y), (am_W I J T L C)) := (rg_141_0 I J T L C 4 x y).trans rfl
theorem mo_made_5 (I : Nat → Nat → Int32) (J : Nat → Nat → Int64) (T : Nat → Nat → Nat) (L : Nat) (C : Nat × Nat) (x y : Int32) : am_E 141 0 [.int 5, .int x, .int y] [] (am_W I J T L C) = some (.int (x * y), (am_W I J T L C)) := (rg_141_0 I J T L C 5 x y).trans rfl
theorem mo_made_6 (I : Nat → Nat → Int32) (J : Nat → Nat → Int64) (T : Nat → Nat → Nat) (L : Nat) (C : Nat × Nat) (x y : Int32) (h : ¬ y = 0) : am_E 141 0 [.int 6, .int x, .int y] [] (am_W I J T L C) = some (.int (x / y), (am_W I J T L C)) := by
  refine (rg_141_0 I J T L C 6 x y).trans ?_
  show (if y = 0 then none else some (Value.int (x / y), (am_W I J T L C))) = _
  rw [if_neg h]
theorem mo_made_7 (I : Nat → Nat → Int32) (J : Nat → Nat → Int64) (T : Nat → Nat → Nat) (L : Nat) (C : Nat × Nat) (x y : Int32) (h : ¬ y = 0) : am_E 141 0 [.int 7, .int x, .int y] [] (am_W I J T L C) = some (.int (x - x / y * y), (am_W I J T L C)) := by
  refine (rg_141_0 I J T L C 7 x y).trans ?_
  show (if y = 0 then none else some (Value.int (x - x / y * y), (am_W I J T L C))) = _
  rw [if_neg h]
theorem mo_made_8 (I : Nat → Nat → Int32) (J : Nat → Nat → Int64) (T : Nat → Nat → Nat) (L : Nat) (C : Nat × Nat) (x y : Int32) : am_E 141 0 [.int 8, .int x, .int y] [] (am_W I J T L C) = some (.int (am_b01 (decide (y < x))), (am_W I J T L C)) := by
  refine (rg_141_0 I J T L C 8 x y).trans ?_
  show (if x ≤ y then am_E 141 40 [.int 8, .int x, .int y] [.int 0] (am_W I J T L C) else am_E 141 40 [.int 8, .int x, .int y] [.int 1] (am_W I J T L C)) = _
  rw [rg_141_40, rg_141_40, mo_truth1, mo_truth0]
  by_cases h : x ≤ y
  · rw [if_pos h, decide_eq_false (Int32.not_lt.mpr h), am_okb, am_vIi, rg_141_41]; rfl
  · rw [if_neg h, decide_eq_true (Int32.not_le.mp h), am_okb, am_vIi, rg_141_41]; rfl
theorem mo_made_9 (I : Nat → Nat → Int32) (J : Nat → Nat → Int64) (T : Nat → Nat → Nat) (L : Nat) (C : Nat × Nat) (x y : Int32) : am_E 141 0 [.int 9, .int x, .int y] [] (am_W I J T L C) = some (.int (am_b01 (decide (y ≤ x))), (am_W I J T L C)) := by
  refine (rg_141_0 I J T L C 9 x y).trans ?_
  show (if x < y then am_E 141 48 [.int 9, .int x, .int y] [.int 0] (am_W I J T L C) else am_E 141 48 [.int 9, .int x, .int y] [.int 1] (am_W I J T L C)) = _
  rw [rg_141_48, rg_141_48, mo_truth1, mo_truth0]
  by_cases h : x < y
  · rw [if_pos h, decide_eq_false (Int32.not_le.mpr h), am_okb, am_vIi, rg_141_49]; rfl
  · rw [if_neg h, decide_eq_true (Int32.not_lt.mp h), am_okb, am_vIi, rg_141_49]; rfl
theorem mo_made_10 (I : Nat → Nat → Int32) (J : Nat → Nat → Int64) (T : Nat → Nat → Nat) (L : Nat) (C : Nat × Nat) (x y : Int32) : am_E 141 0 [.int 10, .int x, .int y] [] (am_W I J T L C) = some (.int (am_b01 (decide (x = y))), (am_W I J T L C)) := by
  refine (rg_141_0 I J T L C 10 x y).trans ?_
  show (if x = y then am_E 141 56 [.int 10, .int x, .int y] [.int 1] (am_W I J T L C) else am_E 141 56 [.int 10, .int x, .int y] [.int 0] (am_W I J T L C)) = _
  rw [rg_141_56, rg_141_56, mo_truth1, mo_truth0]
  by_cases h : x = y
  · rw [if_pos h, decide_eq_true h, am_okb, am_vIi, rg_141_57]; rfl
  · rw [if_neg h, decide_eq_false h, am_okb, am_vIi, rg_141_57]; rfl
theorem mo_made_11 (I : Nat → Nat → Int32) (J : Nat → Nat → Int64) (T : Nat → Nat → Nat) (L : Nat) (C : Nat × Nat) (x y : Int32) : am_E 141 0 [.int 11, .int x, .int y] [] (am_W I J T L C) = some (.int (am_b01 (decide (¬ x = y))), (am_W I J T L C)) := by
  refine (rg_141_0 I J T L C 11 x y).trans ?_
  show (if x = y then am_E 141 64 [.int 11, .int x, .int y] [.int 0] (am_W I J T L C) else am_E 141 64 [.int 11, .int x, .int y] [.int 1] (am_W I J T L C)) = _
  rw [rg_141_64, rg_141_64, mo_truth1, mo_truth0]
  by_cases h : x = y
  · rw [if_pos h, decide_eq_false (fun e => e h), am_okb, am_vIi, rg_141_65]; rfl
  · rw [if_neg h, decide_eq_true (h), am_okb, am_vIi, rg_141_65]; rfl
theorem mo_made_12 (I : Nat → Nat → Int32) (J : Nat → Nat → Int64) (T : Nat → Nat → Nat) (L : Nat) (C : Nat × Nat) (x y : Int32) : am_E 141 0 [.int 12, .int x, .int y] [] (am_W I J T L C) = some (.int (am_b01 (decide (x ≤ y))), (am_W I J T L C)) := by
  refine (rg_141_0 I J T L C 12 x y).trans ?_
  show (if y < x then am_E 141 72 [.int 12, .int x, .int y] [.int 0] (am_W I J T L C) else am_E 141 72 [.int 12, .int x, .int y] [.int 1] (am_W I J T L C)) = _
  rw [rg_141_72, rg_141_72, mo_truth1, mo_truth0]
  by_cases h : y < x
  · rw [if_pos h, decide_eq_false (Int32.not_le.mpr h), am_okb, am_vIi, rg_141_73]; rfl
  · rw [if_neg h, decide_eq_true (Int32.not_lt.mp h), am_okb, am_vIi, rg_141_73]; rfl
theorem mo_made_13 (I : Nat → Nat → Int32) (J : Nat → Nat → Int64) (T : Nat → Nat → Nat) (L : Nat) (C : Nat × Nat) (x y : Int32) : am_E 141 0 [.int 13, .int x, .int y] [] (am_W I J T L C) = some (.int (am_b01 (decide (x < y))), (am_W I J T L C)) := by
  refine (rg_141_0 I J T L C 13 x y).trans ?_
  show (if y ≤ x then am_E 141 80 [.int 13, .int x, .int y] [.int 0] (am_W I J T L C) else am_E 141 80 [.int 13, .int x, .int y] [.int 1] (am_W I J T L C)) = _
  rw [rg_141_80, rg_141_80, mo_truth1, mo_truth0]
  by_cases h : y ≤ x
  · rw [if_pos h, decide_eq_false (Int32.not_lt.mpr h), am_okb, am_vIi, rg_141_81]; rfl
  · rw [if_neg h, decide_eq_true (Int32.not_le.mp h), am_okb, am_vIi, rg_141_81]; rfl
theorem mo_join_0 (I : Nat → Nat → Int32) (J : Nat → Nat → Int64) (T : Nat → Nat → Nat) (L : Nat) (C : Nat × Nat) (x y : Int32) : am_E 142 0 [.ref 49, .int 0, .int x, .int y] [] (am_W I J T L C) = some (.int 0, am_W (am_up I 49 60 (x &&& y)) J T L C) := by
  refine (rg_142_0 I J T L C 0 x y).trans ?_
  show am_E 142 10 [.ref 49, .int 0, .int x, .int y] [] (am_W I J T L C) = _
  rw [rg_142_10, mo_made_0, am_okb, am_vIi, rg_142_15]
theorem mo_join_1 (I : Nat → Nat → Int32) (J : Nat → Nat → Int64) (T : Nat → Nat → Nat) (L : Nat) (C : Nat × Nat) (x y : Int32) : am_E 142 0 [.ref 49, .int 1, .int x, .int y] [] (am_W I J T L C) = some (.int 0, am_W (am_up I 49 60 (x ||| y)) J T L C) := by
  refine (rg_142_0 I J T L C 1 x y).trans ?_
  show am_E 142 10 [.ref 49, .int 1, .int x, .int y] [] (am_W I J T L C) = _
  rw [rg_142_10, mo_made_1, am_okb, am_vIi, rg_142_15]
theorem mo_join_2 (I : Nat → Nat → Int32) (J : Nat → Nat → Int64) (T : Nat → Nat → Nat) (L : Nat) (C : Nat × Nat) (x y : Int32) : am_E 142 0 [.ref 49, .int 2, .int x, .int y] [] (am_W I J T L C) = some (.int 0, am_W (am_up I 49 60 (x ^^^ y)) J T L C) := by
  refine (rg_142_0 I J T L C 2 x y).trans ?_
  show am_E 142 10 [.ref 49, .int 2, .int x, .int y] [] (am_W I J T L C) = _
  rw [rg_142_10, mo_made_2, am_okb, am_vIi, rg_142_15]
theorem mo_join_3 (I : Nat → Nat → Int32) (J : Nat → Nat → Int64) (T : Nat → Nat → Nat) (L : Nat) (C : Nat × Nat) (x y : Int32) : am_E 142 0 [.ref 49, .int 3, .int x, .int y] [] (am_W I J T L C) = some (.int 0, am_W (am_up I 49 60 (x + y)) J T L C) := by
  refine (rg_142_0 I J T L C 3 x y).trans ?_
  show am_E 142 10 [.ref 49, .int 3, .int x, .int y] [] (am_W I J T L C) = _
  rw [rg_142_10, mo_made_3, am_okb, am_vIi, rg_142_15]
theorem mo_join_4 (I : Nat → Nat → Int32) (J : Nat → Nat → Int64) (T : Nat → Nat → Nat) (L : Nat) (C : Nat × Nat) (x y : Int32) : am_E 142 0 [.ref 49, .int 4, .int x, .int y] [] (am_W I J T L C) = some (.int 0, am_W (am_up I 49 60 (x - y)) J T L C) := by
  refine (rg_142_0 I J T L C 4 x y).trans ?_
  show am_E 142 10 [.ref 49, .int 4, .int x, .int y] [] (am_W I J T L C) = _
  rw [rg_142_10, mo_made_4, am_okb, am_vIi, rg_142_15]
theorem mo_join_5 (I : Nat → Nat → Int32) (J : Nat → Nat → Int64) (T : Nat → Nat → Nat) (L : Nat) (C : Nat × Nat) (x y : Int32) : am_E 142 0 [.ref 49, .int 5, .int x, .int y] [] (am_W I J T L C) = some (.int 0, am_W (am_up I 49 60 (x * y)) J T L C) := by
  refine (rg_142_0 I J T L C 5 x y).trans ?_
  show am_E 142 10 [.ref 49, .int 5, .int x, .int y] [] (am_W I J T L C) = _
  rw [rg_142_10, mo_made_5, am_okb, am_vIi, rg_142_15]
theorem mo_join_6 (I : Nat → Nat → Int32) (J : Nat → Nat → Int64) (T : Nat → Nat → Nat) (L : Nat) (C : Nat × Nat) (x y : Int32) : am_E 142 0 [.ref 49, .int 6, .int x, .int y] [] (am_W I J T L C) = if y = 0 then some (.int 2, (am_W I J T L C)) else some (.int 0, am_W (am_up I 49 60 (x / y)) J T L C) := by
  refine (rg_142_0 I J T L C 6 x y).trans ?_
  show am_E 142 6 [.ref 49, .int 6, .int x, .int y] [] (am_W I J T L C) = _
  rw [rg_142_6]
  by_cases h : y = 0
  · rw [if_pos h, if_pos h]
  · rw [if_neg h, if_neg h, rg_142_10, mo_made_6 _ _ _ _ _ _ _ h, am_okb, am_vIi, rg_142_15]
theorem mo_join_7 (I : Nat → Nat → Int32) (J : Nat → Nat → Int64) (T : Nat → Nat → Nat) (L : Nat) (C : Nat × Nat) (x y : Int32) : am_E 142 0 [.ref 49, .int 7, .int x, .int y] [] (am_W I J T L C) = if y = 0 then some (.int 2, (am_W I J T L C)) else some (.int 0, am_W (am_up I 49 60 (x - x / y * y)) J T L C) := by
  refine (rg_142_0 I J T L C 7 x y).trans ?_
  show am_E 142 6 [.ref 49, .int 7, .int x, .int y] [] (am_W I J T L C) = _
  rw [rg_142_6]
  by_cases h : y = 0
  · rw [if_pos h, if_pos h]
  · rw [if_neg h, if_neg h, rg_142_10, mo_made_7 _ _ _ _ _ _ _ h, am_okb, am_vIi, rg_142_15]
theorem mo_join_8 (I : Nat → Nat → Int32) (J : Nat → Nat → Int64) (T : Nat → Nat → Nat) (L : Nat) (C : Nat × Nat) (x y : Int32) : am_E 142 0 [.ref 49, .int 8, .int x, .int y] [] (am_W I J T L C) = some (.int 0, am_W (am_up I 49 60 (am_b01 (decide (y < x)))) J T L C) := by
  refine (rg_142_0 I J T L C 8 x y).trans ?_
  show am_E 142 10 [.ref 49, .int 8, .int x, .int y] [] (am_W I J T L C) = _
  rw [rg_142_10, mo_made_8, am_okb, am_vIi, rg_142_15]
theorem mo_join_9 (I : Nat → Nat → Int32) (J : Nat → Nat → Int64) (T : Nat → Nat → Nat) (L : Nat) (C : Nat × Nat) (x y : Int32) : am_E 142 0 [.ref 49, .int 9, .int x, .int y] [] (am_W I J T L C) = some (.int 0, am_W (am_up I 49 60 (am_b01 (decide (y ≤ x)))) J T L C) := by
  refine (rg_142_0 I J T L C 9 x y).trans ?_
  show am_E 142 10 [.ref 49, .int 9, .int x, .int y] [] (am_W I J T L C) = _
  rw [rg_142_10, mo_made_9, am_okb, am_vIi, rg_142_15]
theorem mo_join_10 (I : Nat → Nat → Int32) (J : Nat → Nat → Int64) (T : Nat → Nat → Nat) (L : Nat) (C : Nat × Nat) (x y : Int32) : am_E 142 0 [.ref 49, .int 10, .int x, .int y] [] (am_W I J T L C) = some (.int 0, am_W (am_up I 49 60 (am_b01 (decide (x = y)))) J T L C) := by
  refine (rg_142_0 I J T L C 10 x y).trans ?_
  show am_E 142 10 [.ref 49, .int 10, .int x, .int y] [] (am_W I J T L C) = _
  rw [rg_142_10, mo_made_10, am_okb, am_vIi, rg_142_15]
theorem mo_join_11 (I : Nat → Nat → Int32) (J : Nat → Nat → Int64) (T : Nat → Nat → Nat) (L : Nat) (C : Nat × Nat) (x y : Int32) : am_E 142 0 [.ref 49, .int 11, .int x, .int y] [] (am_W I J T L C) = some (.int 0, am_W (am_up I 49 60 (am_b01 (decide (¬ x = y)))) J T L C) := by
  refine (rg_142_0 I J T L C 11 x y).trans ?_
  show am_E 142 10 [.ref 49, .int 11, .int x, .int y] [] (am_W I J T L C) = _
  rw [rg_142_10, mo_made_11, am_okb, am_vIi, rg_142_15]
theorem mo_join_12 (I : Nat → Nat → Int32) (J : Nat → Nat → Int64) (T : Nat → Nat → Nat) (L : Nat) (C : Nat × Nat) (x y : Int32) : am_E 142 0 [.ref 49, .int 12, .int x, .int y] [] (am_W I J T L C) = some (.int 0, am_W (am_up I 49 60 (am_b01 (decide (x ≤ y)))) J T L C) := by
  refine (rg_142_0 I J T L C 12 x y).trans ?_
  show am_E 142 10 [.ref 49, .int 12, .int x, .int y] [] (am_W I J T L C) = _
  rw [rg_142_10, mo_made_12, am_okb, am_vIi, rg_142_15]
theorem mo_join_13 (I : Nat → Nat → Int32) (J : Nat → Nat → Int64) (T : Nat → Nat → Nat) (L : Nat) (C : Nat × Nat) (x y : Int32) : am_E 142 0 [.ref 49, .int 13, .int x, .int y] [] (am_W I J T L C) = some (.int 0, am_W (am_up I 49 60 (am_b01 (decide (x < y)))) J T L C) := by
  refine (rg_142_0 I J T L C 13 x y).trans ?_
  show am_E 142 10 [.ref 49, .int 13, .int x, .int y] [] (am_W I J T L C) = _
  rw [rg_142_10, mo_made_13, am_okb, am_vIi, rg_142_15]
def mo_cnt (h v : Int32) : Int32 := if h = 1 then op_not v else v
theorem mo_signed (I : Nat → Nat → Int32) (J : Nat → Nat → Int64) (T : Nat → Nat → Nat) (L : Nat) (C : Nat × Nat) {i k : Nat} {s : Int32} {I' : Nat → Nat → Int32} (hi : i < 160) (hh : I 52 i < 2) (hk : I 53 i = nI k) (hv : mcvok k (I 54 i)) (hj : am_E 142 0 [.ref 49, .int (I 51 i), .int (I 49 60), .int (mo_cnt (I 52 i) (mcv I k (I 54 i)))] [] (am_W I J T L C) = some (.int s, am_W I' J T L C)) : am_E 143 0 [.ref 49, .int (nI i), .null] [] (am_W I J T L C) = some (.int s, am_W I' J T L C) := by
  have t62 : ∀ v v', v' = mo_cnt (I 52 i) (mcv I k (I 54 i)) → am_E 143 62 [.ref 49, .int (nI i), .int v] [.int v', .int (I 49 60), .int (I 51 i), .ref 49] (am_W I J T L C) = some (.int s, am_W I' J T L C) := by
    intro v v' e
    rw [rg_143_62, e, hj, am_okb, am_vIi, rg_143_63]
  rw [rg_143_0, am_inb_ok hi (by decide), am_inb_ok hi (by decide), am_inb_ok hi (by decide), nI_clamp (by omega), if_pos hh, hk, mo_cell _ _ _ _ _ hv, am_okb, am_vIi, rg_143_40, am_inb_ok hi (by decide), am_inb_ok hi (by decide), nI_clamp (by omega)]
  by_cases h1 : I 52 i = 1
  · rw [if_pos h1]
    by_cases h2 : mcv I k (I 54 i) = 0
    · rw [if_pos h2, rg_143_59, mo_truth1, am_okb, am_vIi, rg_143_60]
      refine t62 _ _ ?_
      unfold mo_cnt op_not
      rw [if_pos h1, if_pos h2]
    · rw [if_neg h2, rg_143_59, mo_truth0, am_okb, am_vIi, rg_143_60]
      refine t62 _ _ ?_
      unfold mo_cnt op_not
      rw [if_pos h1, if_neg h2]
  · rw [if_neg h1]
    refine t62 _ _ ?_
    unfold mo_cnt
    rw [if_neg h1]
theorem mo_aside (I : Nat → Nat → Int32) (J : Nat → Nat → Int64) (T : Nat → Nat → Nat) (L : Nat) (C : Nat × Nat) {i d : Nat} (hi : i < 160) (hh : ¬ I 52 i < 2) (hd : d < 8) (hD : I 49 59 = nI d) : am_E 143 0 [.ref 49, .int (nI i), .null] [] (am_W I J T L C) = some (.int 0, am_W (am_up (am_up (am_up (am_up I 90 d (I 49 60)) 91 d (nI i)) 49 59 (nI (d + 1))) 49 60 0) J T L C) := by
  rw [rg_143_0, am_inb_ok hi (by decide), nI_clamp (by omega), if_neg hh, hD, am_inb_ok hd (by decide), am_inb_ok hd (by decide), nI_clamp (by omega), nI_1]

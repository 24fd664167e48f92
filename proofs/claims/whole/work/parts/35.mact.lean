/-! THE MODEL'S ACT, kind by kind. -/
theorem mo_act_sign (I : Nat → Nat → Int32) (J : Nat → Nat → Int64) (T : Nat → Nat → Nat) (L : Nat) (C : Nat × Nat) {i : Nat} {s : Int32} {I' : Nat → Nat → Int32} (hi : i < 160) (hs : ¬ 14 ≤ I 51 i) (h : am_E 143 0 [.ref 49, .int (nI i), .null] [] (am_W I J T L C) = some (.int s, am_W I' J T L C)) : am_E 146 0 [.ref 49, .int (nI i), .null, .null] [] (am_W I J T L C) = some (.int s, am_W I' J T L C) := by
  rw [rg_146_0, am_inb_ok hi (by decide), nI_clamp (by omega), if_neg hs, h, am_okb, am_vIi, rg_146_11]
theorem mo_act_ld (I : Nat → Nat → Int32) (J : Nat → Nat → Int64) (T : Nat → Nat → Nat) (L : Nat) (C : Nat × Nat) {i k : Nat} (hi : i < 160) (hs : I 51 i = 14) (hk : I 53 i = nI k) (hv : mcvok k (I 54 i)) : am_E 146 0 [.ref 49, .int (nI i), .null, .null] [] (am_W I J T L C) = some (.int 0, am_W (am_up I 49 60 (mo_cnt (I 52 i) (mcv I k (I 54 i)))) J T L C) := by
  rw [rg_146_0, am_inb_ok hi (by decide), am_inb_ok hi (by decide), am_inb_ok hi (by decide), nI_clamp (by omega), hs, if_pos (by decide +kernel), if_pos rfl, hk, mo_cell _ _ _ _ _ hv, am_okb, am_vIi, rg_146_25, am_inb_ok hi (by decide), nI_clamp (by omega)]
  unfold mo_cnt op_not
  by_cases h1 : I 52 i = 1
  · rw [if_pos h1, if_pos h1]
    by_cases h : mcv I k (I 54 i) = 0
    · rw [if_pos h, if_pos h, rg_146_38, mo_truth1, am_okb, am_vIi, rg_146_39, rg_146_129]
    · rw [if_neg h, if_neg h, rg_146_38, mo_truth0, am_okb, am_vIi, rg_146_39, rg_146_129]
  · rw [if_neg h1, if_neg h1, rg_146_129]
theorem mo_act_store (I : Nat → Nat → Int32) (J : Nat → Nat → Int64) (T : Nat → Nat → Nat) (L : Nat) (C : Nat × Nat) {i : Nat} {I' : Nat → Nat → Int32} (hi : i < 160) (hs : I 51 i = 15 ∨ I 51 i = 16 ∨ I 51 i = 17) (h : am_E 145 0 [.ref 49, .int (nI i)] [] (am_W I J T L C) = some (.null, am_W I' J T L C)) : am_E 146 0 [.ref 49, .int (nI i), .null, .null] [] (am_W I J T L C) = some (.int 0, am_W I' J T L C) := by
  have h1 : 14 ≤ I 51 i ∧ ¬ I 51 i = 14 ∧ ¬ 17 < I 51 i := by
    rcases hs with h | h | h <;> rw [h] <;> decide +kernel
  rw [rg_146_0, am_inb_ok hi (by decide), nI_clamp (by omega), if_pos h1.1, if_neg h1.2.1, if_neg h1.2.2, h, am_okb, rg_146_49, rg_146_129]
theorem mo_act_close (I : Nat → Nat → Int32) (J : Nat → Nat → Int64) (T : Nat → Nat → Nat) (L : Nat) (C : Nat × Nat) {i : Nat} {s : Int32} {I' : Nat → Nat → Int32} (hi : i < 160) (hs : I 51 i = 18) (h : am_E 144 0 [.ref 49, .null] [] (am_W I J T L C) = some (.int s, am_W I' J T L C)) : am_E 146 0 [.ref 49, .int (nI i), .null, .null] [] (am_W I J T L C) = some (.int s, am_W I' J T L C) := by
  rw [rg_146_0, am_inb_ok hi (by decide), nI_clamp (by omega), hs, if_pos (by decide +kernel), if_neg (by decide +kernel), if_pos (by decide +kernel), if_pos rfl, h, am_okb, am_vIi, rg_146_55]
theorem mo_act_not (I : Nat → Nat → Int32) (J : Nat → Nat → Int64) (T : Nat → Nat → Nat) (L : Nat) (C : Nat × Nat) {i : Nat} (hi : i < 160) (hs : I 51 i = 19) : am_E 146 0 [.ref 49, .int (nI i), .null, .null] [] (am_W I J T L C) = some (.int 0, am_W (am_up I 49 60 (op_not (I 49 60))) J T L C) := by
  rw [rg_146_0, am_inb_ok hi (by decide), nI_clamp (by omega), hs, if_pos (by decide +kernel), if_neg (by decide +kernel), if_pos (by decide +kernel), if_neg (by decide +kernel), if_pos rfl]
  unfold op_not
  by_cases h : I 49 60 = 0
  · rw [if_pos h, if_pos h, rg_146_66, mo_truth1, am_okb, am_vIi, rg_146_67, rg_146_129]
  · rw [if_neg h, if_neg h, rg_146_66, mo_truth0, am_okb, am_vIi, rg_146_67, rg_146_129]

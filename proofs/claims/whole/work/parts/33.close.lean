/-! THE MODEL'S CLOSE. -/
theorem mo_close (I : Nat → Nat → Int32) (J : Nat → Nat → Int64) (T : Nat → Nat → Nat) (L : Nat) (C : Nat × Nat) {i d : Nat} {s : Int32} {I' : Nat → Nat → Int32} (hd : d < 8) (hD : I 49 59 = nI (d + 1)) (hi : i < 160) (hA : I 91 d = nI i) (hj : am_E 142 0 [.ref 49, .int (I 51 i), .int (I 90 d), .int (if I 52 i = 3 then op_not (I 49 60) else I 49 60)] [] (am_W (am_up I 49 59 (nI d)) J T L C) = some (.int s, am_W I' J T L C)) : am_E 144 0 [.ref 49, .null] [] (am_W I J T L C) = some (.int s, am_W I' J T L C) := by
  have t38 : ∀ v, v = (if I 52 i = 3 then op_not (I 49 60) else I 49 60) → am_E 144 38 [.ref 49, .int (nI i)] [.int v, .int (I 90 d), .int (I 51 i), .ref 49] (am_W (am_up I 49 59 (nI d)) J T L C) = some (.int s, am_W I' J T L C) := by
    intro v e
    rw [rg_144_38, e, hj, am_okb, am_vIi, rg_144_39]
  rw [rg_144_0, hD, nI_pred, am_inb_ok hd (by decide), am_inb_ok hd (by decide), nI_clamp (by omega), hA, am_inb_ok hi (by decide), am_inb_ok hi (by decide), nI_clamp (by omega)]
  by_cases h3 : I 52 i = 3
  · rw [if_pos h3]
    by_cases h : I 49 60 = 0
    · rw [if_pos h, rg_144_34, mo_truth1, am_okb, am_vIi, rg_144_35]
      refine t38 _ ?_
      unfold op_not
      rw [if_pos h3, if_pos h]
    · rw [if_neg h, rg_144_34, mo_truth0, am_okb, am_vIi, rg_144_35]
      refine t38 _ ?_
      unfold op_not
      rw [if_pos h3, if_neg h]
  · rw [if_neg h3]
    refine t38 _ ?_
    rw [if_neg h3]
theorem mo_storeW (I : Nat → Nat → Int32) (J : Nat → Nat → Int64) (T : Nat → Nat → Nat) (L : Nat) (C : Nat × Nat) {i n : Nat} (hi : i < 160) (hs : I 51 i = 15) (hk : I 53 i = 4) (hn : I 54 i = nI n) (hn32 : n < 32) : am_E 145 0 [.ref 49, .int (nI i)] [] (am_W I J T L C) = some (.null, am_W (am_up I 74 n (mo_cnt (I 52 i) (I 49 60))) J T L C) := by
  rw [rg_145_0, am_inb_ok hi (by decide), am_inb_ok hi (by decide), am_inb_ok hi (by decide), am_inb_ok hi (by decide), nI_clamp (by omega), if_pos hs, if_pos hk, hn, am_inb_ok hn32 (by decide), nI_clamp (by omega)]
  unfold mo_cnt op_not
  by_cases h1 : I 52 i = 1
  · rw [if_pos h1, if_pos h1]
    by_cases h : I 49 60 = 0
    · rw [if_pos h, if_pos h, rg_145_30, mo_truth1, am_okb, am_vIi, rg_145_31, am_inb_ok hn32 (by decide), nI_clamp (by omega), rg_145_96]
    · rw [if_neg h, if_neg h, rg_145_30, mo_truth0, am_okb, am_vIi, rg_145_31, am_inb_ok hn32 (by decide), nI_clamp (by omega), rg_145_96]
  · rw [if_neg h1, if_neg h1, rg_145_96]

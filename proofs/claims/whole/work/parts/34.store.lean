/-! THE MODEL'S STORE of bits; S and R. -/
theorem mo_st_72 (I : Nat → Nat → Int32) (J : Nat → Nat → Int64) (T : Nat → Nat → Nat) (L : Nat) (C : Nat × Nat) (i : Nat) {k n : Nat} (v : Int32) (hk : k = 2 ∨ k = 3) (hn : n < 32) : am_E 145 72 [.ref 49, .int (nI i)] [.int v, .int (nI n), .int (nI k), .ref 49] (am_W I J T L C) = some (.null, am_W (am_up I (70 + k) n v) J T L C) := by
  rw [rg_145_72, mo_set _ _ _ _ _ hk hn, am_okb, rg_145_73, rg_145_96]
theorem mo_storeB (I : Nat → Nat → Int32) (J : Nat → Nat → Int64) (T : Nat → Nat → Nat) (L : Nat) (C : Nat × Nat) {i k n : Nat} (hi : i < 160) (hs : I 51 i = 15) (hk : I 53 i = nI k) (hk2 : k = 2 ∨ k = 3) (hn : I 54 i = nI n) (hn32 : n < 32) : am_E 145 0 [.ref 49, .int (nI i)] [] (am_W I J T L C) = some (.null, am_W (am_up I (70 + k) n (am_b01 (decide (mo_cnt (I 52 i) (I 49 60) ≠ 0)))) J T L C) := by
  have hk4 : ¬ nI k = 4 := by
    rcases hk2 with rfl | rfl <;> decide +kernel
  rw [rg_145_0, am_inb_ok hi (by decide), am_inb_ok hi (by decide), nI_clamp (by omega), if_pos hs, hk, if_neg hk4, rg_145_36, am_inb_ok hi (by decide), am_inb_ok hi (by decide), am_inb_ok hi (by decide), am_inb_ok hi (by decide), nI_clamp (by omega), if_pos hs, hk, hn]
  unfold mo_cnt op_not
  by_cases h1 : I 52 i = 1
  · rw [if_pos h1, if_pos h1]
    by_cases h : I 49 60 = 0
    · rw [if_pos h, if_pos h, rg_145_63, mo_truth1, am_okb, am_vIi, rg_145_64, mo_st_72 _ _ _ _ _ _ _ hk2 hn32]
      rfl
    · rw [if_neg h, if_neg h, rg_145_63, mo_truth0, am_okb, am_vIi, rg_145_64, mo_st_72 _ _ _ _ _ _ _ hk2 hn32]
      rfl
  · rw [if_neg h1, if_neg h1]
    by_cases h : I 49 60 = 0
    · rw [if_pos h, decide_eq_false (fun e => e h), rg_145_71, mo_truth0, am_okb, am_vIi, mo_st_72 _ _ _ _ _ _ _ hk2 hn32]
      rfl
    · rw [if_neg h, decide_eq_true h, rg_145_71, mo_truth1, am_okb, am_vIi, mo_st_72 _ _ _ _ _ _ _ hk2 hn32]
      rfl
theorem mo_setclr (I : Nat → Nat → Int32) (J : Nat → Nat → Int64) (T : Nat → Nat → Nat) (L : Nat) (C : Nat × Nat) {i k n : Nat} (hi : i < 160) (hs : I 51 i = 16 ∨ I 51 i = 17) (hk : I 53 i = nI k) (hk2 : k = 2 ∨ k = 3) (hn : I 54 i = nI n) (hn32 : n < 32) : am_E 145 0 [.ref 49, .int (nI i)] [] (am_W I J T L C) = some (.null, am_W (if I 49 60 = 0 then I else am_up I (70 + k) n (am_b01 (decide (I 51 i = 16)))) J T L C) := by
  have h15 : ¬ I 51 i = 15 := by
    rcases hs with h | h <;> rw [h] <;> decide +kernel
  have t95 : ∀ v, am_E 145 95 [.ref 49, .int (nI i)] [.int v, .int (nI n), .int (nI k), .ref 49] (am_W I J T L C) = some (.null, am_W (am_up I (70 + k) n v) J T L C) := by
    intro v
    rw [rg_145_95, mo_set _ _ _ _ _ hk2 hn32, am_okb, rg_145_96]
  rw [rg_145_0, am_inb_ok hi (by decide), nI_clamp (by omega), if_neg h15, rg_145_36, am_inb_ok hi (by decide), nI_clamp (by omega), if_neg h15, am_inb_ok hi (by decide), am_inb_ok hi (by decide), am_inb_ok hi (by decide), hk, hn, t95, t95, rg_145_96]
  by_cases h : I 49 60 = 0
  · rw [if_pos h, if_pos h]
  · rw [if_neg h, if_neg h]
    by_cases h6 : I 51 i = 16
    · rw [if_pos h6, decide_eq_true h6]; rfl
    · rw [if_neg h6, decide_eq_false h6]; rfl

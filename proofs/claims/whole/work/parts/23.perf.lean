/-! PERFORM, op by op; startAgain. -/
def ma_clrI (I : Nat → Nat → Int32) : Nat → Nat → Int32 := am_up (am_up (am_up (am_up (pa_clr (cl_clr I)) 22 2 0) 22 3 0) 22 4 0) 22 5 0
theorem ma_again (I : Nat → Nat → Int32) (J : Nat → Nat → Int64) (T : Nat → Nat → Nat) (L : Nat) (C : Nat × Nat) : am_E 12 0 [.ref 22] [] (am_W I J T L C) = some (.null, am_W (ma_clrI I) (am_up J 22 1 0) T L C) := by
  rw [rg_12_0, cl_clear, am_okb, rg_12_3, pa_clear, am_okb, rg_12_6]
  rfl
/-- what an operand is worth -/
def cv (I : Nat → Nat → Int32) (k : Nat) (x : Int32) : Int32 := if k = 11 then x else if k = 6 then I 25 x.toNatClampNeg else if k = 9 then I 26 x.toNatClampNeg else if k = 10 then I 27 x.toNatClampNeg else am_b01 (am_bt (I 24 k) x.toNatClampNeg)
def cvok (k : Nat) (x : Int32) : Prop := k = 11 ∨ ∃ j, x = nI j ∧ ((k < 6 ∧ j < 32) ∨ (k = 6 ∧ j < 32) ∨ (k = 9 ∧ j < 8) ∨ (k = 10 ∧ j < 8))
theorem cvok_k {k : Nat} {x : Int32} (h : cvok k x) : ¬ nI k = 12 := by
  have hk : k < 12 := by
    rcases h with h | ⟨j, -, h⟩ <;> omega
  rw [show (12 : Int32) = nI 12 from rfl, nI_eq (by omega) (by decide)]
  omega
theorem cl_val (I : Nat → Nat → Int32) (J : Nat → Nat → Int64) (T : Nat → Nat → Nat) (L : Nat) (C : Nat × Nat) {k : Nat} {x : Int32} (h : cvok k x) : am_E 2 0 [.ref 23, .int (nI k), .int x] [] (am_W I J T L C) = some (.int (cv I k x), (am_W I J T L C)) := by
  unfold cv
  rcases h with rfl | ⟨j, rfl, h⟩
  · rw [if_pos rfl]; exact cl_num
  · rcases h with ⟨hk, hj⟩ | ⟨rfl, hj⟩ | ⟨rfl, hj⟩ | ⟨rfl, hj⟩
    · rw [if_neg (by omega), if_neg (by omega), if_neg (by omega), if_neg (by omega), nI_clamp (by omega)]
      exact cl_bit hk hj
    · rw [if_neg (by decide), if_pos rfl, nI_clamp (by omega)]
      exact cl_word hj
    · rw [if_neg (by decide), if_neg (by decide), if_pos rfl, nI_clamp (by omega)]
      exact cl_te hj
    · rw [if_neg (by decide), if_neg (by decide), if_neg (by decide), if_pos rfl, nI_clamp (by omega)]
      exact cl_cv hj
/-- takeBack up to the calculation -/
theorem ma_take (I : Nat → Nat → Int32) (J : Nat → Nat → Int64) (T : Nat → Nat → Nat) (L : Nat) (C : Nat × Nat) {q d : Nat} (hd : d < 8) (hI : I 22 9 = nI (d + 1)) (hq : T 33 d = q) (hS : am_SF L q = (30, 0)) (h0 : q ≠ 0) : am_E 18 0 [.ref 22, .null] [] (am_W I J T L C) = (am_E 19 0 [.ref 22, .ref q, .int (I 32 d), .int (I 22 7), .null] [] (am_W (am_up I 22 9 (nI d)) J T L C)).bind fun z1 => am_vI z1.1 fun u1 => am_E 18 36 [.ref 22, .ref q] [.int u1, .ref 22] z1.2 := by
  have e : (am_up I 22 9 (nI d)) 22 7 = I 22 7 := by rw [am_up_at, if_neg (by omega)]
  have e2 : (am_up I 22 9 (nI d)) 32 d = I 32 d := by rw [am_up_at, if_neg (by omega)]
  have l1 : ¬ nI (d + 1) < 1 := nI_nlt (a := d + 1) (b := 1) (by omega) (by omega)
  rw [rg_18_0, hI, if_neg l1, if_pos (nI_le (by omega) (by decide)), nI_pred, am_inb_ok hd (by decide), nI_clamp (by omega), hq, hS, if_neg h0]
  show Option.bind (am_E 89 0 [.ref 32, .int (nI d)] [] _) _ = _
  rw [at_32 hd, am_okb, am_vIi, rg_18_33]
  show Option.bind (am_E 19 0 [.ref 22, .ref q, .int ((am_up I 22 9 (nI d)) 32 d), .int ((am_up I 22 9 (nI d)) 22 7), .null] [] _) _ = _
  rw [e, e2]
theorem pf_head (I : Nat → Nat → Int32) (J : Nat → Nat → Int64) (T : Nat → Nat → Nat) (L : Nat) (C : Nat × Nat) (q : Nat) {i : Nat} (hi : i < 80) : am_E 15 0 [.ref 22, .ref q, .ref 34, .int (nI i), .null, .null] [] (am_W I J T L C) = am_E 15 9 [.ref 22, .ref q, .ref 34, .int (nI i), .int (I 45 i), .null] [.int (I 46 i)] (am_W I J T L C) := by
  rw [rg_15_0, at_45 hi, am_okb, am_vIi, rg_15_4, at_46 hi, am_okb, am_vIi]
def ma_st (I : Nat → Nat → Int32) (k j : Nat) (v : Int32) : Nat → Nat → Int32 := if k = 6 then am_up I 25 j v else am_up I 24 k (am_wb (I 24 k) j (decide (v ≠ 0)))
theorem cl_st (I : Nat → Nat → Int32) (J : Nat → Nat → Int64) (T : Nat → Nat → Nat) (L : Nat) (C : Nat × Nat) {k j : Nat} {v : Int32} (hk : k ≤ 6) (hj : j < 32) : am_E 4 0 [.ref 23, .int (nI k), .int (nI j), .int v] [] (am_W I J T L C) = some (.null, am_W (ma_st I k j v) J T L C) := by
  unfold ma_st
  by_cases h : k = 6
  · subst h; rw [if_pos rfl]; exact cl_storeW hj
  · rw [if_neg h]; exact cl_store (by omega)
theorem pf_0 (I : Nat → Nat → Int32) (J : Nat → Nat → Int64) (T : Nat → Nat → Nat) (L : Nat) (C : Nat × Nat) {i k : Nat} (hi : i < 80) (hk : I 45 i = nI k) (hv : cvok k (I 46 i)) : am_E 15 0 [.ref 22, .ref 1001, .ref 34, .int (nI i), .null, .null] [] (am_W I J T L C) = some (.null, am_W (am_up I 22 7 ((cv I k (I 46 i)))) J T L C) := by
  rw [pf_head _ _ _ _ _ _ hi]
  refine (rg_15_9 I J T L C 1001 (nI i) (I 45 i) .null (I 46 i)).trans ?_
  show Option.bind (am_E 2 0 [.ref 23, .int (I 45 i), .int (I 46 i)] [] _) _ = _
  rw [hk, cl_val _ _ _ _ _ hv, am_okb, am_vIi]
  refine (rg_15_20 I J T L C 1001 (nI i) (nI k) (I 46 i) 1001 (cv I k (I 46 i))).trans ?_
  show Option.bind (am_E 25 0 [.ref 1001, .int (cv I k (I 46 i))] [] _) _ = _
  rw [op_cnt_0, am_okb, am_vIi, rg_15_21]
theorem pf_1 (I : Nat → Nat → Int32) (J : Nat → Nat → Int64) (T : Nat → Nat → Nat) (L : Nat) (C : Nat × Nat) {i k : Nat} (hi : i < 80) (hk : I 45 i = nI k) (hv : cvok k (I 46 i)) : am_E 15 0 [.ref 22, .ref 1002, .ref 34, .int (nI i), .null, .null] [] (am_W I J T L C) = some (.null, am_W (am_up I 22 7 ((op_not (cv I k (I 46 i))))) J T L C) := by
  rw [pf_head _ _ _ _ _ _ hi]
  refine (rg_15_9 I J T L C 1002 (nI i) (I 45 i) .null (I 46 i)).trans ?_
  show Option.bind (am_E 2 0 [.ref 23, .int (I 45 i), .int (I 46 i)] [] _) _ = _
  rw [hk, cl_val _ _ _ _ _ hv, am_okb, am_vIi]
  refine (rg_15_20 I J T L C 1002 (nI i) (nI k) (I 46 i) 1002 (cv I k (I 46 i))).trans ?_
  show Option.bind (am_E 25 0 [.ref 1002, .int (cv I k (I 46 i))] [] _) _ = _
  rw [op_cnt_1, am_okb, am_vIi, rg_15_21]
theorem pf_2 (I : Nat → Nat → Int32) (J : Nat → Nat → Int64) (T : Nat → Nat → Nat) (L : Nat) (C : Nat × Nat) {i k j : Nat} (hi : i < 80) (hk : I 45 i = nI k) (hj : I 46 i = nI j) (hk6 : k ≤ 6) (hj32 : j < 32) : am_E 15 0 [.ref 22, .ref 1003, .ref 34, .int (nI i), .null, .null] [] (am_W I J T L C) = some (.null, am_W (ma_st I k j (I 22 7)) J T L C) := by
  rw [pf_head _ _ _ _ _ _ hi]
  refine (rg_15_9 I J T L C 1003 (nI i) (I 45 i) .null (I 46 i)).trans ?_
  show Option.bind (am_E 25 0 [.ref 1003, .int (I 22 7)] [] _) _ = _
  rw [op_cnt_2, am_okb, am_vIi, rg_15_51, hk, hj, cl_st _ _ _ _ _ hk6 hj32, am_okb, rg_15_52]
theorem pf_3 (I : Nat → Nat → Int32) (J : Nat → Nat → Int64) (T : Nat → Nat → Nat) (L : Nat) (C : Nat × Nat) {i k j : Nat} (hi : i < 80) (hk : I 45 i = nI k) (hj : I 46 i = nI j) (hk6 : k ≤ 6) (hj32 : j < 32) : am_E 15 0 [.ref 22, .ref 1004, .ref 34, .int (nI i), .null, .null] [] (am_W I J T L C) = some (.null, am_W (ma_st I k j (op_not (I 22 7))) J T L C) := by
  rw [pf_head _ _ _ _ _ _ hi]
  refine (rg_15_9 I J T L C 1004 (nI i) (I 45 i) .null (I 46 i)).trans ?_
  show Option.bind (am_E 25 0 [.ref 1004, .int (I 22 7)] [] _) _ = _
  rw [op_cnt_3, am_okb, am_vIi, rg_15_51, hk, hj, cl_st _ _ _ _ _ hk6 hj32, am_okb, rg_15_52]
theorem pf_4 (I : Nat → Nat → Int32) (J : Nat → Nat → Int64) (T : Nat → Nat → Nat) (L : Nat) (C : Nat × Nat) {i k j : Nat} (hi : i < 80) (hk : I 45 i = nI k) (hj : I 46 i = nI j) (hk6 : k < 6) : am_E 15 0 [.ref 22, .ref 1005, .ref 34, .int (nI i), .null, .null] [] (am_W I J T L C) = some (.null, am_W (if I 22 7 = 0 then I else am_up I 24 k (am_wb (I 24 k) j true)) J T L C) := by
  rw [pf_head _ _ _ _ _ _ hi]
  refine (rg_15_9 I J T L C 1005 (nI i) (I 45 i) .null (I 46 i)).trans ?_
  show (if I 22 7 = 0 then some (Value.null, (am_W I J T L C)) else am_E 15 66 [.ref 22, .ref 1005, .ref 34, .int (nI i), .int (I 45 i), .int (I 46 i)] [.int 1, .int (I 46 i), .int (I 45 i), .ref 23] (am_W I J T L C)) = _
  by_cases h : I 22 7 = 0
  · rw [if_pos h, if_pos h]
  · rw [if_neg h, if_neg h, rg_15_66, hk, hj]
    show Option.bind (am_E 3 0 [.ref 23, .int (nI k), .int (nI j), .int (am_b01 true)] [] _) _ = _
    rw [cl_setBit hk6, am_okb, rg_15_67]
theorem pf_5 (I : Nat → Nat → Int32) (J : Nat → Nat → Int64) (T : Nat → Nat → Nat) (L : Nat) (C : Nat × Nat) {i k j : Nat} (hi : i < 80) (hk : I 45 i = nI k) (hj : I 46 i = nI j) (hk6 : k < 6) : am_E 15 0 [.ref 22, .ref 1006, .ref 34, .int (nI i), .null, .null] [] (am_W I J T L C) = some (.null, am_W (if I 22 7 = 0 then I else am_up I 24 k (am_wb (I 24 k) j false)) J T L C) := by
  rw [pf_head _ _ _ _ _ _ hi]
  refine (rg_15_9 I J T L C 1006 (nI i) (I 45 i) .null (I 46 i)).trans ?_
  show (if I 22 7 = 0 then some (Value.null, (am_W I J T L C)) else am_E 15 66 [.ref 22, .ref 1006, .ref 34, .int (nI i), .int (I 45 i), .int (I 46 i)] [.int 0, .int (I 46 i), .int (I 45 i), .ref 23] (am_W I J T L C)) = _
  by_cases h : I 22 7 = 0
  · rw [if_pos h, if_pos h]
  · rw [if_neg h, if_neg h, rg_15_66, hk, hj]
    show Option.bind (am_E 3 0 [.ref 23, .int (nI k), .int (nI j), .int (am_b01 false)] [] _) _ = _
    rw [cl_setBit hk6, am_okb, rg_15_67]
theorem pf_6 (I : Nat → Nat → Int32) (J : Nat → Nat → Int64) (T : Nat → Nat → Nat) (L : Nat) (C : Nat × Nat) {i k : Nat} (hi : i < 80) (hk : I 45 i = nI k) (hv : cvok k (I 46 i)) : am_E 15 0 [.ref 22, .ref 1007, .ref 34, .int (nI i), .null, .null] [] (am_W I J T L C) = some (.null, am_W (am_up I 22 7 (I 22 7 &&& (cv I k (I 46 i)))) J T L C) := by
  rw [pf_head _ _ _ _ _ _ hi]
  refine (rg_15_9 I J T L C 1007 (nI i) (I 45 i) .null (I 46 i)).trans ?_
  show (if I 45 i = 12 then _ else Option.bind (am_E 2 0 [.ref 23, .int (I 45 i), .int (I 46 i)] [] _) _) = _
  rw [hk, if_neg (cvok_k hv), cl_val _ _ _ _ _ hv, am_okb, am_vIi, rg_15_40, op_cal_6, am_okb, am_vIi, rg_15_41]
theorem pf_7 (I : Nat → Nat → Int32) (J : Nat → Nat → Int64) (T : Nat → Nat → Nat) (L : Nat) (C : Nat × Nat) {i k : Nat} (hi : i < 80) (hk : I 45 i = nI k) (hv : cvok k (I 46 i)) : am_E 15 0 [.ref 22, .ref 1008, .ref 34, .int (nI i), .null, .null] [] (am_W I J T L C) = some (.null, am_W (am_up I 22 7 (I 22 7 &&& (op_not (cv I k (I 46 i))))) J T L C) := by
  rw [pf_head _ _ _ _ _ _ hi]
  refine (rg_15_9 I J T L C 1008 (nI i) (I 45 i) .null (I 46 i)).trans ?_
  show (if I 45 i = 12 then _ else Option.bind (am_E 2 0 [.ref 23, .int (I 45 i), .int (I 46 i)] [] _) _) = _
  rw [hk, if_neg (cvok_k hv), cl_val _ _ _ _ _ hv, am_okb, am_vIi, rg_15_40, op_cal_7, am_okb, am_vIi, rg_15_41]
theorem pf_8 (I : Nat → Nat → Int32) (J : Nat → Nat → Int64) (T : Nat → Nat → Nat) (L : Nat) (C : Nat × Nat) {i k : Nat} (hi : i < 80) (hk : I 45 i = nI k) (hv : cvok k (I 46 i)) : am_E 15 0 [.ref 22, .ref 1009, .ref 34, .int (nI i), .null, .null] [] (am_W I J T L C) = some (.null, am_W (am_up I 22 7 (I 22 7 ||| (cv I k (I 46 i)))) J T L C) := by
  rw [pf_head _ _ _ _ _ _ hi]
  refine (rg_15_9 I J T L C 1009 (nI i) (I 45 i) .null (I 46 i)).trans ?_
  show (if I 45 i = 12 then _ else Option.bind (am_E 2 0 [.ref 23, .int (I 45 i), .int (I 46 i)] [] _) _) = _
  rw [hk, if_neg (cvok_k hv), cl_val _ _ _ _ _ hv, am_okb, am_vIi, rg_15_40, op_cal_8, am_okb, am_vIi, rg_15_41]
theorem pf_9 (I : Nat → Nat → Int32) (J : Nat → Nat → Int64) (T : Nat → Nat → Nat) (L : Nat) (C : Nat × Nat) {i k : Nat} (hi : i < 80) (hk : I 45 i = nI k) (hv : cvok k (I 46 i)) : am_E 15 0 [.ref 22, .ref 1010, .ref 34, .int (nI i), .null, .null] [] (am_W I J T L C) = some (.null, am_W (am_up I 22 7 (I 22 7 ||| (op_not (cv I k (I 46 i))))) J T L C) := by
  rw [pf_head _ _ _ _ _ _ hi]
  refine (rg_15_9 I J T L C 1010 (nI i) (I 45 i) .null (I 46 i)).trans ?_
  show (if I 45 i = 12 then _ else Option.bind (am_E 2 0 [.ref 23, .int (I 45 i), .int (I 46 i)] [] _) _) = _
  rw [hk, if_neg (cvok_k hv), cl_val _ _ _ _ _ hv, am_okb, am_vIi, rg_15_40, op_cal_9, am_okb, am_vIi, rg_15_41]
theorem pf_10 (I : Nat → Nat → Int32) (J : Nat → Nat → Int64) (T : Nat → Nat → Nat) (L : Nat) (C : Nat × Nat) {i k : Nat} (hi : i < 80) (hk : I 45 i = nI k) (hv : cvok k (I 46 i)) : am_E 15 0 [.ref 22, .ref 1011, .ref 34, .int (nI i), .null, .null] [] (am_W I J T L C) = some (.null, am_W (am_up I 22 7 (I 22 7 ^^^ (cv I k (I 46 i)))) J T L C) := by
  rw [pf_head _ _ _ _ _ _ hi]
  refine (rg_15_9 I J T L C 1011 (nI i) (I 45 i) .null (I 46 i)).trans ?_
  show (if I 45 i = 12 then _ else Option.bind (am_E 2 0 [.ref 23, .int (I 45 i), .int (I 46 i)] [] _) _) = _
  rw [hk, if_neg (cvok_k hv), cl_val _ _ _ _ _ hv, am_okb, am_vIi, rg_15_40, op_cal_10, am_okb, am_vIi, rg_15_41]
theorem pf_11 (I : Nat → Nat → Int32) (J : Nat → Nat → Int64) (T : Nat → Nat → Nat) (L : Nat) (C : Nat × Nat) {i k : Nat} (hi : i < 80) (hk : I 45 i = nI k) (hv : cvok k (I 46 i)) : am_E 15 0 [.ref 22, .ref 1012, .ref 34, .int (nI i), .null, .null] [] (am_W I J T L C) = some (.null, am_W (am_up I 22 7 (I 22 7 ^^^ (op_not (cv I k (I 46 i))))) J T L C) := by
  rw [pf_head _ _ _ _ _ _ hi]
  refine (rg_15_9 I J T L C 1012 (nI i) (I 45 i) .null (I 46 i)).trans ?_
  show (if I 45 i = 12 then _ else Option.bind (am_E 2 0 [.ref 23, .int (I 45 i), .int (I 46 i)] [] _) _) = _
  rw [hk, if_neg (cvok_k hv), cl_val _ _ _ _ _ hv, am_okb, am_vIi, rg_15_40, op_cal_11, am_okb, am_vIi, rg_15_41]
theorem pf_12 (I : Nat → Nat → Int32) (J : Nat → Nat → Int64) (T : Nat → Nat → Nat) (L : Nat) (C : Nat × Nat) {i k : Nat} (hi : i < 80) (hk : I 45 i = nI k) (hv : cvok k (I 46 i)) : am_E 15 0 [.ref 22, .ref 1013, .ref 34, .int (nI i), .null, .null] [] (am_W I J T L C) = some (.null, am_W (am_up I 22 7 (I 22 7 + (cv I k (I 46 i)))) J T L C) := by
  rw [pf_head _ _ _ _ _ _ hi]
  refine (rg_15_9 I J T L C 1013 (nI i) (I 45 i) .null (I 46 i)).trans ?_
  show (if I 45 i = 12 then _ else Option.bind (am_E 2 0 [.ref 23, .int (I 45 i), .int (I 46 i)] [] _) _) = _
  rw [hk, if_neg (cvok_k hv), cl_val _ _ _ _ _ hv, am_okb, am_vIi, rg_15_40, op_cal_12, am_okb, am_vIi, rg_15_41]
theorem pf_13 (I : Nat → Nat → Int32) (J : Nat → Nat → Int64) (T : Nat → Nat → Nat) (L : Nat) (C : Nat × Nat) {i k : Nat} (hi : i < 80) (hk : I 45 i = nI k) (hv : cvok k (I 46 i)) : am_E 15 0 [.ref 22, .ref 1014, .ref 34, .int (nI i), .null, .null] [] (am_W I J T L C) = some (.null, am_W (am_up I 22 7 (I 22 7 - (cv I k (I 46 i)))) J T L C) := by
  rw [pf_head _ _ _ _ _ _ hi]
  refine (rg_15_9 I J T L C 1014 (nI i) (I 45 i) .null (I 46 i)).trans ?_
  show (if I 45 i = 12 then _ else Option.bind (am_E 2 0 [.ref 23, .int (I 45 i), .int (I 46 i)] [] _) _) = _
  rw [hk, if_neg (cvok_k hv), cl_val _ _ _ _ _ hv, am_okb, am_vIi, rg_15_40, op_cal_13, am_okb, am_vIi, rg_15_41]
theorem pf_14 (I : Nat → Nat → Int32) (J : Nat → Nat → Int64) (T : Nat → Nat → Nat) (L : Nat) (C : Nat × Nat) {i k : Nat} (hi : i < 80) (hk : I 45 i = nI k) (hv : cvok k (I 46 i)) : am_E 15 0 [.ref 22, .ref 1015, .ref 34, .int (nI i), .null, .null] [] (am_W I J T L C) = some (.null, am_W (am_up I 22 7 (I 22 7 * (cv I k (I 46 i)))) J T L C) := by
  rw [pf_head _ _ _ _ _ _ hi]
  refine (rg_15_9 I J T L C 1015 (nI i) (I 45 i) .null (I 46 i)).trans ?_
  show (if I 45 i = 12 then _ else Option.bind (am_E 2 0 [.ref 23, .int (I 45 i), .int (I 46 i)] [] _) _) = _
  rw [hk, if_neg (cvok_k hv), cl_val _ _ _ _ _ hv, am_okb, am_vIi, rg_15_40, op_cal_14, am_okb, am_vIi, rg_15_41]
theorem pf_17 (I : Nat → Nat → Int32) (J : Nat → Nat → Int64) (T : Nat → Nat → Nat) (L : Nat) (C : Nat × Nat) {i k : Nat} (hi : i < 80) (hk : I 45 i = nI k) (hv : cvok k (I 46 i)) : am_E 15 0 [.ref 22, .ref 1018, .ref 34, .int (nI i), .null, .null] [] (am_W I J T L C) = some (.null, am_W (am_up I 22 7 (am_b01 (decide ((cv I k (I 46 i)) < I 22 7)))) J T L C) := by
  rw [pf_head _ _ _ _ _ _ hi]
  refine (rg_15_9 I J T L C 1018 (nI i) (I 45 i) .null (I 46 i)).trans ?_
  show (if I 45 i = 12 then _ else Option.bind (am_E 2 0 [.ref 23, .int (I 45 i), .int (I 46 i)] [] _) _) = _
  rw [hk, if_neg (cvok_k hv), cl_val _ _ _ _ _ hv, am_okb, am_vIi, rg_15_40, op_cal_17, am_okb, am_vIi, rg_15_41]
theorem pf_18 (I : Nat → Nat → Int32) (J : Nat → Nat → Int64) (T : Nat → Nat → Nat) (L : Nat) (C : Nat × Nat) {i k : Nat} (hi : i < 80) (hk : I 45 i = nI k) (hv : cvok k (I 46 i)) : am_E 15 0 [.ref 22, .ref 1019, .ref 34, .int (nI i), .null, .null] [] (am_W I J T L C) = some (.null, am_W (am_up I 22 7 (am_b01 (decide ((cv I k (I 46 i)) ≤ I 22 7)))) J T L C) := by
  rw [pf_head _ _ _ _ _ _ hi]
  refine (rg_15_9 I J T L C 1019 (nI i) (I 45 i) .null (I 46 i)).trans ?_
  show (if I 45 i = 12 then _ else Option.bind (am_E 2 0 [.ref 23, .int (I 45 i), .int (I 46 i)] [] _) _) = _
  rw [hk, if_neg (cvok_k hv), cl_val _ _ _ _ _ hv, am_okb, am_vIi, rg_15_40, op_cal_18, am_okb, am_vIi, rg_15_41]
theorem pf_19 (I : Nat → Nat → Int32) (J : Nat → Nat → Int64) (T : Nat → Nat → Nat) (L : Nat) (C : Nat × Nat) {i k : Nat} (hi : i < 80) (hk : I 45 i = nI k) (hv : cvok k (I 46 i)) : am_E 15 0 [.ref 22, .ref 1020, .ref 34, .int (nI i), .null, .null] [] (am_W I J T L C) = some (.null, am_W (am_up I 22 7 (am_b01 (decide (I 22 7 = (cv I k (I 46 i)))))) J T L C) := by
  rw [pf_head _ _ _ _ _ _ hi]
  refine (rg_15_9 I J T L C 1020 (nI i) (I 45 i) .null (I 46 i)).trans ?_
  show (if I 45 i = 12 then _ else Option.bind (am_E 2 0 [.ref 23, .int (I 45 i), .int (I 46 i)] [] _) _) = _
  rw [hk, if_neg (cvok_k hv), cl_val _ _ _ _ _ hv, am_okb, am_vIi, rg_15_40, op_cal_19, am_okb, am_vIi, rg_15_41]
theorem pf_20 (I : Nat → Nat → Int32) (J : Nat → Nat → Int64) (T : Nat → Nat → Nat) (L : Nat) (C : Nat × Nat) {i k : Nat} (hi : i < 80) (hk : I 45 i = nI k) (hv : cvok k (I 46 i)) : am_E 15 0 [.ref 22, .ref 1021, .ref 34, .int (nI i), .null, .null] [] (am_W I J T L C) = some (.null, am_W (am_up I 22 7 (am_b01 (decide (¬ I 22 7 = (cv I k (I 46 i)))))) J T L C) := by
  rw [pf_head _ _ _ _ _ _ hi]
  refine (rg_15_9 I J T L C 1021 (nI i) (I 45 i) .null (I 46 i)).trans ?_
  show (if I 45 i = 12 then _ else Option.bind (am_E 2 0 [.ref 23, .int (I 45 i), .int (I 46 i)] [] _) _) = _
  rw [hk, if_neg (cvok_k hv), cl_val _ _ _ _ _ hv, am_okb, am_vIi, rg_15_40, op_cal_20, am_okb, am_vIi, rg_15_41]
theorem pf_21 (I : Nat → Nat → Int32) (J : Nat → Nat → Int64) (T : Nat → Nat → Nat) (L : Nat) (C : Nat × Nat) {i k : Nat} (hi : i < 80) (hk : I 45 i = nI k) (hv : cvok k (I 46 i)) : am_E 15 0 [.ref 22, .ref 1022, .ref 34, .int (nI i), .null, .null] [] (am_W I J T L C) = some (.null, am_W (am_up I 22 7 (am_b01 (decide (I 22 7 ≤ (cv I k (I 46 i)))))) J T L C) := by
  rw [pf_head _ _ _ _ _ _ hi]
  refine (rg_15_9 I J T L C 1022 (nI i) (I 45 i) .null (I 46 i)).trans ?_
  show (if I 45 i = 12 then _ else Option.bind (am_E 2 0 [.ref 23, .int (I 45 i), .int (I 46 i)] [] _) _) = _
  rw [hk, if_neg (cvok_k hv), cl_val _ _ _ _ _ hv, am_okb, am_vIi, rg_15_40, op_cal_21, am_okb, am_vIi, rg_15_41]
theorem pf_22 (I : Nat → Nat → Int32) (J : Nat → Nat → Int64) (T : Nat → Nat → Nat) (L : Nat) (C : Nat × Nat) {i k : Nat} (hi : i < 80) (hk : I 45 i = nI k) (hv : cvok k (I 46 i)) : am_E 15 0 [.ref 22, .ref 1023, .ref 34, .int (nI i), .null, .null] [] (am_W I J T L C) = some (.null, am_W (am_up I 22 7 (am_b01 (decide (I 22 7 < (cv I k (I 46 i)))))) J T L C) := by
  rw [pf_head _ _ _ _ _ _ hi]
  refine (rg_15_9 I J T L C 1023 (nI i) (I 45 i) .null (I 46 i)).trans ?_
  show (if I 45 i = 12 then _ else Option.bind (am_E 2 0 [.ref 23, .int (I 45 i), .int (I 46 i)] [] _) _) = _
  rw [hk, if_neg (cvok_k hv), cl_val _ _ _ _ _ hv, am_okb, am_vIi, rg_15_40, op_cal_22, am_okb, am_vIi, rg_15_41]
theorem pf_15 (I : Nat → Nat → Int32) (J : Nat → Nat → Int64) (T : Nat → Nat → Nat) (L : Nat) (C : Nat × Nat) {i k : Nat} (hi : i < 80) (hk : I 45 i = nI k) (hv : cvok k (I 46 i)) : am_E 15 0 [.ref 22, .ref 1016, .ref 34, .int (nI i), .null, .null] [] (am_W I J T L C) = some (.null, am_W (if cv I k (I 46 i) = 0 then am_up (am_up I 22 3 2) 22 7 (I 22 7) else am_up I 22 7 (I 22 7 / cv I k (I 46 i))) J T L C) := by
  rw [pf_head _ _ _ _ _ _ hi]
  refine (rg_15_9 I J T L C 1016 (nI i) (I 45 i) .null (I 46 i)).trans ?_
  show (if I 45 i = 12 then _ else Option.bind (am_E 2 0 [.ref 23, .int (I 45 i), .int (I 46 i)] [] _) _) = _
  rw [hk, if_neg (cvok_k hv), cl_val _ _ _ _ _ hv, am_okb, am_vIi, rg_15_40, op_cal_15]
  by_cases h : cv I k (I 46 i) = 0
  · rw [if_pos h, if_pos h, am_okb, am_vIi, rg_15_41]
  · rw [if_neg h, if_neg h, am_okb, am_vIi, rg_15_41]
theorem pf_16 (I : Nat → Nat → Int32) (J : Nat → Nat → Int64) (T : Nat → Nat → Nat) (L : Nat) (C : Nat × Nat) {i k : Nat} (hi : i < 80) (hk : I 45 i = nI k) (hv : cvok k (I 46 i)) : am_E 15 0 [.ref 22, .ref 1017, .ref 34, .int (nI i), .null, .null] [] (am_W I J T L C) = some (.null, am_W (if cv I k (I 46 i) = 0 then am_up (am_up I 22 3 2) 22 7 (I 22 7) else am_up I 22 7 (I 22 7 - I 22 7 / cv I k (I 46 i) * cv I k (I 46 i))) J T L C) := by
  rw [pf_head _ _ _ _ _ _ hi]
  refine (rg_15_9 I J T L C 1017 (nI i) (I 45 i) .null (I 46 i)).trans ?_
  show (if I 45 i = 12 then _ else Option.bind (am_E 2 0 [.ref 23, .int (I 45 i), .int (I 46 i)] [] _) _) = _
  rw [hk, if_neg (cvok_k hv), cl_val _ _ _ _ _ hv, am_okb, am_vIi, rg_15_40, op_cal_16]
  by_cases h : cv I k (I 46 i) = 0
  · rw [if_pos h, if_pos h, am_okb, am_vIi, rg_15_41]
  · rw [if_neg h, if_neg h, am_okb, am_vIi, rg_15_41]
theorem pfa_6 (I : Nat → Nat → Int32) (J : Nat → Nat → Int64) (T : Nat → Nat → Nat) (L : Nat) (C : Nat × Nat) {i d : Nat} (hi : i < 80) (hk : I 45 i = 12) (hd : d < 8) (hI : I 22 9 = nI d) : am_E 15 0 [.ref 22, .ref 1007, .ref 34, .int (nI i), .null, .null] [] (am_W I J T L C) = some (.null, am_W (am_up (am_up (am_up I 32 d (I 22 7)) 22 9 (nI (d + 1))) 22 7 0) J (am_up T 33 d 1007) L C) := by
  rw [pf_head _ _ _ _ _ _ hi]
  refine (rg_15_9 I J T L C 1007 (nI i) (I 45 i) .null (I 46 i)).trans ?_
  show (if I 45 i = 12 then _ else _) = _
  rw [if_pos hk]
  show Option.bind (am_E 17 0 [.ref 22, .ref 1007] [] _) _ = _
  rw [pb_aside _ _ _ _ _ hd hI rfl, am_okb, rg_15_29]
theorem pfa_7 (I : Nat → Nat → Int32) (J : Nat → Nat → Int64) (T : Nat → Nat → Nat) (L : Nat) (C : Nat × Nat) {i d : Nat} (hi : i < 80) (hk : I 45 i = 12) (hd : d < 8) (hI : I 22 9 = nI d) : am_E 15 0 [.ref 22, .ref 1008, .ref 34, .int (nI i), .null, .null] [] (am_W I J T L C) = some (.null, am_W (am_up (am_up (am_up I 32 d (I 22 7)) 22 9 (nI (d + 1))) 22 7 0) J (am_up T 33 d 1008) L C) := by
  rw [pf_head _ _ _ _ _ _ hi]
  refine (rg_15_9 I J T L C 1008 (nI i) (I 45 i) .null (I 46 i)).trans ?_
  show (if I 45 i = 12 then _ else _) = _
  rw [if_pos hk]
  show Option.bind (am_E 17 0 [.ref 22, .ref 1008] [] _) _ = _
  rw [pb_aside _ _ _ _ _ hd hI rfl, am_okb, rg_15_29]
theorem pfa_8 (I : Nat → Nat → Int32) (J : Nat → Nat → Int64) (T : Nat → Nat → Nat) (L : Nat) (C : Nat × Nat) {i d : Nat} (hi : i < 80) (hk : I 45 i = 12) (hd : d < 8) (hI : I 22 9 = nI d) : am_E 15 0 [.ref 22, .ref 1009, .ref 34, .int (nI i), .null, .null] [] (am_W I J T L C) = some (.null, am_W (am_up (am_up (am_up I 32 d (I 22 7)) 22 9 (nI (d + 1))) 22 7 0) J (am_up T 33 d 1009) L C) := by
  rw [pf_head _ _ _ _ _ _ hi]
  refine (rg_15_9 I J T L C 1009 (nI i) (I 45 i) .null (I 46 i)).trans ?_
  show (if I 45 i = 12 then _ else _) = _
  rw [if_pos hk]
  show Option.bind (am_E 17 0 [.ref 22, .ref 1009] [] _) _ = _
  rw [pb_aside _ _ _ _ _ hd hI rfl, am_okb, rg_15_29]
theorem pfa_9 (I : Nat → Nat → Int32) (J : Nat → Nat → Int64) (T : Nat → Nat → Nat) (L : Nat) (C : Nat × Nat) {i d : Nat} (hi : i < 80) (hk : I 45 i = 12) (hd : d < 8) (hI : I 22 9 = nI d) : am_E 15 0 [.ref 22, .ref 1010, .ref 34, .int (nI i), .null, .null] [] (am_W I J T L C) = some (.null, am_W (am_up (am_up (am_up I 32 d (I 22 7)) 22 9 (nI (d + 1))) 22 7 0) J (am_up T 33 d 1010) L C) := by
  rw [pf_head _ _ _ _ _ _ hi]
  refine (rg_15_9 I J T L C 1010 (nI i) (I 45 i) .null (I 46 i)).trans ?_
  show (if I 45 i = 12 then _ else _) = _
  rw [if_pos hk]
  show Option.bind (am_E 17 0 [.ref 22, .ref 1010] [] _) _ = _
  rw [pb_aside _ _ _ _ _ hd hI rfl, am_okb, rg_15_29]
theorem pfa_10 (I : Nat → Nat → Int32) (J : Nat → Nat → Int64) (T : Nat → Nat → Nat) (L : Nat) (C : Nat × Nat) {i d : Nat} (hi : i < 80) (hk : I 45 i = 12) (hd : d < 8) (hI : I 22 9 = nI d) : am_E 15 0 [.ref 22, .ref 1011, .ref 34, .int (nI i), .null, .null] [] (am_W I J T L C) = some (.null, am_W (am_up (am_up (am_up I 32 d (I 22 7)) 22 9 (nI (d + 1))) 22 7 0) J (am_up T 33 d 1011) L C) := by
  rw [pf_head _ _ _ _ _ _ hi]
  refine (rg_15_9 I J T L C 1011 (nI i) (I 45 i) .null (I 46 i)).trans ?_
  show (if I 45 i = 12 then _ else _) = _
  rw [if_pos hk]
  show Option.bind (am_E 17 0 [.ref 22, .ref 1011] [] _) _ = _
  rw [pb_aside _ _ _ _ _ hd hI rfl, am_okb, rg_15_29]
theorem pfa_11 (I : Nat → Nat → Int32) (J : Nat → Nat → Int64) (T : Nat → Nat → Nat) (L : Nat) (C : Nat × Nat) {i d : Nat} (hi : i < 80) (hk : I 45 i = 12) (hd : d < 8) (hI : I 22 9 = nI d) : am_E 15 0 [.ref 22, .ref 1012, .ref 34, .int (nI i), .null, .null] [] (am_W I J T L C) = some (.null, am_W (am_up (am_up (am_up I 32 d (I 22 7)) 22 9 (nI (d + 1))) 22 7 0) J (am_up T 33 d 1012) L C) := by
  rw [pf_head _ _ _ _ _ _ hi]
  refine (rg_15_9 I J T L C 1012 (nI i) (I 45 i) .null (I 46 i)).trans ?_
  show (if I 45 i = 12 then _ else _) = _
  rw [if_pos hk]
  show Option.bind (am_E 17 0 [.ref 22, .ref 1012] [] _) _ = _
  rw [pb_aside _ _ _ _ _ hd hI rfl, am_okb, rg_15_29]
theorem pfa_12 (I : Nat → Nat → Int32) (J : Nat → Nat → Int64) (T : Nat → Nat → Nat) (L : Nat) (C : Nat × Nat) {i d : Nat} (hi : i < 80) (hk : I 45 i = 12) (hd : d < 8) (hI : I 22 9 = nI d) : am_E 15 0 [.ref 22, .ref 1013, .ref 34, .int (nI i), .null, .null] [] (am_W I J T L C) = some (.null, am_W (am_up (am_up (am_up I 32 d (I 22 7)) 22 9 (nI (d + 1))) 22 7 0) J (am_up T 33 d 1013) L C) := by
  rw [pf_head _ _ _ _ _ _ hi]
  refine (rg_15_9 I J T L C 1013 (nI i) (I 45 i) .null (I 46 i)).trans ?_
  show (if I 45 i = 12 then _ else _) = _
  rw [if_pos hk]
  show Option.bind (am_E 17 0 [.ref 22, .ref 1013] [] _) _ = _
  rw [pb_aside _ _ _ _ _ hd hI rfl, am_okb, rg_15_29]
theorem pfa_13 (I : Nat → Nat → Int32) (J : Nat → Nat → Int64) (T : Nat → Nat → Nat) (L : Nat) (C : Nat × Nat) {i d : Nat} (hi : i < 80) (hk : I 45 i = 12) (hd : d < 8) (hI : I 22 9 = nI d) : am_E 15 0 [.ref 22, .ref 1014, .ref 34, .int (nI i), .null, .null] [] (am_W I J T L C) = some (.null, am_W (am_up (am_up (am_up I 32 d (I 22 7)) 22 9 (nI (d + 1))) 22 7 0) J (am_up T 33 d 1014) L C) := by
  rw [pf_head _ _ _ _ _ _ hi]
  refine (rg_15_9 I J T L C 1014 (nI i) (I 45 i) .null (I 46 i)).trans ?_
  show (if I 45 i = 12 then _ else _) = _
  rw [if_pos hk]
  show Option.bind (am_E 17 0 [.ref 22, .ref 1014] [] _) _ = _
  rw [pb_aside _ _ _ _ _ hd hI rfl, am_okb, rg_15_29]
theorem pfa_14 (I : Nat → Nat → Int32) (J : Nat → Nat → Int64) (T : Nat → Nat → Nat) (L : Nat) (C : Nat × Nat) {i d : Nat} (hi : i < 80) (hk : I 45 i = 12) (hd : d < 8) (hI : I 22 9 = nI d) : am_E 15 0 [.ref 22, .ref 1015, .ref 34, .int (nI i), .null, .null] [] (am_W I J T L C) = some (.null, am_W (am_up (am_up (am_up I 32 d (I 22 7)) 22 9 (nI (d + 1))) 22 7 0) J (am_up T 33 d 1015) L C) := by
  rw [pf_head _ _ _ _ _ _ hi]
  refine (rg_15_9 I J T L C 1015 (nI i) (I 45 i) .null (I 46 i)).trans ?_
  show (if I 45 i = 12 then _ else _) = _
  rw [if_pos hk]
  show Option.bind (am_E 17 0 [.ref 22, .ref 1015] [] _) _ = _
  rw [pb_aside _ _ _ _ _ hd hI rfl, am_okb, rg_15_29]
theorem pfa_15 (I : Nat → Nat → Int32) (J : Nat → Nat → Int64) (T : Nat → Nat → Nat) (L : Nat) (C : Nat × Nat) {i d : Nat} (hi : i < 80) (hk : I 45 i = 12) (hd : d < 8) (hI : I 22 9 = nI d) : am_E 15 0 [.ref 22, .ref 1016, .ref 34, .int (nI i), .null, .null] [] (am_W I J T L C) = some (.null, am_W (am_up (am_up (am_up I 32 d (I 22 7)) 22 9 (nI (d + 1))) 22 7 0) J (am_up T 33 d 1016) L C) := by
  rw [pf_head _ _ _ _ _ _ hi]
  refine (rg_15_9 I J T L C 1016 (nI i) (I 45 i) .null (I 46 i)).trans ?_
  show (if I 45 i = 12 then _ else _) = _
  rw [if_pos hk]
  show Option.bind (am_E 17 0 [.ref 22, .ref 1016] [] _) _ = _
  rw [pb_aside _ _ _ _ _ hd hI rfl, am_okb, rg_15_29]
theorem pfa_16 (I : Nat → Nat → Int32) (J : Nat → Nat → Int64) (T : Nat → Nat → Nat) (L : Nat) (C : Nat × Nat) {i d : Nat} (hi : i < 80) (hk : I 45 i = 12) (hd : d < 8) (hI : I 22 9 = nI d) : am_E 15 0 [.ref 22, .ref 1017, .ref 34, .int (nI i), .null, .null] [] (am_W I J T L C) = some (.null, am_W (am_up (am_up (am_up I 32 d (I 22 7)) 22 9 (nI (d + 1))) 22 7 0) J (am_up T 33 d 1017) L C) := by
  rw [pf_head _ _ _ _ _ _ hi]
  refine (rg_15_9 I J T L C 1017 (nI i) (I 45 i) .null (I 46 i)).trans ?_
  show (if I 45 i = 12 then _ else _) = _
  rw [if_pos hk]
  show Option.bind (am_E 17 0 [.ref 22, .ref 1017] [] _) _ = _
  rw [pb_aside _ _ _ _ _ hd hI rfl, am_okb, rg_15_29]
theorem pfa_17 (I : Nat → Nat → Int32) (J : Nat → Nat → Int64) (T : Nat → Nat → Nat) (L : Nat) (C : Nat × Nat) {i d : Nat} (hi : i < 80) (hk : I 45 i = 12) (hd : d < 8) (hI : I 22 9 = nI d) : am_E 15 0 [.ref 22, .ref 1018, .ref 34, .int (nI i), .null, .null] [] (am_W I J T L C) = some (.null, am_W (am_up (am_up (am_up I 32 d (I 22 7)) 22 9 (nI (d + 1))) 22 7 0) J (am_up T 33 d 1018) L C) := by
  rw [pf_head _ _ _ _ _ _ hi]
  refine (rg_15_9 I J T L C 1018 (nI i) (I 45 i) .null (I 46 i)).trans ?_
  show (if I 45 i = 12 then _ else _) = _
  rw [if_pos hk]
  show Option.bind (am_E 17 0 [.ref 22, .ref 1018] [] _) _ = _
  rw [pb_aside _ _ _ _ _ hd hI rfl, am_okb, rg_15_29]
theorem pfa_18 (I : Nat → Nat → Int32) (J : Nat → Nat → Int64) (T : Nat → Nat → Nat) (L : Nat) (C : Nat × Nat) {i d : Nat} (hi : i < 80) (hk : I 45 i = 12) (hd : d < 8) (hI : I 22 9 = nI d) : am_E 15 0 [.ref 22, .ref 1019, .ref 34, .int (nI i), .null, .null] [] (am_W I J T L C) = some (.null, am_W (am_up (am_up (am_up I 32 d (I 22 7)) 22 9 (nI (d + 1))) 22 7 0) J (am_up T 33 d 1019) L C) := by
  rw [pf_head _ _ _ _ _ _ hi]
  refine (rg_15_9 I J T L C 1019 (nI i) (I 45 i) .null (I 46 i)).trans ?_
  show (if I 45 i = 12 then _ else _) = _
  rw [if_pos hk]
  show Option.bind (am_E 17 0 [.ref 22, .ref 1019] [] _) _ = _
  rw [pb_aside _ _ _ _ _ hd hI rfl, am_okb, rg_15_29]
theorem pfa_19 (I : Nat → Nat → Int32) (J : Nat → Nat → Int64) (T : Nat → Nat → Nat) (L : Nat) (C : Nat × Nat) {i d : Nat} (hi : i < 80) (hk : I 45 i = 12) (hd : d < 8) (hI : I 22 9 = nI d) : am_E 15 0 [.ref 22, .ref 1020, .ref 34, .int (nI i), .null, .null] [] (am_W I J T L C) = some (.null, am_W (am_up (am_up (am_up I 32 d (I 22 7)) 22 9 (nI (d + 1))) 22 7 0) J (am_up T 33 d 1020) L C) := by
  rw [pf_head _ _ _ _ _ _ hi]
  refine (rg_15_9 I J T L C 1020 (nI i) (I 45 i) .null (I 46 i)).trans ?_
  show (if I 45 i = 12 then _ else _) = _
  rw [if_pos hk]
  show Option.bind (am_E 17 0 [.ref 22, .ref 1020] [] _) _ = _
  rw [pb_aside _ _ _ _ _ hd hI rfl, am_okb, rg_15_29]
theorem pfa_20 (I : Nat → Nat → Int32) (J : Nat → Nat → Int64) (T : Nat → Nat → Nat) (L : Nat) (C : Nat × Nat) {i d : Nat} (hi : i < 80) (hk : I 45 i = 12) (hd : d < 8) (hI : I 22 9 = nI d) : am_E 15 0 [.ref 22, .ref 1021, .ref 34, .int (nI i), .null, .null] [] (am_W I J T L C) = some (.null, am_W (am_up (am_up (am_up I 32 d (I 22 7)) 22 9 (nI (d + 1))) 22 7 0) J (am_up T 33 d 1021) L C) := by
  rw [pf_head _ _ _ _ _ _ hi]
  refine (rg_15_9 I J T L C 1021 (nI i) (I 45 i) .null (I 46 i)).trans ?_
  show (if I 45 i = 12 then _ else _) = _
  rw [if_pos hk]
  show Option.bind (am_E 17 0 [.ref 22, .ref 1021] [] _) _ = _
  rw [pb_aside _ _ _ _ _ hd hI rfl, am_okb, rg_15_29]
theorem pfa_21 (I : Nat → Nat → Int32) (J : Nat → Nat → Int64) (T : Nat → Nat → Nat) (L : Nat) (C : Nat × Nat) {i d : Nat} (hi : i < 80) (hk : I 45 i = 12) (hd : d < 8) (hI : I 22 9 = nI d) : am_E 15 0 [.ref 22, .ref 1022, .ref 34, .int (nI i), .null, .null] [] (am_W I J T L C) = some (.null, am_W (am_up (am_up (am_up I 32 d (I 22 7)) 22 9 (nI (d + 1))) 22 7 0) J (am_up T 33 d 1022) L C) := by
  rw [pf_head _ _ _ _ _ _ hi]
  refine (rg_15_9 I J T L C 1022 (nI i) (I 45 i) .null (I 46 i)).trans ?_
  show (if I 45 i = 12 then _ else _) = _
  rw [if_pos hk]
  show Option.bind (am_E 17 0 [.ref 22, .ref 1022] [] _) _ = _
  rw [pb_aside _ _ _ _ _ hd hI rfl, am_okb, rg_15_29]
theorem pfa_22 (I : Nat → Nat → Int32) (J : Nat → Nat → Int64) (T : Nat → Nat → Nat) (L : Nat) (C : Nat × Nat) {i d : Nat} (hi : i < 80) (hk : I 45 i = 12) (hd : d < 8) (hI : I 22 9 = nI d) : am_E 15 0 [.ref 22, .ref 1023, .ref 34, .int (nI i), .null, .null] [] (am_W I J T L C) = some (.null, am_W (am_up (am_up (am_up I 32 d (I 22 7)) 22 9 (nI (d + 1))) 22 7 0) J (am_up T 33 d 1023) L C) := by
  rw [pf_head _ _ _ _ _ _ hi]
  refine (rg_15_9 I J T L C 1023 (nI i) (I 45 i) .null (I 46 i)).trans ?_
  show (if I 45 i = 12 then _ else _) = _
  rw [if_pos hk]
  show Option.bind (am_E 17 0 [.ref 22, .ref 1023] [] _) _ = _
  rw [pb_aside _ _ _ _ _ hd hI rfl, am_okb, rg_15_29]
theorem pf_23 (I : Nat → Nat → Int32) (J : Nat → Nat → Int64) (T : Nat → Nat → Nat) (L : Nat) (C : Nat × Nat) {i : Nat} (hi : i < 80) : am_E 15 0 [.ref 22, .ref 1024, .ref 34, .int (nI i), .null, .null] [] (am_W I J T L C) = (am_E 18 0 [.ref 22, .null] [] (am_W I J T L C)).bind fun z3 => am_E 15 70 [.ref 22, .ref 1024, .ref 34, .int (nI i), .int (I 45 i), .int (I 46 i)] [] z3.2 := by
  rw [pf_head _ _ _ _ _ _ hi]
  exact (rg_15_9 I J T L C 1024 (nI i) (I 45 i) .null (I 46 i)).trans rfl
theorem pf_24 (I : Nat → Nat → Int32) (J : Nat → Nat → Int64) (T : Nat → Nat → Nat) (L : Nat) (C : Nat × Nat) {i : Nat} (hi : i < 80) : am_E 15 0 [.ref 22, .ref 1025, .ref 34, .int (nI i), .null, .null] [] (am_W I J T L C) = some (.null, am_W (am_up I 22 7 (am_b01 (decide (I 22 7 = 0)))) J T L C) := by
  rw [pf_head _ _ _ _ _ _ hi]
  refine (rg_15_9 I J T L C 1025 (nI i) (I 45 i) .null (I 46 i)).trans ?_
  show (if I 22 7 = 0 then some (Value.null, am_W (am_up I 22 7 1) J T L C) else some (Value.null, am_W (am_up I 22 7 0) J T L C)) = _
  by_cases h : I 22 7 = 0
  · rw [if_pos h, decide_eq_true h]; rfl
  · rw [if_neg h, decide_eq_false h]; rfl
theorem op_tk_25 (I : Nat → Nat → Int32) (J : Nat → Nat → Int64) (T : Nat → Nat → Nat) (L : Nat) (C : Nat × Nat) (x : Int32) : am_E 27 0 [.ref 1026, .int x] [] (am_W I J T L C) = some (.int (am_b01 true), (am_W I J T L C)) := (rg_27_0 I J T L C 1026 x).trans rfl
theorem pf_25 (I : Nat → Nat → Int32) (J : Nat → Nat → Int64) (T : Nat → Nat → Nat) (L : Nat) (C : Nat × Nat) {i j : Nat} (hi : i < 80) (hj : I 46 i = nI j) (hj32 : j < 32) : am_E 15 0 [.ref 22, .ref 1026, .ref 34, .int (nI i), .null, .null] [] (am_W I J T L C) = some (.null, am_W (cond (true) (am_up I 22 8 (I 48 j)) I) J T L C) := by
  rw [pf_head _ _ _ _ _ _ hi]
  refine (rg_15_9 I J T L C 1026 (nI i) (I 45 i) .null (I 46 i)).trans ?_
  show Option.bind (am_E 27 0 [.ref 1026, .int (I 22 7)] [] _) _ = _
  rw [op_tk_25, am_okb, am_vIi, rg_15_84, am_if_b01, hj, at_48 hj32, am_okb, am_vIi, rg_15_90]
  cases (true) <;> rfl
theorem op_tk_26 (I : Nat → Nat → Int32) (J : Nat → Nat → Int64) (T : Nat → Nat → Nat) (L : Nat) (C : Nat × Nat) (x : Int32) : am_E 27 0 [.ref 1027, .int x] [] (am_W I J T L C) = some (.int (am_b01 (decide (x ≠ 0))), (am_W I J T L C)) := by
  refine (rg_27_0 I J T L C 1027 x).trans ?_
  show am_E 27 10 [.ref 1027, .int x] [.int 1] (am_W I J T L C) = _
  rw [rg_27_10]
  by_cases h : x = 0
  · rw [if_pos h, rg_27_15]
    subst h
    rfl
  · rw [if_neg h, rg_27_15]
    simp only [h, ne_eq, not_false_eq_true, decide_true, decide_false]
    rfl
theorem pf_26 (I : Nat → Nat → Int32) (J : Nat → Nat → Int64) (T : Nat → Nat → Nat) (L : Nat) (C : Nat × Nat) {i j : Nat} (hi : i < 80) (hj : I 46 i = nI j) (hj32 : j < 32) : am_E 15 0 [.ref 22, .ref 1027, .ref 34, .int (nI i), .null, .null] [] (am_W I J T L C) = some (.null, am_W (cond (decide (I 22 7 ≠ 0)) (am_up I 22 8 (I 48 j)) I) J T L C) := by
  rw [pf_head _ _ _ _ _ _ hi]
  refine (rg_15_9 I J T L C 1027 (nI i) (I 45 i) .null (I 46 i)).trans ?_
  show Option.bind (am_E 27 0 [.ref 1027, .int (I 22 7)] [] _) _ = _
  rw [op_tk_26, am_okb, am_vIi, rg_15_84, am_if_b01, hj, at_48 hj32, am_okb, am_vIi, rg_15_90]
  cases (decide (I 22 7 ≠ 0)) <;> rfl
theorem op_tk_27 (I : Nat → Nat → Int32) (J : Nat → Nat → Int64) (T : Nat → Nat → Nat) (L : Nat) (C : Nat × Nat) (x : Int32) : am_E 27 0 [.ref 1028, .int x] [] (am_W I J T L C) = some (.int (am_b01 (decide (x = 0))), (am_W I J T L C)) := by
  refine (rg_27_0 I J T L C 1028 x).trans ?_
  show am_E 27 10 [.ref 1028, .int x] [.int 0] (am_W I J T L C) = _
  rw [rg_27_10]
  by_cases h : x = 0
  · rw [if_pos h, rg_27_15]
    subst h
    rfl
  · rw [if_neg h, rg_27_15]
    simp only [h, ne_eq, not_false_eq_true, decide_true, decide_false]
    rfl
theorem pf_27 (I : Nat → Nat → Int32) (J : Nat → Nat → Int64) (T : Nat → Nat → Nat) (L : Nat) (C : Nat × Nat) {i j : Nat} (hi : i < 80) (hj : I 46 i = nI j) (hj32 : j < 32) : am_E 15 0 [.ref 22, .ref 1028, .ref 34, .int (nI i), .null, .null] [] (am_W I J T L C) = some (.null, am_W (cond (decide (I 22 7 = 0)) (am_up I 22 8 (I 48 j)) I) J T L C) := by
  rw [pf_head _ _ _ _ _ _ hi]
  refine (rg_15_9 I J T L C 1028 (nI i) (I 45 i) .null (I 46 i)).trans ?_
  show Option.bind (am_E 27 0 [.ref 1028, .int (I 22 7)] [] _) _ = _
  rw [op_tk_27, am_okb, am_vIi, rg_15_84, am_if_b01, hj, at_48 hj32, am_okb, am_vIi, rg_15_90]
  cases (decide (I 22 7 = 0)) <;> rfl
theorem op_tk_28 (I : Nat → Nat → Int32) (J : Nat → Nat → Int64) (T : Nat → Nat → Nat) (L : Nat) (C : Nat × Nat) (x : Int32) : am_E 27 0 [.ref 1029, .int x] [] (am_W I J T L C) = some (.int (am_b01 true), (am_W I J T L C)) := (rg_27_0 I J T L C 1029 x).trans rfl
theorem pf_28 (I : Nat → Nat → Int32) (J : Nat → Nat → Int64) (T : Nat → Nat → Nat) (L : Nat) (C : Nat × Nat) {i : Nat} (hi : i < 80) : am_E 15 0 [.ref 22, .ref 1029, .ref 34, .int (nI i), .null, .null] [] (am_W I J T L C) = some (.null, am_W (cond (true) (am_up I 22 8 (I 34 6)) I) J T L C) := by
  rw [pf_head _ _ _ _ _ _ hi]
  refine (rg_15_9 I J T L C 1029 (nI i) (I 45 i) .null (I 46 i)).trans ?_
  show Option.bind (am_E 27 0 [.ref 1029, .int (I 22 7)] [] _) _ = _
  rw [op_tk_28, am_okb, am_vIi, rg_15_96, am_if_b01]
  cases (true) <;> rfl
theorem op_tk_29 (I : Nat → Nat → Int32) (J : Nat → Nat → Int64) (T : Nat → Nat → Nat) (L : Nat) (C : Nat × Nat) (x : Int32) : am_E 27 0 [.ref 1030, .int x] [] (am_W I J T L C) = some (.int (am_b01 (decide (x ≠ 0))), (am_W I J T L C)) := by
  refine (rg_27_0 I J T L C 1030 x).trans ?_
  show am_E 27 10 [.ref 1030, .int x] [.int 1] (am_W I J T L C) = _
  rw [rg_27_10]
  by_cases h : x = 0
  · rw [if_pos h, rg_27_15]
    subst h
    rfl
  · rw [if_neg h, rg_27_15]
    simp only [h, ne_eq, not_false_eq_true, decide_true, decide_false]
    rfl
theorem pf_29 (I : Nat → Nat → Int32) (J : Nat → Nat → Int64) (T : Nat → Nat → Nat) (L : Nat) (C : Nat × Nat) {i : Nat} (hi : i < 80) : am_E 15 0 [.ref 22, .ref 1030, .ref 34, .int (nI i), .null, .null] [] (am_W I J T L C) = some (.null, am_W (cond (decide (I 22 7 ≠ 0)) (am_up I 22 8 (I 34 6)) I) J T L C) := by
  rw [pf_head _ _ _ _ _ _ hi]
  refine (rg_15_9 I J T L C 1030 (nI i) (I 45 i) .null (I 46 i)).trans ?_
  show Option.bind (am_E 27 0 [.ref 1030, .int (I 22 7)] [] _) _ = _
  rw [op_tk_29, am_okb, am_vIi, rg_15_96, am_if_b01]
  cases (decide (I 22 7 ≠ 0)) <;> rfl
theorem op_tk_30 (I : Nat → Nat → Int32) (J : Nat → Nat → Int64) (T : Nat → Nat → Nat) (L : Nat) (C : Nat × Nat) (x : Int32) : am_E 27 0 [.ref 1031, .int x] [] (am_W I J T L C) = some (.int (am_b01 (decide (x = 0))), (am_W I J T L C)) := by
  refine (rg_27_0 I J T L C 1031 x).trans ?_
  show am_E 27 10 [.ref 1031, .int x] [.int 0] (am_W I J T L C) = _
  rw [rg_27_10]
  by_cases h : x = 0
  · rw [if_pos h, rg_27_15]
    subst h
    rfl
  · rw [if_neg h, rg_27_15]
    simp only [h, ne_eq, not_false_eq_true, decide_true, decide_false]
    rfl
theorem pf_30 (I : Nat → Nat → Int32) (J : Nat → Nat → Int64) (T : Nat → Nat → Nat) (L : Nat) (C : Nat × Nat) {i : Nat} (hi : i < 80) : am_E 15 0 [.ref 22, .ref 1031, .ref 34, .int (nI i), .null, .null] [] (am_W I J T L C) = some (.null, am_W (cond (decide (I 22 7 = 0)) (am_up I 22 8 (I 34 6)) I) J T L C) := by
  rw [pf_head _ _ _ _ _ _ hi]
  refine (rg_15_9 I J T L C 1031 (nI i) (I 45 i) .null (I 46 i)).trans ?_
  show Option.bind (am_E 27 0 [.ref 1031, .int (I 22 7)] [] _) _ = _
  rw [op_tk_30, am_okb, am_vIi, rg_15_96, am_if_b01]
  cases (decide (I 22 7 = 0)) <;> rfl

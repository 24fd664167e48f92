/-! OPS: what they are, and what calculate answers, op by op. -/
def op_not (x : Int32) : Int32 := if x = 0 then 1 else 0
theorem op_cntN (I : Nat → Nat → Int32) (J : Nat → Nat → Int64) (T : Nat → Nat → Nat) (L : Nat) (C : Nat × Nat) (q : Nat) (x : Int32) (h : am_E 25 0 [.ref q, .int x] [] (am_W I J T L C) = if x = 0 then some (.int 1, (am_W I J T L C)) else some (.int 0, (am_W I J T L C))) : am_E 25 0 [.ref q, .int x] [] (am_W I J T L C) = some (.int (op_not x), (am_W I J T L C)) := by
  rw [h]; unfold op_not
  by_cases e : x = 0
  · rw [if_pos e, if_pos e]
  · rw [if_neg e, if_neg e]
theorem op_ord_0 (I : Nat → Nat → Int32) (J : Nat → Nat → Int64) (T : Nat → Nat → Nat) (L : Nat) (C : Nat × Nat) : am_E 161 0 [.ref 1001] [] (am_W I J T L C) = some (.int 0, (am_W I J T L C)) := (rg_161_0 I J T L C 1001).trans rfl
theorem op_blk_0 (I : Nat → Nat → Int32) (J : Nat → Nat → Int64) (T : Nat → Nat → Nat) (L : Nat) (C : Nat × Nat) : am_E 26 0 [.ref 1001] [] (am_W I J T L C) = some (.int 0, (am_W I J T L C)) := (rg_26_0 I J T L C 1001).trans rfl
theorem op_cnt_0 (I : Nat → Nat → Int32) (J : Nat → Nat → Int64) (T : Nat → Nat → Nat) (L : Nat) (C : Nat × Nat) (x : Int32) : am_E 25 0 [.ref 1001, .int x] [] (am_W I J T L C) = some (.int x, (am_W I J T L C)) := (rg_25_0 I J T L C 1001 x).trans rfl
theorem op_ord_1 (I : Nat → Nat → Int32) (J : Nat → Nat → Int64) (T : Nat → Nat → Nat) (L : Nat) (C : Nat × Nat) : am_E 161 0 [.ref 1002] [] (am_W I J T L C) = some (.int 1, (am_W I J T L C)) := (rg_161_0 I J T L C 1002).trans rfl
theorem op_blk_1 (I : Nat → Nat → Int32) (J : Nat → Nat → Int64) (T : Nat → Nat → Nat) (L : Nat) (C : Nat × Nat) : am_E 26 0 [.ref 1002] [] (am_W I J T L C) = some (.int 0, (am_W I J T L C)) := (rg_26_0 I J T L C 1002).trans rfl
theorem op_cnt_1 (I : Nat → Nat → Int32) (J : Nat → Nat → Int64) (T : Nat → Nat → Nat) (L : Nat) (C : Nat × Nat) (x : Int32) : am_E 25 0 [.ref 1002, .int x] [] (am_W I J T L C) = some (.int (op_not x), (am_W I J T L C)) := op_cntN I J T L C 1002 x ((rg_25_0 I J T L C 1002 x).trans rfl)
theorem op_ord_2 (I : Nat → Nat → Int32) (J : Nat → Nat → Int64) (T : Nat → Nat → Nat) (L : Nat) (C : Nat × Nat) : am_E 161 0 [.ref 1003] [] (am_W I J T L C) = some (.int 2, (am_W I J T L C)) := (rg_161_0 I J T L C 1003).trans rfl
theorem op_blk_2 (I : Nat → Nat → Int32) (J : Nat → Nat → Int64) (T : Nat → Nat → Nat) (L : Nat) (C : Nat × Nat) : am_E 26 0 [.ref 1003] [] (am_W I J T L C) = some (.int 0, (am_W I J T L C)) := (rg_26_0 I J T L C 1003).trans rfl
theorem op_cnt_2 (I : Nat → Nat → Int32) (J : Nat → Nat → Int64) (T : Nat → Nat → Nat) (L : Nat) (C : Nat × Nat) (x : Int32) : am_E 25 0 [.ref 1003, .int x] [] (am_W I J T L C) = some (.int x, (am_W I J T L C)) := (rg_25_0 I J T L C 1003 x).trans rfl
theorem op_ord_3 (I : Nat → Nat → Int32) (J : Nat → Nat → Int64) (T : Nat → Nat → Nat) (L : Nat) (C : Nat × Nat) : am_E 161 0 [.ref 1004] [] (am_W I J T L C) = some (.int 3, (am_W I J T L C)) := (rg_161_0 I J T L C 1004).trans rfl
theorem op_blk_3 (I : Nat → Nat → Int32) (J : Nat → Nat → Int64) (T : Nat → Nat → Nat) (L : Nat) (C : Nat × Nat) : am_E 26 0 [.ref 1004] [] (am_W I J T L C) = some (.int 0, (am_W I J T L C)) := (rg_26_0 I J T L C 1004).trans rfl
theorem op_cnt_3 (I : Nat → Nat → Int32) (J : Nat → Nat → Int64) (T : Nat → Nat → Nat) (L : Nat) (C : Nat × Nat) (x : Int32) : am_E 25 0 [.ref 1004, .int x] [] (am_W I J T L C) = some (.int (op_not x), (am_W I J T L C)) := op_cntN I J T L C 1004 x ((rg_25_0 I J T L C 1004 x).trans rfl)
theorem op_ord_4 (I : Nat → Nat → Int32) (J : Nat → Nat → Int64) (T : Nat → Nat → Nat) (L : Nat) (C : Nat × Nat) : am_E 161 0 [.ref 1005] [] (am_W I J T L C) = some (.int 4, (am_W I J T L C)) := (rg_161_0 I J T L C 1005).trans rfl
theorem op_blk_4 (I : Nat → Nat → Int32) (J : Nat → Nat → Int64) (T : Nat → Nat → Nat) (L : Nat) (C : Nat × Nat) : am_E 26 0 [.ref 1005] [] (am_W I J T L C) = some (.int 0, (am_W I J T L C)) := (rg_26_0 I J T L C 1005).trans rfl
theorem op_ord_5 (I : Nat → Nat → Int32) (J : Nat → Nat → Int64) (T : Nat → Nat → Nat) (L : Nat) (C : Nat × Nat) : am_E 161 0 [.ref 1006] [] (am_W I J T L C) = some (.int 5, (am_W I J T L C)) := (rg_161_0 I J T L C 1006).trans rfl
theorem op_blk_5 (I : Nat → Nat → Int32) (J : Nat → Nat → Int64) (T : Nat → Nat → Nat) (L : Nat) (C : Nat × Nat) : am_E 26 0 [.ref 1006] [] (am_W I J T L C) = some (.int 0, (am_W I J T L C)) := (rg_26_0 I J T L C 1006).trans rfl
theorem op_ord_6 (I : Nat → Nat → Int32) (J : Nat → Nat → Int64) (T : Nat → Nat → Nat) (L : Nat) (C : Nat × Nat) : am_E 161 0 [.ref 1007] [] (am_W I J T L C) = some (.int 6, (am_W I J T L C)) := (rg_161_0 I J T L C 1007).trans rfl
theorem op_blk_6 (I : Nat → Nat → Int32) (J : Nat → Nat → Int64) (T : Nat → Nat → Nat) (L : Nat) (C : Nat × Nat) : am_E 26 0 [.ref 1007] [] (am_W I J T L C) = some (.int 0, (am_W I J T L C)) := (rg_26_0 I J T L C 1007).trans rfl
theorem op_cnt_6 (I : Nat → Nat → Int32) (J : Nat → Nat → Int64) (T : Nat → Nat → Nat) (L : Nat) (C : Nat × Nat) (x : Int32) : am_E 25 0 [.ref 1007, .int x] [] (am_W I J T L C) = some (.int x, (am_W I J T L C)) := (rg_25_0 I J T L C 1007 x).trans rfl
theorem op_ord_7 (I : Nat → Nat → Int32) (J : Nat → Nat → Int64) (T : Nat → Nat → Nat) (L : Nat) (C : Nat × Nat) : am_E 161 0 [.ref 1008] [] (am_W I J T L C) = some (.int 7, (am_W I J T L C)) := (rg_161_0 I J T L C 1008).trans rfl
theorem op_blk_7 (I : Nat → Nat → Int32) (J : Nat → Nat → Int64) (T : Nat → Nat → Nat) (L : Nat) (C : Nat × Nat) : am_E 26 0 [.ref 1008] [] (am_W I J T L C) = some (.int 0, (am_W I J T L C)) := (rg_26_0 I J T L C 1008).trans rfl
theorem op_cnt_7 (I : Nat → Nat → Int32) (J : Nat → Nat → Int64) (T : Nat → Nat → Nat) (L : Nat) (C : Nat × Nat) (x : Int32) : am_E 25 0 [.ref 1008, .int x] [] (am_W I J T L C) = some (.int (op_not x), (am_W I J T L C)) := op_cntN I J T L C 1008 x ((rg_25_0 I J T L C 1008 x).trans rfl)
theorem op_ord_8 (I : Nat → Nat → Int32) (J : Nat → Nat → Int64) (T : Nat → Nat → Nat) (L : Nat) (C : Nat × Nat) : am_E 161 0 [.ref 1009] [] (am_W I J T L C) = some (.int 8, (am_W I J T L C)) := (rg_161_0 I J T L C 1009).trans rfl
theorem op_blk_8 (I : Nat → Nat → Int32) (J : Nat → Nat → Int64) (T : Nat → Nat → Nat) (L : Nat) (C : Nat × Nat) : am_E 26 0 [.ref 1009] [] (am_W I J T L C) = some (.int 0, (am_W I J T L C)) := (rg_26_0 I J T L C 1009).trans rfl
theorem op_cnt_8 (I : Nat → Nat → Int32) (J : Nat → Nat → Int64) (T : Nat → Nat → Nat) (L : Nat) (C : Nat × Nat) (x : Int32) : am_E 25 0 [.ref 1009, .int x] [] (am_W I J T L C) = some (.int x, (am_W I J T L C)) := (rg_25_0 I J T L C 1009 x).trans rfl
theorem op_ord_9 (I : Nat → Nat → Int32) (J : Nat → Nat → Int64) (T : Nat → Nat → Nat) (L : Nat) (C : Nat × Nat) : am_E 161 0 [.ref 1010] [] (am_W I J T L C) = some (.int 9, (am_W I J T L C)) := (rg_161_0 I J T L C 1010).trans rfl
theorem op_blk_9 (I : Nat → Nat → Int32) (J : Nat → Nat → Int64) (T : Nat → Nat → Nat) (L : Nat) (C : Nat × Nat) : am_E 26 0 [.ref 1010] [] (am_W I J T L C) = some (.int 0, (am_W I J T L C)) := (rg_26_0 I J T L C 1010).trans rfl
theorem op_cnt_9 (I : Nat → Nat → Int32) (J : Nat → Nat → Int64) (T : Nat → Nat → Nat) (L : Nat) (C : Nat × Nat) (x : Int32) : am_E 25 0 [.ref 1010, .int x] [] (am_W I J T L C) = some (.int (op_not x), (am_W I J T L C)) := op_cntN I J T L C 1010 x ((rg_25_0 I J T L C 1010 x).trans rfl)
theorem op_ord_10 (I : Nat → Nat → Int32) (J : Nat → Nat → Int64) (T : Nat → Nat → Nat) (L : Nat) (C : Nat × Nat) : am_E 161 0 [.ref 1011] [] (am_W I J T L C) = some (.int 10, (am_W I J T L C)) := (rg_161_0 I J T L C 1011).trans rfl
theorem op_blk_10 (I : Nat → Nat → Int32) (J : Nat → Nat → Int64) (T : Nat → Nat → Nat) (L : Nat) (C : Nat × Nat) : am_E 26 0 [.ref 1011] [] (am_W I J T L C) = some (.int 0, (am_W I J T L C)) := (rg_26_0 I J T L C 1011).trans rfl
theorem op_cnt_10 (I : Nat → Nat → Int32) (J : Nat → Nat → Int64) (T : Nat → Nat → Nat) (L : Nat) (C : Nat × Nat) (x : Int32) : am_E 25 0 [.ref 1011, .int x] [] (am_W I J T L C) = some (.int x, (am_W I J T L C)) := (rg_25_0 I J T L C 1011 x).trans rfl
theorem op_ord_11 (I : Nat → Nat → Int32) (J : Nat → Nat → Int64) (T : Nat → Nat → Nat) (L : Nat) (C : Nat × Nat) : am_E 161 0 [.ref 1012] [] (am_W I J T L C) = some (.int 11, (am_W I J T L C)) := (rg_161_0 I J T L C 1012).trans rfl
theorem op_blk_11 (I : Nat → Nat → Int32) (J : Nat → Nat → Int64) (T : Nat → Nat → Nat) (L : Nat) (C : Nat × Nat) : am_E 26 0 [.ref 1012] [] (am_W I J T L C) = some (.int 0, (am_W I J T L C)) := (rg_26_0 I J T L C 1012).trans rfl
theorem op_cnt_11 (I : Nat → Nat → Int32) (J : Nat → Nat → Int64) (T : Nat → Nat → Nat) (L : Nat) (C : Nat × Nat) (x : Int32) : am_E 25 0 [.ref 1012, .int x] [] (am_W I J T L C) = some (.int (op_not x), (am_W I J T L C)) := op_cntN I J T L C 1012 x ((rg_25_0 I J T L C 1012 x).trans rfl)
theorem op_ord_12 (I : Nat → Nat → Int32) (J : Nat → Nat → Int64) (T : Nat → Nat → Nat) (L : Nat) (C : Nat × Nat) : am_E 161 0 [.ref 1013] [] (am_W I J T L C) = some (.int 12, (am_W I J T L C)) := (rg_161_0 I J T L C 1013).trans rfl
theorem op_blk_12 (I : Nat → Nat → Int32) (J : Nat → Nat → Int64) (T : Nat → Nat → Nat) (L : Nat) (C : Nat × Nat) : am_E 26 0 [.ref 1013] [] (am_W I J T L C) = some (.int 0, (am_W I J T L C)) := (rg_26_0 I J T L C 1013).trans rfl
theorem op_cnt_12 (I : Nat → Nat → Int32) (J : Nat → Nat → Int64) (T : Nat → Nat → Nat) (L : Nat) (C : Nat × Nat) (x : Int32) : am_E 25 0 [.ref 1013, .int x] [] (am_W I J T L C) = some (.int x, (am_W I J T L C)) := (rg_25_0 I J T L C 1013 x).trans rfl
theorem op_ord_13 (I : Nat → Nat → Int32) (J : Nat → Nat → Int64) (T : Nat → Nat → Nat) (L : Nat) (C : Nat × Nat) : am_E 161 0 [.ref 1014] [] (am_W I J T L C) = some (.int 13, (am_W I J T L C)) := (rg_161_0 I J T L C 1014).trans rfl
theorem op_blk_13 (I : Nat → Nat → Int32) (J : Nat → Nat → Int64) (T : Nat → Nat → Nat) (L : Nat) (C : Nat × Nat) : am_E 26 0 [.ref 1014] [] (am_W I J T L C) = some (.int 0, (am_W I J T L C)) := (rg_26_0 I J T L C 1014).trans rfl
theorem op_cnt_13 (I : Nat → Nat → Int32) (J : Nat → Nat → Int64) (T : Nat → Nat → Nat) (L : Nat) (C : Nat × Nat) (x : Int32) : am_E 25 0 [.ref 1014, .int x] [] (am_W I J T L C) = some (.int x, (am_W I J T L C)) := (rg_25_0 I J T L C 1014 x).trans rfl
theorem op_ord_14 (I : Nat → Nat → Int32) (J : Nat → Nat → Int64) (T : Nat → Nat → Nat) (L : Nat) (C : Nat × Nat) : am_E 161 0 [.ref 1015] [] (am_W I J T L C) = some (.int 14, (am_W I J T L C)) := (rg_161_0 I J T L C 1015).trans rfl
theorem op_blk_14 (I : Nat → Nat → Int32) (J : Nat → Nat → Int64) (T : Nat → Nat → Nat) (L : Nat) (C : Nat × Nat) : am_E 26 0 [.ref 1015] [] (am_W I J T L C) = some (.int 0, (am_W I J T L C)) := (rg_26_0 I J T L C 1015).trans rfl
theorem op_cnt_14 (I : Nat → Nat → Int32) (J : Nat → Nat → Int64) (T : Nat → Nat → Nat) (L : Nat) (C : Nat × Nat) (x : Int32) : am_E 25 0 [.ref 1015, .int x] [] (am_W I J T L C) = some (.int x, (am_W I J T L C)) := (rg_25_0 I J T L C 1015 x).trans rfl
theorem op_ord_15 (I : Nat → Nat → Int32) (J : Nat → Nat → Int64) (T : Nat → Nat → Nat) (L : Nat) (C : Nat × Nat) : am_E 161 0 [.ref 1016] [] (am_W I J T L C) = some (.int 15, (am_W I J T L C)) := (rg_161_0 I J T L C 1016).trans rfl
theorem op_blk_15 (I : Nat → Nat → Int32) (J : Nat → Nat → Int64) (T : Nat → Nat → Nat) (L : Nat) (C : Nat × Nat) : am_E 26 0 [.ref 1016] [] (am_W I J T L C) = some (.int 0, (am_W I J T L C)) := (rg_26_0 I J T L C 1016).trans rfl
theorem op_cnt_15 (I : Nat → Nat → Int32) (J : Nat → Nat → Int64) (T : Nat → Nat → Nat) (L : Nat) (C : Nat × Nat) (x : Int32) : am_E 25 0 [.ref 1016, .int x] [] (am_W I J T L C) = some (.int x, (am_W I J T L C)) := (rg_25_0 I J T L C 1016 x).trans rfl
theorem op_ord_16 (I : Nat → Nat → Int32) (J : Nat → Nat → Int64) (T : Nat → Nat → Nat) (L : Nat) (C : Nat × Nat) : am_E 161 0 [.ref 1017] [] (am_W I J T L C) = some (.int 16, (am_W I J T L C)) := (rg_161_0 I J T L C 1017).trans rfl
theorem op_blk_16 (I : Nat → Nat → Int32) (J : Nat → Nat → Int64) (T : Nat → Nat → Nat) (L : Nat) (C : Nat × Nat) : am_E 26 0 [.ref 1017] [] (am_W I J T L C) = some (.int 0, (am_W I J T L C)) := (rg_26_0 I J T L C 1017).trans rfl
theorem op_cnt_16 (I : Nat → Nat → Int32) (J : Nat → Nat → Int64) (T : Nat → Nat → Nat) (L : Nat) (C : Nat × Nat) (x : Int32) : am_E 25 0 [.ref 1017, .int x] [] (am_W I J T L C) = some (.int x, (am_W I J T L C)) := (rg_25_0 I J T L C 1017 x).trans rfl
theorem op_ord_17 (I : Nat → Nat → Int32) (J : Nat → Nat → Int64) (T : Nat → Nat → Nat) (L : Nat) (C : Nat × Nat) : am_E 161 0 [.ref 1018] [] (am_W I J T L C) = some (.int 17, (am_W I J T L C)) := (rg_161_0 I J T L C 1018).trans rfl
theorem op_blk_17 (I : Nat → Nat → Int32) (J : Nat → Nat → Int64) (T : Nat → Nat → Nat) (L : Nat) (C : Nat × Nat) : am_E 26 0 [.ref 1018] [] (am_W I J T L C) = some (.int 0, (am_W I J T L C)) := (rg_26_0 I J T L C 1018).trans rfl
theorem op_cnt_17 (I : Nat → Nat → Int32) (J : Nat → Nat → Int64) (T : Nat → Nat → Nat) (L : Nat) (C : Nat × Nat) (x : Int32) : am_E 25 0 [.ref 1018, .int x] [] (am_W I J T L C) = some (.int x, (am_W I J T L C)) := (rg_25_0 I J T L C 1018 x).trans rfl
theorem op_ord_18 (I : Nat → Nat → Int32) (J : Nat → Nat → Int64) (T : Nat → Nat → Nat) (L : Nat) (C : Nat × Nat) : am_E 161 0 [.ref 1019] [] (am_W I J T L C) = some (.int 18, (am_W I J T L C)) := (rg_161_0 I J T L C 1019).trans rfl
theorem op_blk_18 (I : Nat → Nat → Int32) (J : Nat → Nat → Int64) (T : Nat → Nat → Nat) (L : Nat) (C : Nat × Nat) : am_E 26 0 [.ref 1019] [] (am_W I J T L C) = some (.int 0, (am_W I J T L C)) := (rg_26_0 I J T L C 1019).trans rfl
theorem op_cnt_18 (I : Nat → Nat → Int32) (J : Nat → Nat → Int64) (T : Nat → Nat → Nat) (L : Nat) (C : Nat × Nat) (x : Int32) : am_E 25 0 [.ref 1019, .int x] [] (am_W I J T L C) = some (.int x, (am_W I J T L C)) := (rg_25_0 I J T L C 1019 x).trans rfl
theorem op_ord_19 (I : Nat → Nat → Int32) (J : Nat → Nat → Int64) (T : Nat → Nat → Nat) (L : Nat) (C : Nat × Nat) : am_E 161 0 [.ref 1020] [] (am_W I J T L C) = some (.int 19, (am_W I J T L C)) := (rg_161_0 I J T L C 1020).trans rfl
theorem op_blk_19 (I : Nat → Nat → Int32) (J : Nat → Nat → Int64) (T : Nat → Nat → Nat) (L : Nat) (C : Nat × Nat) : am_E 26 0 [.ref 1020] [] (am_W I J T L C) = some (.int 0, (am_W I J T L C)) := (rg_26_0 I J T L C 1020).trans rfl
theorem op_cnt_19 (I : Nat → Nat → Int32) (J : Nat → Nat → Int64) (T : Nat → Nat → Nat) (L : Nat) (C : Nat × Nat) (x : Int32) : am_E 25 0 [.ref 1020, .int x] [] (am_W I J T L C) = some (.int x, (am_W I J T L C)) := (rg_25_0 I J T L C 1020 x).trans rfl
theorem op_ord_20 (I : Nat → Nat → Int32) (J : Nat → Nat → Int64) (T : Nat → Nat → Nat) (L : Nat) (C : Nat × Nat) : am_E 161 0 [.ref 1021] [] (am_W I J T L C) = some (.int 20, (am_W I J T L C)) := (rg_161_0 I J T L C 1021).trans rfl
theorem op_blk_20 (I : Nat → Nat → Int32) (J : Nat → Nat → Int64) (T : Nat → Nat → Nat) (L : Nat) (C : Nat × Nat) : am_E 26 0 [.ref 1021] [] (am_W I J T L C) = some (.int 0, (am_W I J T L C)) := (rg_26_0 I J T L C 1021).trans rfl
theorem op_cnt_20 (I : Nat → Nat → Int32) (J : Nat → Nat → Int64) (T : Nat → Nat → Nat) (L : Nat) (C : Nat × Nat) (x : Int32) : am_E 25 0 [.ref 1021, .int x] [] (am_W I J T L C) = some (.int x, (am_W I J T L C)) := (rg_25_0 I J T L C 1021 x).trans rfl
theorem op_ord_21 (I : Nat → Nat → Int32) (J : Nat → Nat → Int64) (T : Nat → Nat → Nat) (L : Nat) (C : Nat × Nat) : am_E 161 0 [.ref 1022] [] (am_W I J T L C) = some (.int 21, (am_W I J T L C)) := (rg_161_0 I J T L C 1022).trans rfl
theorem op_blk_21 (I : Nat → Nat → Int32) (J : Nat → Nat → Int64) (T : Nat → Nat → Nat) (L : Nat) (C : Nat × Nat) : am_E 26 0 [.ref 1022] [] (am_W I J T L C) = some (.int 0, (am_W I J T L C)) := (rg_26_0 I J T L C 1022).trans rfl
theorem op_cnt_21 (I : Nat → Nat → Int32) (J : Nat → Nat → Int64) (T : Nat → Nat → Nat) (L : Nat) (C : Nat × Nat) (x : Int32) : am_E 25 0 [.ref 1022, .int x] [] (am_W I J T L C) = some (.int x, (am_W I J T L C)) := (rg_25_0 I J T L C 1022 x).trans rfl
theorem op_ord_22 (I : Nat → Nat → Int32) (J : Nat → Nat → Int64) (T : Nat → Nat → Nat) (L : Nat) (C : Nat × Nat) : am_E 161 0 [.ref 1023] [] (am_W I J T L C) = some (.int 22, (am_W I J T L C)) := (rg_161_0 I J T L C 1023).trans rfl
theorem op_blk_22 (I : Nat → Nat → Int32) (J : Nat → Nat → Int64) (T : Nat → Nat → Nat) (L : Nat) (C : Nat × Nat) : am_E 26 0 [.ref 1023] [] (am_W I J T L C) = some (.int 0, (am_W I J T L C)) := (rg_26_0 I J T L C 1023).trans rfl
theorem op_cnt_22 (I : Nat → Nat → Int32) (J : Nat → Nat → Int64) (T : Nat → Nat → Nat) (L : Nat) (C : Nat × Nat) (x : Int32) : am_E 25 0 [.ref 1023, .int x] [] (am_W I J T L C) = some (.int x, (am_W I J T L C)) := (rg_25_0 I J T L C 1023 x).trans rfl
theorem op_ord_23 (I : Nat → Nat → Int32) (J : Nat → Nat → Int64) (T : Nat → Nat → Nat) (L : Nat) (C : Nat × Nat) : am_E 161 0 [.ref 1024] [] (am_W I J T L C) = some (.int 23, (am_W I J T L C)) := (rg_161_0 I J T L C 1024).trans rfl
theorem op_blk_23 (I : Nat → Nat → Int32) (J : Nat → Nat → Int64) (T : Nat → Nat → Nat) (L : Nat) (C : Nat × Nat) : am_E 26 0 [.ref 1024] [] (am_W I J T L C) = some (.int 0, (am_W I J T L C)) := (rg_26_0 I J T L C 1024).trans rfl
theorem op_ord_24 (I : Nat → Nat → Int32) (J : Nat → Nat → Int64) (T : Nat → Nat → Nat) (L : Nat) (C : Nat × Nat) : am_E 161 0 [.ref 1025] [] (am_W I J T L C) = some (.int 24, (am_W I J T L C)) := (rg_161_0 I J T L C 1025).trans rfl
theorem op_blk_24 (I : Nat → Nat → Int32) (J : Nat → Nat → Int64) (T : Nat → Nat → Nat) (L : Nat) (C : Nat × Nat) : am_E 26 0 [.ref 1025] [] (am_W I J T L C) = some (.int 0, (am_W I J T L C)) := (rg_26_0 I J T L C 1025).trans rfl
theorem op_ord_25 (I : Nat → Nat → Int32) (J : Nat → Nat → Int64) (T : Nat → Nat → Nat) (L : Nat) (C : Nat × Nat) : am_E 161 0 [.ref 1026] [] (am_W I J T L C) = some (.int 25, (am_W I J T L C)) := (rg_161_0 I J T L C 1026).trans rfl
theorem op_blk_25 (I : Nat → Nat → Int32) (J : Nat → Nat → Int64) (T : Nat → Nat → Nat) (L : Nat) (C : Nat × Nat) : am_E 26 0 [.ref 1026] [] (am_W I J T L C) = some (.int 0, (am_W I J T L C)) := (rg_26_0 I J T L C 1026).trans rfl
theorem op_ord_26 (I : Nat → Nat → Int32) (J : Nat → Nat → Int64) (T : Nat → Nat → Nat) (L : Nat) (C : Nat × Nat) : am_E 161 0 [.ref 1027] [] (am_W I J T L C) = some (.int 26, (am_W I J T L C)) := (rg_161_0 I J T L C 1027).trans rfl
theorem op_blk_26 (I : Nat → Nat → Int32) (J : Nat → Nat → Int64) (T : Nat → Nat → Nat) (L : Nat) (C : Nat × Nat) : am_E 26 0 [.ref 1027] [] (am_W I J T L C) = some (.int 0, (am_W I J T L C)) := (rg_26_0 I J T L C 1027).trans rfl
theorem op_ord_27 (I : Nat → Nat → Int32) (J : Nat → Nat → Int64) (T : Nat → Nat → Nat) (L : Nat) (C : Nat × Nat) : am_E 161 0 [.ref 1028] [] (am_W I J T L C) = some (.int 27, (am_W I J T L C)) := (rg_161_0 I J T L C 1028).trans rfl
theorem op_blk_27 (I : Nat → Nat → Int32) (J : Nat → Nat → Int64) (T : Nat → Nat → Nat) (L : Nat) (C : Nat × Nat) : am_E 26 0 [.ref 1028] [] (am_W I J T L C) = some (.int 0, (am_W I J T L C)) := (rg_26_0 I J T L C 1028).trans rfl
theorem op_ord_28 (I : Nat → Nat → Int32) (J : Nat → Nat → Int64) (T : Nat → Nat → Nat) (L : Nat) (C : Nat × Nat) : am_E 161 0 [.ref 1029] [] (am_W I J T L C) = some (.int 28, (am_W I J T L C)) := (rg_161_0 I J T L C 1029).trans rfl
theorem op_blk_28 (I : Nat → Nat → Int32) (J : Nat → Nat → Int64) (T : Nat → Nat → Nat) (L : Nat) (C : Nat × Nat) : am_E 26 0 [.ref 1029] [] (am_W I J T L C) = some (.int 0, (am_W I J T L C)) := (rg_26_0 I J T L C 1029).trans rfl
theorem op_ord_29 (I : Nat → Nat → Int32) (J : Nat → Nat → Int64) (T : Nat → Nat → Nat) (L : Nat) (C : Nat × Nat) : am_E 161 0 [.ref 1030] [] (am_W I J T L C) = some (.int 29, (am_W I J T L C)) := (rg_161_0 I J T L C 1030).trans rfl
theorem op_blk_29 (I : Nat → Nat → Int32) (J : Nat → Nat → Int64) (T : Nat → Nat → Nat) (L : Nat) (C : Nat × Nat) : am_E 26 0 [.ref 1030] [] (am_W I J T L C) = some (.int 0, (am_W I J T L C)) := (rg_26_0 I J T L C 1030).trans rfl
theorem op_ord_30 (I : Nat → Nat → Int32) (J : Nat → Nat → Int64) (T : Nat → Nat → Nat) (L : Nat) (C : Nat × Nat) : am_E 161 0 [.ref 1031] [] (am_W I J T L C) = some (.int 30, (am_W I J T L C)) := (rg_161_0 I J T L C 1031).trans rfl
theorem op_blk_30 (I : Nat → Nat → Int32) (J : Nat → Nat → Int64) (T : Nat → Nat → Nat) (L : Nat) (C : Nat × Nat) : am_E 26 0 [.ref 1031] [] (am_W I J T L C) = some (.int 0, (am_W I J T L C)) := (rg_26_0 I J T L C 1031).trans rfl
theorem op_ord_31 (I : Nat → Nat → Int32) (J : Nat → Nat → Int64) (T : Nat → Nat → Nat) (L : Nat) (C : Nat × Nat) : am_E 161 0 [.ref 1032] [] (am_W I J T L C) = some (.int 31, (am_W I J T L C)) := (rg_161_0 I J T L C 1032).trans rfl
theorem op_blk_31 (I : Nat → Nat → Int32) (J : Nat → Nat → Int64) (T : Nat → Nat → Nat) (L : Nat) (C : Nat × Nat) : am_E 26 0 [.ref 1032] [] (am_W I J T L C) = some (.int 1, (am_W I J T L C)) := (rg_26_0 I J T L C 1032).trans rfl
theorem op_ord_32 (I : Nat → Nat → Int32) (J : Nat → Nat → Int64) (T : Nat → Nat → Nat) (L : Nat) (C : Nat × Nat) : am_E 161 0 [.ref 1033] [] (am_W I J T L C) = some (.int 32, (am_W I J T L C)) := (rg_161_0 I J T L C 1033).trans rfl
theorem op_blk_32 (I : Nat → Nat → Int32) (J : Nat → Nat → Int64) (T : Nat → Nat → Nat) (L : Nat) (C : Nat × Nat) : am_E 26 0 [.ref 1033] [] (am_W I J T L C) = some (.int 1, (am_W I J T L C)) := (rg_26_0 I J T L C 1033).trans rfl
theorem op_ord_33 (I : Nat → Nat → Int32) (J : Nat → Nat → Int64) (T : Nat → Nat → Nat) (L : Nat) (C : Nat × Nat) : am_E 161 0 [.ref 1034] [] (am_W I J T L C) = some (.int 33, (am_W I J T L C)) := (rg_161_0 I J T L C 1034).trans rfl
theorem op_blk_33 (I : Nat → Nat → Int32) (J : Nat → Nat → Int64) (T : Nat → Nat → Nat) (L : Nat) (C : Nat × Nat) : am_E 26 0 [.ref 1034] [] (am_W I J T L C) = some (.int 1, (am_W I J T L C)) := (rg_26_0 I J T L C 1034).trans rfl
theorem op_ord_34 (I : Nat → Nat → Int32) (J : Nat → Nat → Int64) (T : Nat → Nat → Nat) (L : Nat) (C : Nat × Nat) : am_E 161 0 [.ref 1035] [] (am_W I J T L C) = some (.int 34, (am_W I J T L C)) := (rg_161_0 I J T L C 1035).trans rfl
theorem op_blk_34 (I : Nat → Nat → Int32) (J : Nat → Nat → Int64) (T : Nat → Nat → Nat) (L : Nat) (C : Nat × Nat) : am_E 26 0 [.ref 1035] [] (am_W I J T L C) = some (.int 1, (am_W I J T L C)) := (rg_26_0 I J T L C 1035).trans rfl
theorem op_ord_35 (I : Nat → Nat → Int32) (J : Nat → Nat → Int64) (T : Nat → Nat → Nat) (L : Nat) (C : Nat × Nat) : am_E 161 0 [.ref 1036] [] (am_W I J T L C) = some (.int 35, (am_W I J T L C)) := (rg_161_0 I J T L C 1036).trans rfl
theorem op_blk_35 (I : Nat → Nat → Int32) (J : Nat → Nat → Int64) (T : Nat → Nat → Nat) (L : Nat) (C : Nat × Nat) : am_E 26 0 [.ref 1036] [] (am_W I J T L C) = some (.int 1, (am_W I J T L C)) := (rg_26_0 I J T L C 1036).trans rfl
theorem op_ord_36 (I : Nat → Nat → Int32) (J : Nat → Nat → Int64) (T : Nat → Nat → Nat) (L : Nat) (C : Nat × Nat) : am_E 161 0 [.ref 1037] [] (am_W I J T L C) = some (.int 36, (am_W I J T L C)) := (rg_161_0 I J T L C 1037).trans rfl
theorem op_blk_36 (I : Nat → Nat → Int32) (J : Nat → Nat → Int64) (T : Nat → Nat → Nat) (L : Nat) (C : Nat × Nat) : am_E 26 0 [.ref 1037] [] (am_W I J T L C) = some (.int 1, (am_W I J T L C)) := (rg_26_0 I J T L C 1037).trans rfl
theorem op_ord_37 (I : Nat → Nat → Int32) (J : Nat → Nat → Int64) (T : Nat → Nat → Nat) (L : Nat) (C : Nat × Nat) : am_E 161 0 [.ref 1038] [] (am_W I J T L C) = some (.int 37, (am_W I J T L C)) := (rg_161_0 I J T L C 1038).trans rfl
theorem op_blk_37 (I : Nat → Nat → Int32) (J : Nat → Nat → Int64) (T : Nat → Nat → Nat) (L : Nat) (C : Nat × Nat) : am_E 26 0 [.ref 1038] [] (am_W I J T L C) = some (.int 1, (am_W I J T L C)) := (rg_26_0 I J T L C 1038).trans rfl
theorem op_ord_38 (I : Nat → Nat → Int32) (J : Nat → Nat → Int64) (T : Nat → Nat → Nat) (L : Nat) (C : Nat × Nat) : am_E 161 0 [.ref 1039] [] (am_W I J T L C) = some (.int 38, (am_W I J T L C)) := (rg_161_0 I J T L C 1039).trans rfl
theorem op_blk_38 (I : Nat → Nat → Int32) (J : Nat → Nat → Int64) (T : Nat → Nat → Nat) (L : Nat) (C : Nat × Nat) : am_E 26 0 [.ref 1039] [] (am_W I J T L C) = some (.int 1, (am_W I J T L C)) := (rg_26_0 I J T L C 1039).trans rfl
theorem op_ord_39 (I : Nat → Nat → Int32) (J : Nat → Nat → Int64) (T : Nat → Nat → Nat) (L : Nat) (C : Nat × Nat) : am_E 161 0 [.ref 1040] [] (am_W I J T L C) = some (.int 39, (am_W I J T L C)) := (rg_161_0 I J T L C 1040).trans rfl
theorem op_blk_39 (I : Nat → Nat → Int32) (J : Nat → Nat → Int64) (T : Nat → Nat → Nat) (L : Nat) (C : Nat × Nat) : am_E 26 0 [.ref 1040] [] (am_W I J T L C) = some (.int 0, (am_W I J T L C)) := (rg_26_0 I J T L C 1040).trans rfl
theorem op_ord_40 (I : Nat → Nat → Int32) (J : Nat → Nat → Int64) (T : Nat → Nat → Nat) (L : Nat) (C : Nat × Nat) : am_E 161 0 [.ref 1041] [] (am_W I J T L C) = some (.int 40, (am_W I J T L C)) := (rg_161_0 I J T L C 1041).trans rfl
theorem op_blk_40 (I : Nat → Nat → Int32) (J : Nat → Nat → Int64) (T : Nat → Nat → Nat) (L : Nat) (C : Nat × Nat) : am_E 26 0 [.ref 1041] [] (am_W I J T L C) = some (.int 0, (am_W I J T L C)) := (rg_26_0 I J T L C 1041).trans rfl
theorem op_cmp0_17 (I : Nat → Nat → Int32) (J : Nat → Nat → Int64) (T : Nat → Nat → Nat) (L : Nat) (C : Nat × Nat) (x y : Int32) : am_E 20 3 [.ref 22, .ref 1018, .int x, .int y] [.int 17, .ref 4003] (am_W I J T L C) = (if x ≤ y then some (.int 0, (am_W I J T L C)) else some (.int 1, (am_W I J T L C))) := (rg_20_3 I J T L C 1018 x y 17).trans rfl
theorem op_cmp_17 (I : Nat → Nat → Int32) (J : Nat → Nat → Int64) (T : Nat → Nat → Nat) (L : Nat) (C : Nat × Nat) (x y : Int32) : am_E 20 0 [.ref 22, .ref 1018, .int x, .int y] [] (am_W I J T L C) = some (.int (am_b01 (decide (y < x))), (am_W I J T L C)) := by
  rw [rg_20_0]
  show Option.bind (am_E 161 0 [.ref 1018] [] _) _ = _
  rw [op_ord_17, am_okb, am_vIi, op_cmp0_17]
  by_cases h : x ≤ y
  · rw [if_pos h, decide_eq_false (Int32.not_lt.mpr h)]; rfl
  · rw [if_neg h, decide_eq_true (Int32.not_le.mp h)]; rfl
theorem op_cmp0_18 (I : Nat → Nat → Int32) (J : Nat → Nat → Int64) (T : Nat → Nat → Nat) (L : Nat) (C : Nat × Nat) (x y : Int32) : am_E 20 3 [.ref 22, .ref 1019, .int x, .int y] [.int 18, .ref 4003] (am_W I J T L C) = (if x < y then some (.int 0, (am_W I J T L C)) else some (.int 1, (am_W I J T L C))) := (rg_20_3 I J T L C 1019 x y 18).trans rfl
theorem op_cmp_18 (I : Nat → Nat → Int32) (J : Nat → Nat → Int64) (T : Nat → Nat → Nat) (L : Nat) (C : Nat × Nat) (x y : Int32) : am_E 20 0 [.ref 22, .ref 1019, .int x, .int y] [] (am_W I J T L C) = some (.int (am_b01 (decide (y ≤ x))), (am_W I J T L C)) := by
  rw [rg_20_0]
  show Option.bind (am_E 161 0 [.ref 1019] [] _) _ = _
  rw [op_ord_18, am_okb, am_vIi, op_cmp0_18]
  by_cases h : x < y
  · rw [if_pos h, decide_eq_false (Int32.not_le.mpr h)]; rfl
  · rw [if_neg h, decide_eq_true (Int32.not_lt.mp h)]; rfl
theorem op_cmp0_19 (I : Nat → Nat → Int32) (J : Nat → Nat → Int64) (T : Nat → Nat → Nat) (L : Nat) (C : Nat × Nat) (x y : Int32) : am_E 20 3 [.ref 22, .ref 1020, .int x, .int y] [.int 19, .ref 4003] (am_W I J T L C) = (if x = y then some (.int 1, (am_W I J T L C)) else some (.int 0, (am_W I J T L C))) := (rg_20_3 I J T L C 1020 x y 19).trans rfl
theorem op_cmp_19 (I : Nat → Nat → Int32) (J : Nat → Nat → Int64) (T : Nat → Nat → Nat) (L : Nat) (C : Nat × Nat) (x y : Int32) : am_E 20 0 [.ref 22, .ref 1020, .int x, .int y] [] (am_W I J T L C) = some (.int (am_b01 (decide (x = y))), (am_W I J T L C)) := by
  rw [rg_20_0]
  show Option.bind (am_E 161 0 [.ref 1020] [] _) _ = _
  rw [op_ord_19, am_okb, am_vIi, op_cmp0_19]
  by_cases h : x = y
  · rw [if_pos h, decide_eq_true h]; rfl
  · rw [if_neg h, decide_eq_false h]; rfl
theorem op_cmp0_20 (I : Nat → Nat → Int32) (J : Nat → Nat → Int64) (T : Nat → Nat → Nat) (L : Nat) (C : Nat × Nat) (x y : Int32) : am_E 20 3 [.ref 22, .ref 1021, .int x, .int y] [.int 20, .ref 4003] (am_W I J T L C) = (if x = y then some (.int 0, (am_W I J T L C)) else some (.int 1, (am_W I J T L C))) := (rg_20_3 I J T L C 1021 x y 20).trans rfl
theorem op_cmp_20 (I : Nat → Nat → Int32) (J : Nat → Nat → Int64) (T : Nat → Nat → Nat) (L : Nat) (C : Nat × Nat) (x y : Int32) : am_E 20 0 [.ref 22, .ref 1021, .int x, .int y] [] (am_W I J T L C) = some (.int (am_b01 (decide (¬ x = y))), (am_W I J T L C)) := by
  rw [rg_20_0]
  show Option.bind (am_E 161 0 [.ref 1021] [] _) _ = _
  rw [op_ord_20, am_okb, am_vIi, op_cmp0_20]
  by_cases h : x = y
  · rw [if_pos h, decide_eq_false (fun e => e h)]; rfl
  · rw [if_neg h, decide_eq_true (h)]; rfl
theorem op_cmp0_21 (I : Nat → Nat → Int32) (J : Nat → Nat → Int64) (T : Nat → Nat → Nat) (L : Nat) (C : Nat × Nat) (x y : Int32) : am_E 20 3 [.ref 22, .ref 1022, .int x, .int y] [.int 21, .ref 4003] (am_W I J T L C) = (if y < x then some (.int 0, (am_W I J T L C)) else some (.int 1, (am_W I J T L C))) := (rg_20_3 I J T L C 1022 x y 21).trans rfl
theorem op_cmp_21 (I : Nat → Nat → Int32) (J : Nat → Nat → Int64) (T : Nat → Nat → Nat) (L : Nat) (C : Nat × Nat) (x y : Int32) : am_E 20 0 [.ref 22, .ref 1022, .int x, .int y] [] (am_W I J T L C) = some (.int (am_b01 (decide (x ≤ y))), (am_W I J T L C)) := by
  rw [rg_20_0]
  show Option.bind (am_E 161 0 [.ref 1022] [] _) _ = _
  rw [op_ord_21, am_okb, am_vIi, op_cmp0_21]
  by_cases h : y < x
  · rw [if_pos h, decide_eq_false (Int32.not_le.mpr h)]; rfl
  · rw [if_neg h, decide_eq_true (Int32.not_lt.mp h)]; rfl
theorem op_cmp0_22 (I : Nat → Nat → Int32) (J : Nat → Nat → Int64) (T : Nat → Nat → Nat) (L : Nat) (C : Nat × Nat) (x y : Int32) : am_E 20 3 [.ref 22, .ref 1023, .int x, .int y] [.int 22, .ref 4003] (am_W I J T L C) = (if y ≤ x then some (.int 0, (am_W I J T L C)) else some (.int 1, (am_W I J T L C))) := (rg_20_3 I J T L C 1023 x y 22).trans rfl
theorem op_cmp_22 (I : Nat → Nat → Int32) (J : Nat → Nat → Int64) (T : Nat → Nat → Nat) (L : Nat) (C : Nat × Nat) (x y : Int32) : am_E 20 0 [.ref 22, .ref 1023, .int x, .int y] [] (am_W I J T L C) = some (.int (am_b01 (decide (x < y))), (am_W I J T L C)) := by
  rw [rg_20_0]
  show Option.bind (am_E 161 0 [.ref 1023] [] _) _ = _
  rw [op_ord_22, am_okb, am_vIi, op_cmp0_22]
  by_cases h : y ≤ x
  · rw [if_pos h, decide_eq_false (Int32.not_lt.mpr h)]; rfl
  · rw [if_neg h, decide_eq_true (Int32.not_le.mp h)]; rfl
theorem op_cal_6 (I : Nat → Nat → Int32) (J : Nat → Nat → Int64) (T : Nat → Nat → Nat) (L : Nat) (C : Nat × Nat) (x y : Int32) : am_E 19 0 [.ref 22, .ref 1007, .int x, .int y, .null] [] (am_W I J T L C) = some (.int (x &&& y), (am_W I J T L C)) := by
  rw [rg_19_0]
  show Option.bind (am_E 25 0 [.ref 1007, .int y] [] _) _ = _
  rw [op_cnt_6, am_okb, am_vIi, rg_19_3]
  show Option.bind (am_E 161 0 [.ref 1007] [] _) _ = _
  rw [op_ord_6, am_okb, am_vIi, rg_19_7]
  rfl
theorem op_cal_7 (I : Nat → Nat → Int32) (J : Nat → Nat → Int64) (T : Nat → Nat → Nat) (L : Nat) (C : Nat × Nat) (x y : Int32) : am_E 19 0 [.ref 22, .ref 1008, .int x, .int y, .null] [] (am_W I J T L C) = some (.int (x &&& (op_not y)), (am_W I J T L C)) := by
  rw [rg_19_0]
  show Option.bind (am_E 25 0 [.ref 1008, .int y] [] _) _ = _
  rw [op_cnt_7, am_okb, am_vIi, rg_19_3]
  show Option.bind (am_E 161 0 [.ref 1008] [] _) _ = _
  rw [op_ord_7, am_okb, am_vIi, rg_19_7]
  rfl
theorem op_cal_8 (I : Nat → Nat → Int32) (J : Nat → Nat → Int64) (T : Nat → Nat → Nat) (L : Nat) (C : Nat × Nat) (x y : Int32) : am_E 19 0 [.ref 22, .ref 1009, .int x, .int y, .null] [] (am_W I J T L C) = some (.int (x ||| y), (am_W I J T L C)) := by
  rw [rg_19_0]
  show Option.bind (am_E 25 0 [.ref 1009, .int y] [] _) _ = _
  rw [op_cnt_8, am_okb, am_vIi, rg_19_3]
  show Option.bind (am_E 161 0 [.ref 1009] [] _) _ = _
  rw [op_ord_8, am_okb, am_vIi, rg_19_7]
  rfl
theorem op_cal_9 (I : Nat → Nat → Int32) (J : Nat → Nat → Int64) (T : Nat → Nat → Nat) (L : Nat) (C : Nat × Nat) (x y : Int32) : am_E 19 0 [.ref 22, .ref 1010, .int x, .int y, .null] [] (am_W I J T L C) = some (.int (x ||| (op_not y)), (am_W I J T L C)) := by
  rw [rg_19_0]
  show Option.bind (am_E 25 0 [.ref 1010, .int y] [] _) _ = _
  rw [op_cnt_9, am_okb, am_vIi, rg_19_3]
  show Option.bind (am_E 161 0 [.ref 1010] [] _) _ = _
  rw [op_ord_9, am_okb, am_vIi, rg_19_7]
  rfl
theorem op_cal_10 (I : Nat → Nat → Int32) (J : Nat → Nat → Int64) (T : Nat → Nat → Nat) (L : Nat) (C : Nat × Nat) (x y : Int32) : am_E 19 0 [.ref 22, .ref 1011, .int x, .int y, .null] [] (am_W I J T L C) = some (.int (x ^^^ y), (am_W I J T L C)) := by
  rw [rg_19_0]
  show Option.bind (am_E 25 0 [.ref 1011, .int y] [] _) _ = _
  rw [op_cnt_10, am_okb, am_vIi, rg_19_3]
  show Option.bind (am_E 161 0 [.ref 1011] [] _) _ = _
  rw [op_ord_10, am_okb, am_vIi, rg_19_7]
  rfl
theorem op_cal_11 (I : Nat → Nat → Int32) (J : Nat → Nat → Int64) (T : Nat → Nat → Nat) (L : Nat) (C : Nat × Nat) (x y : Int32) : am_E 19 0 [.ref 22, .ref 1012, .int x, .int y, .null] [] (am_W I J T L C) = some (.int (x ^^^ (op_not y)), (am_W I J T L C)) := by
  rw [rg_19_0]
  show Option.bind (am_E 25 0 [.ref 1012, .int y] [] _) _ = _
  rw [op_cnt_11, am_okb, am_vIi, rg_19_3]
  show Option.bind (am_E 161 0 [.ref 1012] [] _) _ = _
  rw [op_ord_11, am_okb, am_vIi, rg_19_7]
  rfl
theorem op_cal_12 (I : Nat → Nat → Int32) (J : Nat → Nat → Int64) (T : Nat → Nat → Nat) (L : Nat) (C : Nat × Nat) (x y : Int32) : am_E 19 0 [.ref 22, .ref 1013, .int x, .int y, .null] [] (am_W I J T L C) = some (.int (x + y), (am_W I J T L C)) := by
  rw [rg_19_0]
  show Option.bind (am_E 25 0 [.ref 1013, .int y] [] _) _ = _
  rw [op_cnt_12, am_okb, am_vIi, rg_19_3]
  show Option.bind (am_E 161 0 [.ref 1013] [] _) _ = _
  rw [op_ord_12, am_okb, am_vIi, rg_19_7]
  rfl
theorem op_cal_13 (I : Nat → Nat → Int32) (J : Nat → Nat → Int64) (T : Nat → Nat → Nat) (L : Nat) (C : Nat × Nat) (x y : Int32) : am_E 19 0 [.ref 22, .ref 1014, .int x, .int y, .null] [] (am_W I J T L C) = some (.int (x - y), (am_W I J T L C)) := by
  rw [rg_19_0]
  show Option.bind (am_E 25 0 [.ref 1014, .int y] [] _) _ = _
  rw [op_cnt_13, am_okb, am_vIi, rg_19_3]
  show Option.bind (am_E 161 0 [.ref 1014] [] _) _ = _
  rw [op_ord_13, am_okb, am_vIi, rg_19_7]
  rfl
theorem op_cal_14 (I : Nat → Nat → Int32) (J : Nat → Nat → Int64) (T : Nat → Nat → Nat) (L : Nat) (C : Nat × Nat) (x y : Int32) : am_E 19 0 [.ref 22, .ref 1015, .int x, .int y, .null] [] (am_W I J T L C) = some (.int (x * y), (am_W I J T L C)) := by
  rw [rg_19_0]
  show Option.bind (am_E 25 0 [.ref 1015, .int y] [] _) _ = _
  rw [op_cnt_14, am_okb, am_vIi, rg_19_3]
  show Option.bind (am_E 161 0 [.ref 1015] [] _) _ = _
  rw [op_ord_14, am_okb, am_vIi, rg_19_7]
  rfl
theorem op_cal_15_1 (I : Nat → Nat → Int32) (J : Nat → Nat → Int64) (T : Nat → Nat → Nat) (L : Nat) (C : Nat × Nat) (x y : Int32) (v : Int32) : am_E 19 7 [.ref 22, .ref 1016, .int x, .int y, .int v] [.int 15, .ref 4003] (am_W I J T L C) = (if v = 0 then some (.int x, am_W (am_up I 22 3 2) J T L C) else if v = 0 then none else some (.int (x / v), (am_W I J T L C))) := (rg_19_7 I J T L C 1016 x y v 15).trans rfl
theorem op_cal_15 (I : Nat → Nat → Int32) (J : Nat → Nat → Int64) (T : Nat → Nat → Nat) (L : Nat) (C : Nat × Nat) (x y : Int32) : am_E 19 0 [.ref 22, .ref 1016, .int x, .int y, .null] [] (am_W I J T L C) = if y = 0 then some (.int x, am_W (am_up I 22 3 2) J T L C) else some (.int (x / y), (am_W I J T L C)) := by
  rw [rg_19_0]
  show Option.bind (am_E 25 0 [.ref 1016, .int y] [] _) _ = _
  rw [op_cnt_15, am_okb, am_vIi, rg_19_3]
  show Option.bind (am_E 161 0 [.ref 1016] [] _) _ = _
  rw [op_ord_15, am_okb, am_vIi, op_cal_15_1]
  by_cases h : y = 0
  · rw [if_pos h, if_pos h]
  · rw [if_neg h, if_neg h, if_neg h]
theorem op_cal_16_1 (I : Nat → Nat → Int32) (J : Nat → Nat → Int64) (T : Nat → Nat → Nat) (L : Nat) (C : Nat × Nat) (x y : Int32) (v : Int32) : am_E 19 7 [.ref 22, .ref 1017, .int x, .int y, .int v] [.int 16, .ref 4003] (am_W I J T L C) = (if v = 0 then some (.int x, am_W (am_up I 22 3 2) J T L C) else if v = 0 then none else some (.int (x - x / v * v), (am_W I J T L C))) := (rg_19_7 I J T L C 1017 x y v 16).trans rfl
theorem op_cal_16 (I : Nat → Nat → Int32) (J : Nat → Nat → Int64) (T : Nat → Nat → Nat) (L : Nat) (C : Nat × Nat) (x y : Int32) : am_E 19 0 [.ref 22, .ref 1017, .int x, .int y, .null] [] (am_W I J T L C) = if y = 0 then some (.int x, am_W (am_up I 22 3 2) J T L C) else some (.int (x - x / y * y), (am_W I J T L C)) := by
  rw [rg_19_0]
  show Option.bind (am_E 25 0 [.ref 1017, .int y] [] _) _ = _
  rw [op_cnt_16, am_okb, am_vIi, rg_19_3]
  show Option.bind (am_E 161 0 [.ref 1017] [] _) _ = _
  rw [op_ord_16, am_okb, am_vIi, op_cal_16_1]
  by_cases h : y = 0
  · rw [if_pos h, if_pos h]
  · rw [if_neg h, if_neg h, if_neg h]
theorem op_cal_17_1 (I : Nat → Nat → Int32) (J : Nat → Nat → Int64) (T : Nat → Nat → Nat) (L : Nat) (C : Nat × Nat) (x y v : Int32) : am_E 19 7 [.ref 22, .ref 1018, .int x, .int y, .int v] [.int 17, .ref 4003] (am_W I J T L C) = (am_E 20 0 [.ref 22, .ref 1018, .int x, .int v] [] (am_W I J T L C)).bind (fun z1 => am_vI z1.1 fun u1 => (am_E 19 56 [.ref 22, .ref 1018, .int x, .int y, .int v] [.int u1] z1.2)) := (rg_19_7 I J T L C 1018 x y v 17).trans rfl
theorem op_cal_17 (I : Nat → Nat → Int32) (J : Nat → Nat → Int64) (T : Nat → Nat → Nat) (L : Nat) (C : Nat × Nat) (x y : Int32) : am_E 19 0 [.ref 22, .ref 1018, .int x, .int y, .null] [] (am_W I J T L C) = some (.int (am_b01 (decide (y < x))), (am_W I J T L C)) := by
  rw [rg_19_0]
  show Option.bind (am_E 25 0 [.ref 1018, .int y] [] _) _ = _
  rw [op_cnt_17, am_okb, am_vIi, rg_19_3]
  show Option.bind (am_E 161 0 [.ref 1018] [] _) _ = _
  rw [op_ord_17, am_okb, am_vIi, op_cal_17_1, op_cmp_17, am_okb, am_vIi, rg_19_56, am_if_b01]
  cases decide (y < x) <;> rfl
theorem op_cal_18_1 (I : Nat → Nat → Int32) (J : Nat → Nat → Int64) (T : Nat → Nat → Nat) (L : Nat) (C : Nat × Nat) (x y v : Int32) : am_E 19 7 [.ref 22, .ref 1019, .int x, .int y, .int v] [.int 18, .ref 4003] (am_W I J T L C) = (am_E 20 0 [.ref 22, .ref 1019, .int x, .int v] [] (am_W I J T L C)).bind (fun z1 => am_vI z1.1 fun u1 => (am_E 19 56 [.ref 22, .ref 1019, .int x, .int y, .int v] [.int u1] z1.2)) := (rg_19_7 I J T L C 1019 x y v 18).trans rfl
theorem op_cal_18 (I : Nat → Nat → Int32) (J : Nat → Nat → Int64) (T : Nat → Nat → Nat) (L : Nat) (C : Nat × Nat) (x y : Int32) : am_E 19 0 [.ref 22, .ref 1019, .int x, .int y, .null] [] (am_W I J T L C) = some (.int (am_b01 (decide (y ≤ x))), (am_W I J T L C)) := by
  rw [rg_19_0]
  show Option.bind (am_E 25 0 [.ref 1019, .int y] [] _) _ = _
  rw [op_cnt_18, am_okb, am_vIi, rg_19_3]
  show Option.bind (am_E 161 0 [.ref 1019] [] _) _ = _
  rw [op_ord_18, am_okb, am_vIi, op_cal_18_1, op_cmp_18, am_okb, am_vIi, rg_19_56, am_if_b01]
  cases decide (y ≤ x) <;> rfl
theorem op_cal_19_1 (I : Nat → Nat → Int32) (J : Nat → Nat → Int64) (T : Nat → Nat → Nat) (L : Nat) (C : Nat × Nat) (x y v : Int32) : am_E 19 7 [.ref 22, .ref 1020, .int x, .int y, .int v] [.int 19, .ref 4003] (am_W I J T L C) = (am_E 20 0 [.ref 22, .ref 1020, .int x, .int v] [] (am_W I J T L C)).bind (fun z1 => am_vI z1.1 fun u1 => (am_E 19 56 [.ref 22, .ref 1020, .int x, .int y, .int v] [.int u1] z1.2)) := (rg_19_7 I J T L C 1020 x y v 19).trans rfl
theorem op_cal_19 (I : Nat → Nat → Int32) (J : Nat → Nat → Int64) (T : Nat → Nat → Nat) (L : Nat) (C : Nat × Nat) (x y : Int32) : am_E 19 0 [.ref 22, .ref 1020, .int x, .int y, .null] [] (am_W I J T L C) = some (.int (am_b01 (decide (x = y))), (am_W I J T L C)) := by
  rw [rg_19_0]
  show Option.bind (am_E 25 0 [.ref 1020, .int y] [] _) _ = _
  rw [op_cnt_19, am_okb, am_vIi, rg_19_3]
  show Option.bind (am_E 161 0 [.ref 1020] [] _) _ = _
  rw [op_ord_19, am_okb, am_vIi, op_cal_19_1, op_cmp_19, am_okb, am_vIi, rg_19_56, am_if_b01]
  cases decide (x = y) <;> rfl
theorem op_cal_20_1 (I : Nat → Nat → Int32) (J : Nat → Nat → Int64) (T : Nat → Nat → Nat) (L : Nat) (C : Nat × Nat) (x y v : Int32) : am_E 19 7 [.ref 22, .ref 1021, .int x, .int y, .int v] [.int 20, .ref 4003] (am_W I J T L C) = (am_E 20 0 [.ref 22, .ref 1021, .int x, .int v] [] (am_W I J T L C)).bind (fun z1 => am_vI z1.1 fun u1 => (am_E 19 56 [.ref 22, .ref 1021, .int x, .int y, .int v] [.int u1] z1.2)) := (rg_19_7 I J T L C 1021 x y v 20).trans rfl
theorem op_cal_20 (I : Nat → Nat → Int32) (J : Nat → Nat → Int64) (T : Nat → Nat → Nat) (L : Nat) (C : Nat × Nat) (x y : Int32) : am_E 19 0 [.ref 22, .ref 1021, .int x, .int y, .null] [] (am_W I J T L C) = some (.int (am_b01 (decide (¬ x = y))), (am_W I J T L C)) := by
  rw [rg_19_0]
  show Option.bind (am_E 25 0 [.ref 1021, .int y] [] _) _ = _
  rw [op_cnt_20, am_okb, am_vIi, rg_19_3]
  show Option.bind (am_E 161 0 [.ref 1021] [] _) _ = _
  rw [op_ord_20, am_okb, am_vIi, op_cal_20_1, op_cmp_20, am_okb, am_vIi, rg_19_56, am_if_b01]
  cases decide (¬ x = y) <;> rfl
theorem op_cal_21_1 (I : Nat → Nat → Int32) (J : Nat → Nat → Int64) (T : Nat → Nat → Nat) (L : Nat) (C : Nat × Nat) (x y v : Int32) : am_E 19 7 [.ref 22, .ref 1022, .int x, .int y, .int v] [.int 21, .ref 4003] (am_W I J T L C) = (am_E 20 0 [.ref 22, .ref 1022, .int x, .int v] [] (am_W I J T L C)).bind (fun z1 => am_vI z1.1 fun u1 => (am_E 19 56 [.ref 22, .ref 1022, .int x, .int y, .int v] [.int u1] z1.2)) := (rg_19_7 I J T L C 1022 x y v 21).trans rfl
theorem op_cal_21 (I : Nat → Nat → Int32) (J : Nat → Nat → Int64) (T : Nat → Nat → Nat) (L : Nat) (C : Nat × Nat) (x y : Int32) : am_E 19 0 [.ref 22, .ref 1022, .int x, .int y, .null] [] (am_W I J T L C) = some (.int (am_b01 (decide (x ≤ y))), (am_W I J T L C)) := by
  rw [rg_19_0]
  show Option.bind (am_E 25 0 [.ref 1022, .int y] [] _) _ = _
  rw [op_cnt_21, am_okb, am_vIi, rg_19_3]
  show Option.bind (am_E 161 0 [.ref 1022] [] _) _ = _
  rw [op_ord_21, am_okb, am_vIi, op_cal_21_1, op_cmp_21, am_okb, am_vIi, rg_19_56, am_if_b01]
  cases decide (x ≤ y) <;> rfl
theorem op_cal_22_1 (I : Nat → Nat → Int32) (J : Nat → Nat → Int64) (T : Nat → Nat → Nat) (L : Nat) (C : Nat × Nat) (x y v : Int32) : am_E 19 7 [.ref 22, .ref 1023, .int x, .int y, .int v] [.int 22, .ref 4003] (am_W I J T L C) = (am_E 20 0 [.ref 22, .ref 1023, .int x, .int v] [] (am_W I J T L C)).bind (fun z1 => am_vI z1.1 fun u1 => (am_E 19 56 [.ref 22, .ref 1023, .int x, .int y, .int v] [.int u1] z1.2)) := (rg_19_7 I J T L C 1023 x y v 22).trans rfl
theorem op_cal_22 (I : Nat → Nat → Int32) (J : Nat → Nat → Int64) (T : Nat → Nat → Nat) (L : Nat) (C : Nat × Nat) (x y : Int32) : am_E 19 0 [.ref 22, .ref 1023, .int x, .int y, .null] [] (am_W I J T L C) = some (.int (am_b01 (decide (x < y))), (am_W I J T L C)) := by
  rw [rg_19_0]
  show Option.bind (am_E 25 0 [.ref 1023, .int y] [] _) _ = _
  rw [op_cnt_22, am_okb, am_vIi, rg_19_3]
  show Option.bind (am_E 161 0 [.ref 1023] [] _) _ = _
  rw [op_ord_22, am_okb, am_vIi, op_cal_22_1, op_cmp_22, am_okb, am_vIi, rg_19_56, am_if_b01]
  cases decide (x < y) <;> rfl

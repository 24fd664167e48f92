/-! THE PAST of timers, counters and edges: what the class's methods answer and write. -/
theorem lf_withBit1 {I : Nat → Nat → Int32} {J : Nat → Nat → Int64} {T : Nat → Nat → Nat} {L : Nat} {C : Nat × Nat} {x : Int32} {k : Nat} : am_E 92 0 [.int x, .int (nI k), .int 1] [] (am_W I J T L C) = some (.int (am_wb x k true), (am_W I J T L C)) := lf_withBit (b := true)
theorem lf_withBit0 {I : Nat → Nat → Int32} {J : Nat → Nat → Int64} {T : Nat → Nat → Nat} {L : Nat} {C : Nat × Nat} {x : Int32} {k : Nat} : am_E 92 0 [.int x, .int (nI k), .int 0] [] (am_W I J T L C) = some (.int (am_wb x k false), (am_W I J T L C)) := lf_withBit (b := false)
theorem cl_setBitL {I : Nat → Nat → Int32} {J : Nat → Nat → Int64} {T : Nat → Nat → Nat} {L : Nat} {C : Nat × Nat} {j : Nat} {b : Bool} : am_E 3 0 [.ref 23, .int 5, .int (nI j), .int (am_b01 b)] [] (am_W I J T L C) = some (.null, am_W (am_up I 24 5 (am_wb (I 24 5) j b)) J T L C) := cl_setBit (k := 5) (by decide)
theorem am_if_b01 {α : Type} (b : Bool) (x y : α) : (if am_b01 b = 0 then x else y) = cond b y x := by
  cases b
  · rw [if_pos (show am_b01 false = 0 from rfl)]; rfl
  · rw [if_neg (by decide +kernel)]; rfl
def am_tm (I : Nat → Nat → Int32) (j : Nat) (b : Bool) (g : Int32) : Nat → Nat → Int32 := am_up (am_up I 24 4 (am_wb (I 24 4) j b)) 26 j g
theorem cl_tm {I : Nat → Nat → Int32} {J : Nat → Nat → Int64} {T : Nat → Nat → Nat} {L : Nat} {C : Nat × Nat} {j : Nat} {b : Bool} {g : Int32} (hj : j < 8) : am_E 5 0 [.ref 23, .int (nI j), .int (am_b01 b), .int g] [] (am_W I J T L C) = some (.null, am_W (am_tm I j b g) J T L C) := cl_setTimer hj
theorem cl_tm1 {I : Nat → Nat → Int32} {J : Nat → Nat → Int64} {T : Nat → Nat → Nat} {L : Nat} {C : Nat × Nat} {j : Nat} {g : Int32} (hj : j < 8) : am_E 5 0 [.ref 23, .int (nI j), .int 1, .int g] [] (am_W I J T L C) = some (.null, am_W (am_tm I j true g) J T L C) := cl_setTimer (b := true) hj
theorem cl_tm0 {I : Nat → Nat → Int32} {J : Nat → Nat → Int64} {T : Nat → Nat → Nat} {L : Nat} {C : Nat × Nat} {j : Nat} {g : Int32} (hj : j < 8) : am_E 5 0 [.ref 23, .int (nI j), .int 0, .int g] [] (am_W I J T L C) = some (.null, am_W (am_tm I j false g) J T L C) := cl_setTimer (b := false) hj
def am_gone (now since : Int64) (lim : Int32) : Int32 := Int64.toInt32 (if 0 < lg_cmp (now - since) lim.toInt64 then lim.toInt64 else now - since)
theorem pa_begin_29 {I : Nat → Nat → Int32} {J : Nat → Nat → Int64} {T : Nat → Nat → Nat} {L : Nat} {C : Nat × Nat} {j : Nat} {y : Int64} (hj : j < 8) : am_E 30 0 [.ref 29, .int (nI j), .long y, .null] [] (am_W I J T L C) = some (.null, am_W I (am_up J 29 j y) T L C) := by
  rw [rg_30_0]
  show (if nI j < 0 then _ else if nI 8 ≤ nI j then _ else am_inb (nI j) 8 (some (Value.null, am_W I (am_up J 29 (Int32.toNatClampNeg (nI j)) y) T L C))) = _
  rw [if_neg (nI_pos (by omega)), if_neg (nI_ge hj (by decide)), am_inb_ok hj (by decide), nI_clamp (by omega)]
theorem pa_gone_29 {I : Nat → Nat → Int32} {J : Nat → Nat → Int64} {T : Nat → Nat → Nat} {L : Nat} {C : Nat × Nat} {j : Nat} {y : Int64} {x : Int32} (hj : j < 8) : am_E 31 0 [.ref 29, .int (nI j), .long y, .null, .int x, .null, .null] [] (am_W I J T L C) = some (.int (am_gone y (J 29 j) x), (am_W I J T L C)) := by
  rw [rg_31_0]
  show (if nI j < 0 then _ else if nI 8 ≤ nI j then _ else am_inb (nI j) 8 (am_E 31 11 [.ref 29, .int (nI j), .long y, .null, .int x, .null, .null] [.long (J 29 (Int32.toNatClampNeg (nI j)))] (am_W I J T L C))) = _
  rw [if_neg (nI_pos (by omega)), if_neg (nI_ge hj (by decide)), am_inb_ok hj (by decide), nI_clamp (by omega), rg_31_11, rg_164_0]
  unfold am_gone
  by_cases h : 0 < lg_cmp (y - J 29 j) x.toInt64
  · rw [if_pos h, if_pos h]
    simp only [am_okb, am_vJl, rg_31_18]
  · rw [if_neg h, if_neg h]
    simp only [am_okb, am_vJl, rg_31_18]
theorem pa_begin_30 {I : Nat → Nat → Int32} {J : Nat → Nat → Int64} {T : Nat → Nat → Nat} {L : Nat} {C : Nat × Nat} {j : Nat} {y : Int64} (hj : j < 8) : am_E 30 0 [.ref 30, .int (nI j), .long y, .null] [] (am_W I J T L C) = some (.null, am_W I (am_up J 30 j y) T L C) := by
  rw [rg_30_0]
  show (if nI j < 0 then _ else if nI 8 ≤ nI j then _ else am_inb (nI j) 8 (some (Value.null, am_W I (am_up J 30 (Int32.toNatClampNeg (nI j)) y) T L C))) = _
  rw [if_neg (nI_pos (by omega)), if_neg (nI_ge hj (by decide)), am_inb_ok hj (by decide), nI_clamp (by omega)]
theorem pa_gone_30 {I : Nat → Nat → Int32} {J : Nat → Nat → Int64} {T : Nat → Nat → Nat} {L : Nat} {C : Nat × Nat} {j : Nat} {y : Int64} {x : Int32} (hj : j < 8) : am_E 31 0 [.ref 30, .int (nI j), .long y, .null, .int x, .null, .null] [] (am_W I J T L C) = some (.int (am_gone y (J 30 j) x), (am_W I J T L C)) := by
  rw [rg_31_0]
  show (if nI j < 0 then _ else if nI 8 ≤ nI j then _ else am_inb (nI j) 8 (am_E 31 11 [.ref 30, .int (nI j), .long y, .null, .int x, .null, .null] [.long (J 30 (Int32.toNatClampNeg (nI j)))] (am_W I J T L C))) = _
  rw [if_neg (nI_pos (by omega)), if_neg (nI_ge hj (by decide)), am_inb_ok hj (by decide), nI_clamp (by omega), rg_31_11, rg_164_0]
  unfold am_gone
  by_cases h : 0 < lg_cmp (y - J 30 j) x.toInt64
  · rw [if_pos h, if_pos h]
    simp only [am_okb, am_vJl, rg_31_18]
  · rw [if_neg h, if_neg h]
    simp only [am_okb, am_vJl, rg_31_18]
theorem pa_begin_31 {I : Nat → Nat → Int32} {J : Nat → Nat → Int64} {T : Nat → Nat → Nat} {L : Nat} {C : Nat × Nat} {j : Nat} {y : Int64} (hj : j < 8) : am_E 30 0 [.ref 31, .int (nI j), .long y, .null] [] (am_W I J T L C) = some (.null, am_W I (am_up J 31 j y) T L C) := by
  rw [rg_30_0]
  show (if nI j < 0 then _ else if nI 8 ≤ nI j then _ else am_inb (nI j) 8 (some (Value.null, am_W I (am_up J 31 (Int32.toNatClampNeg (nI j)) y) T L C))) = _
  rw [if_neg (nI_pos (by omega)), if_neg (nI_ge hj (by decide)), am_inb_ok hj (by decide), nI_clamp (by omega)]
theorem pa_gone_31 {I : Nat → Nat → Int32} {J : Nat → Nat → Int64} {T : Nat → Nat → Nat} {L : Nat} {C : Nat × Nat} {j : Nat} {y : Int64} {x : Int32} (hj : j < 8) : am_E 31 0 [.ref 31, .int (nI j), .long y, .null, .int x, .null, .null] [] (am_W I J T L C) = some (.int (am_gone y (J 31 j) x), (am_W I J T L C)) := by
  rw [rg_31_0]
  show (if nI j < 0 then _ else if nI 8 ≤ nI j then _ else am_inb (nI j) 8 (am_E 31 11 [.ref 31, .int (nI j), .long y, .null, .int x, .null, .null] [.long (J 31 (Int32.toNatClampNeg (nI j)))] (am_W I J T L C))) = _
  rw [if_neg (nI_pos (by omega)), if_neg (nI_ge hj (by decide)), am_inb_ok hj (by decide), nI_clamp (by omega), rg_31_11, rg_164_0]
  unfold am_gone
  by_cases h : 0 < lg_cmp (y - J 31 j) x.toInt64
  · rw [if_pos h, if_pos h]
    simp only [am_okb, am_vJl, rg_31_18]
  · rw [if_neg h, if_neg h]
    simp only [am_okb, am_vJl, rg_31_18]
theorem am_b01_t : (am_b01 true = 0) = False := by simp [am_b01]
theorem am_b01_f : (am_b01 false = 0) = True := by simp [am_b01]
/-- TON -/
def pa_onJ (I : Nat → Nat → Int32) (J : Nat → Nat → Int64) (j : Nat) (now : Int64) : Nat → Nat → Int64 := cond (am_bt (I 28 0) j) J (am_up J 29 j now)
def pa_onI (I : Nat → Nat → Int32) (J : Nat → Nat → Int64) (j : Nat) (x : Int32) (now : Int64) : Nat → Nat → Int32 := am_tm (am_up I 28 0 (am_wb (I 28 0) j true)) j (decide (am_gone now (pa_onJ I J j now 29 j) x = x)) (am_gone now (pa_onJ I J j now 29 j) x)
theorem pa_on1 {I : Nat → Nat → Int32} {J : Nat → Nat → Int64} {T : Nat → Nat → Nat} {L : Nat} {C : Nat × Nat} {j : Nat} {x : Int32} {y : Int64} (hj : j < 8) : am_E 32 0 [.ref 28, .ref 23, .int (nI j), .int (am_b01 true), .int x, .long y, .null, .null] [] (am_W I J T L C) = some (.null, am_W (pa_onI I J j x y) (pa_onJ I J j y) T L C) := by
  have tail : ∀ J' : Nat → Nat → Int64, am_E 32 12 [.ref 28, .ref 23, .int (nI j), .int (am_b01 true), .int x, .long y, .null, .null] [] (am_W I J' T L C) = some (.null, am_W (am_tm (am_up I 28 0 (am_wb (I 28 0) j true)) j (decide (am_gone y (J' 29 j) x = x)) (am_gone y (J' 29 j) x)) J' T L C) := by
    intro J'
    simp only [rg_32_12, lf_withBit, am_okb, am_vIi, rg_32_18, am_b01_t, if_false, pa_gone_29 hj, rg_32_27, rg_32_29]
    by_cases hg : am_gone y (J' 29 j) x = x
    · rw [if_pos hg, decide_eq_true hg, rg_32_40, cl_tm1 hj]
      simp only [am_okb, rg_32_42]
    · rw [if_neg hg, decide_eq_false hg, rg_32_39, rg_32_40, cl_tm0 hj]
      simp only [am_okb, rg_32_42]
  simp only [rg_32_0, am_b01_t, if_false, lf_isSet (show j < 32 by omega), am_okb, am_vIi, rg_32_6, am_if_b01]
  unfold pa_onI pa_onJ
  cases am_bt (I 28 0) j
  · simp only [cond_false, pa_begin_29 hj, am_okb, tail]
  · simp only [cond_true, tail]
theorem pa_on0 {I : Nat → Nat → Int32} {J : Nat → Nat → Int64} {T : Nat → Nat → Nat} {L : Nat} {C : Nat × Nat} {j : Nat} {x : Int32} {y : Int64} (hj : j < 8) : am_E 32 0 [.ref 28, .ref 23, .int (nI j), .int (am_b01 false), .int x, .long y, .null, .null] [] (am_W I J T L C) = some (.null, am_W (am_tm (am_up I 28 0 (am_wb (I 28 0) j false)) j false 0) J T L C) := by
  simp only [rg_32_0, am_b01_f, if_true, rg_32_12, lf_withBit, am_okb, am_vIi, rg_32_18, rg_32_29, rg_32_39, rg_32_40, cl_tm0 hj, rg_32_42]
/-- TOF -/
theorem pa_off1 {I : Nat → Nat → Int32} {J : Nat → Nat → Int64} {T : Nat → Nat → Nat} {L : Nat} {C : Nat × Nat} {j : Nat} {x : Int32} {y : Int64} (hj : j < 8) : am_E 33 0 [.ref 28, .ref 23, .int (nI j), .int (am_b01 true), .int x, .long y, .null, .null] [] (am_W I J T L C) = some (.null, am_W (am_tm (am_up (am_up I 28 2 (am_wb (I 28 2) j true)) 28 3 (am_wb (I 28 3) j false)) j true 0) J T L C) := by
  have e : ∀ v, (am_up I 28 2 v) 28 3 = I 28 3 := fun v => by rw [am_up_at, if_neg (by omega)]
  simp only [rg_33_0, am_b01_t, if_false, lf_withBit1, lf_withBit0, am_okb, am_vIi, rg_33_8, rg_33_15, cl_tm1 hj, rg_33_21]
def pa_offJ (I : Nat → Nat → Int32) (J : Nat → Nat → Int64) (j : Nat) (now : Int64) : Nat → Nat → Int64 := cond (am_bt (I 28 3) j) J (am_up J 30 j now)
def pa_offI (I : Nat → Nat → Int32) (j : Nat) : Nat → Nat → Int32 := cond (am_bt (I 28 3) j) I (am_up I 28 3 (am_wb (I 28 3) j true))
theorem pa_off0n {I : Nat → Nat → Int32} {J : Nat → Nat → Int64} {T : Nat → Nat → Nat} {L : Nat} {C : Nat × Nat} {j : Nat} {x : Int32} {y : Int64} (hj : j < 8) (h : am_bt (I 28 2) j = false) : am_E 33 0 [.ref 28, .ref 23, .int (nI j), .int (am_b01 false), .int x, .long y, .null, .null] [] (am_W I J T L C) = some (.null, am_W (am_tm I j false 0) J T L C) := by
  simp only [rg_33_0, am_b01_f, if_true, lf_isSet (show j < 32 by omega), h, am_okb, am_vIi, rg_33_26, cl_tm0 hj, rg_33_32]
theorem pa_off0 {I : Nat → Nat → Int32} {J : Nat → Nat → Int64} {T : Nat → Nat → Nat} {L : Nat} {C : Nat × Nat} {j : Nat} {x : Int32} {y : Int64} (hj : j < 8) (h : am_bt (I 28 2) j = true) : am_E 33 0 [.ref 28, .ref 23, .int (nI j), .int (am_b01 false), .int x, .long y, .null, .null] [] (am_W I J T L C) = some (.null, am_W (am_tm (pa_offI I j) j (decide (am_gone y (pa_offJ I J j y 30 j) x < x)) (am_gone y (pa_offJ I J j y 30 j) x)) (pa_offJ I J j y) T L C) := by
  have tail : ∀ (I' : Nat → Nat → Int32) (J' : Nat → Nat → Int64), am_E 33 50 [.ref 28, .ref 23, .int (nI j), .int (am_b01 false), .int x, .long y, .null, .null] [] (am_W I' J' T L C) = some (.null, am_W (am_tm I' j (decide (am_gone y (J' 30 j) x < x)) (am_gone y (J' 30 j) x)) J' T L C) := by
    intro I' J'
    simp only [rg_33_50, pa_gone_30 hj, am_okb, am_vIi, rg_33_56]
    by_cases hg : am_gone y (J' 30 j) x < x
    · rw [if_neg (Int32.not_le.mpr hg), decide_eq_true hg, rg_33_65, cl_tm1 hj]
      simp only [am_okb, rg_33_67]
    · rw [if_pos (Int32.not_lt.mp hg), decide_eq_false hg, rg_33_65, cl_tm0 hj]
      simp only [am_okb, rg_33_67]
  simp only [rg_33_0, am_b01_f, if_true, lf_isSet (show j < 32 by omega), h, am_okb, am_vIi, rg_33_26, am_b01_t, if_false, rg_33_37, am_if_b01]
  unfold pa_offI pa_offJ
  cases am_bt (I 28 3) j
  · simp only [cond_false, lf_withBit1, am_okb, am_vIi, rg_33_44, pa_begin_30 hj, tail]
  · simp only [cond_true, tail]
/-- TP -/
def pa_tpJ (I : Nat → Nat → Int32) (J : Nat → Nat → Int64) (j : Nat) (now : Int64) : Nat → Nat → Int64 := cond (am_bt (I 28 5) j) J (am_up J 31 j now)
theorem pa_tpn {I : Nat → Nat → Int32} {J : Nat → Nat → Int64} {T : Nat → Nat → Nat} {L : Nat} {C : Nat × Nat} {j : Nat} {x : Int32} {y : Int64} (hj : j < 8) (h : am_bt (I 28 5) j = false) : am_E 34 0 [.ref 28, .ref 23, .int (nI j), .int (am_b01 false), .int x, .long y, .null, .null, .null] [] (am_W I J T L C) = some (.null, am_W (am_tm I j false 0) J T L C) := by
  simp only [rg_34_0, am_b01_f, if_true, lf_isSet (show j < 32 by omega), h, am_okb, am_vIi, rg_34_6, cl_tm0 hj, rg_34_12]
def pa_tpI (I : Nat → Nat → Int32) (j : Nat) (b : Bool) (x g : Int32) : Nat → Nat → Int32 := am_tm (am_up I 28 5 (am_wb (I 28 5) j (!(decide (g = x) && !b)))) j (decide (g < x)) (cond (decide (g = x) && !b) 0 g)
theorem pa_tp {I : Nat → Nat → Int32} {J : Nat → Nat → Int64} {T : Nat → Nat → Nat} {L : Nat} {C : Nat × Nat} {j : Nat} {b : Bool} {x : Int32} {y : Int64} (hj : j < 8) (h : am_bt (I 28 5) j = true ∨ b = true) : am_E 34 0 [.ref 28, .ref 23, .int (nI j), .int (am_b01 b), .int x, .long y, .null, .null, .null] [] (am_W I J T L C) = some (.null, am_W (pa_tpI I j b x (am_gone y (pa_tpJ I J j y 31 j) x)) (pa_tpJ I J j y) T L C) := by
  have t58 : ∀ (I' : Nat → Nat → Int32) (J' : Nat → Nat → Int64) (g : Int32) (o c : Bool), am_E 34 58 [.ref 28, .ref 23, .int (nI j), .int (am_b01 b), .int x, .long y, .null, .int g, .int (am_b01 o)] [.int (am_b01 c), .int (nI j), .ref 23] (am_W I' J' T L C) = some (.null, am_W (am_tm I' j c (cond o 0 g)) J' T L C) := by
    intro I' J' g o c
    cases o
    · simp only [rg_34_58, am_b01_f, if_true, rg_34_63, cl_tm hj, am_okb, rg_34_64, cond_false]
    · simp only [rg_34_58, am_b01_t, if_false, rg_34_63, cl_tm hj, am_okb, rg_34_64, cond_true]
  have t49 : ∀ (I' : Nat → Nat → Int32) (J' : Nat → Nat → Int64) (g : Int32) (o : Bool) (m : Int32), am_E 34 49 [.ref 28, .ref 23, .int (nI j), .int (am_b01 b), .int x, .long y, .null, .int g, .int (am_b01 o)] [.int m, .ref 28] (am_W I' J' T L C) = some (.null, am_W (am_tm (am_up I' 28 5 m) j (decide (g < x)) (cond o 0 g)) J' T L C) := by
    intro I' J' g o m
    rw [rg_34_49]
    by_cases hg : g < x
    · rw [if_neg (Int32.not_le.mpr hg), decide_eq_true hg]
      exact t58 _ _ _ _ true
    · rw [if_pos (Int32.not_lt.mp hg), decide_eq_false hg]
      exact t58 _ _ _ _ false
  have t38 : ∀ (I' : Nat → Nat → Int32) (J' : Nat → Nat → Int64) (g : Int32) (o : Bool), am_E 34 38 [.ref 28, .ref 23, .int (nI j), .int (am_b01 b), .int x, .long y, .null, .int g, .null] [.int (am_b01 o)] (am_W I' J' T L C) = some (.null, am_W (am_tm (am_up I' 28 5 (am_wb (I' 28 5) j (!o))) j (decide (g < x)) (cond o 0 g)) J' T L C) := by
    intro I' J' g o
    cases o
    · simp only [rg_34_38, am_b01_f, if_true, rg_34_48, lf_withBit1, am_okb, am_vIi, t49, Bool.not_false]
    · simp only [rg_34_38, am_b01_t, if_false, rg_34_48, lf_withBit0, am_okb, am_vIi, t49, Bool.not_true]
  have t23 : ∀ (I' : Nat → Nat → Int32) (J' : Nat → Nat → Int64), am_E 34 23 [.ref 28, .ref 23, .int (nI j), .int (am_b01 b), .int x, .long y, .null, .null, .null] [] (am_W I' J' T L C) = some (.null, am_W (pa_tpI I' j b x (am_gone y (J' 31 j) x)) J' T L C) := by
    intro I' J'
    simp only [rg_34_23, pa_gone_31 hj, am_okb, am_vIi, rg_34_29]
    unfold pa_tpI
    by_cases hg : am_gone y (J' 31 j) x = x
    · rw [if_pos hg, decide_eq_true hg]
      cases b
      · rw [if_pos (show am_b01 false = 0 from rfl)]
        exact t38 _ _ _ true
      · rw [if_neg (by decide +kernel), rg_34_37]
        exact t38 _ _ _ false
    · rw [if_neg hg, decide_eq_false hg, rg_34_37]
      exact t38 _ _ _ false
  have t13 : am_E 34 13 [.ref 28, .ref 23, .int (nI j), .int (am_b01 b), .int x, .long y, .null, .null, .null] [] (am_W I J T L C) = some (.null, am_W (pa_tpI I j b x (am_gone y (pa_tpJ I J j y 31 j) x)) (pa_tpJ I J j y) T L C) := by
    simp only [rg_34_13, lf_isSet (show j < 32 by omega), am_okb, am_vIi, rg_34_17, am_if_b01]
    unfold pa_tpJ
    cases am_bt (I 28 5) j
    · simp only [cond_false, pa_begin_31 hj, am_okb, t23]
    · simp only [cond_true, t23]
  rw [rg_34_0]
  cases b with
  | true =>
    rw [if_neg (by decide +kernel)]
    exact t13
  | false =>
    have h1 : am_bt (I 28 5) j = true := h.resolve_right (by decide)
    rw [if_pos (show am_b01 false = 0 from rfl)]
    simp only [lf_isSet (show j < 32 by omega), h1, am_okb, am_vIi, rg_34_6, am_b01_t, if_false]
    exact t13
/-- CTU, CTD -/
def pa_up (I : Nat → Nat → Int32) (j : Nat) (b : Bool) : Int32 := if b = true ∧ am_bt (I 28 7) j = false ∧ ¬ 32767 ≤ I 27 j then I 27 j + 1 else I 27 j
def pa_upI (I : Nat → Nat → Int32) (j : Nat) (b : Bool) (x : Int32) : Nat → Nat → Int32 := am_up (am_up (am_up I 28 7 (am_wb (I 28 7) j b)) 27 j (pa_up I j b)) 24 5 (am_wb (I 24 5) j (decide (x ≤ pa_up I j b)))
def pa_dn (I : Nat → Nat → Int32) (j : Nat) (b : Bool) : Int32 := if b = true ∧ am_bt (I 28 8) j = false ∧ ¬ I 27 j ≤ (-32768) then I 27 j + (-1) else I 27 j
def pa_dnI (I : Nat → Nat → Int32) (j : Nat) (b : Bool) : Nat → Nat → Int32 := am_up (am_up (am_up I 28 8 (am_wb (I 28 8) j b)) 27 j (pa_dn I j b)) 24 5 (am_wb (I 24 5) j (decide (pa_dn I j b ≤ 0)))
theorem pa_ctu {I : Nat → Nat → Int32} {J : Nat → Nat → Int64} {T : Nat → Nat → Nat} {L : Nat} {C : Nat × Nat} {j : Nat} {b : Bool} {x : Int32} (hj : j < 8) : am_E 35 0 [.ref 28, .ref 23, .int (nI j), .int (am_b01 b), .int x, .null] [] (am_W I J T L C) = some (.null, am_W (pa_upI I j b x) J T L C) := by
  have e : ∀ v w, (am_up (am_up I 28 7 v) 27 j w) 24 5 = I 24 5 := fun v w => by rw [am_up_at, if_neg (by omega), am_up_at, if_neg (by omega)]
  have t16 : ∀ c : Int32, am_E 35 16 [.ref 28, .ref 23, .int (nI j), .int (am_b01 b), .int x, .int c] [] (am_W I J T L C) = some (.null, am_W (am_up (am_up (am_up I 28 7 (am_wb (I 28 7) j b)) 27 j c) 24 5 (am_wb (I 24 5) j (decide (x ≤ c)))) J T L C) := by
    intro c
    simp only [rg_35_16, lf_withBit, am_okb, am_vIi, rg_35_22, cl_setCount hj, rg_35_27]
    by_cases hg : c < x
    · rw [if_pos hg, decide_eq_false (Int32.not_le.mpr hg), rg_35_36]
      show Option.bind (am_E 3 0 [.ref 23, .int 5, .int (nI j), .int (am_b01 false)] [] _) _ = _
      rw [cl_setBitL, e]
      simp only [am_okb, rg_35_37]
    · rw [if_neg hg, decide_eq_true (Int32.not_lt.mp hg), rg_35_36]
      show Option.bind (am_E 3 0 [.ref 23, .int 5, .int (nI j), .int (am_b01 true)] [] _) _ = _
      rw [cl_setBitL, e]
      simp only [am_okb, rg_35_37]
  rw [rg_35_0]
  show Option.bind (am_E 2 0 [.ref 23, .int (nI 10), .int (nI j)] [] _) _ = _
  rw [cl_cv hj]
  simp only [am_okb, am_vIi, rg_35_4]
  unfold pa_upI pa_up
  cases b with
  | false =>
    rw [if_pos (show am_b01 false = 0 from rfl), if_neg (show ¬ (false = true ∧ am_bt (I 28 7) j = false ∧ ¬ 32767 ≤ I 27 j) from fun h => by cases h.1)]
    exact t16 _
  | true =>
    rw [if_neg (by decide +kernel), lf_isSet (show j < 32 by omega)]
    simp only [am_okb, am_vIi, rg_35_11, am_if_b01]
    cases am_bt (I 28 7) j with
    | true =>
      rw [if_neg (show ¬ (True ∧ true = false ∧ ¬ 32767 ≤ I 27 j) from fun h => by cases h.2.1)]
      exact t16 _
    | false =>
      by_cases hc : 32767 ≤ I 27 j
      · rw [if_neg (show ¬ (True ∧ false = false ∧ ¬ 32767 ≤ I 27 j) from fun h => h.2.2 hc), cond_false, if_pos hc]
        exact t16 _
      · rw [if_pos (show (True ∧ false = false ∧ ¬ 32767 ≤ I 27 j) from ⟨trivial, rfl, hc⟩), cond_false, if_neg hc]
        exact t16 _
theorem pa_ctd {I : Nat → Nat → Int32} {J : Nat → Nat → Int64} {T : Nat → Nat → Nat} {L : Nat} {C : Nat × Nat} {j : Nat} {b : Bool} (hj : j < 8) : am_E 36 0 [.ref 28, .ref 23, .int (nI j), .int (am_b01 b), .null] [] (am_W I J T L C) = some (.null, am_W (pa_dnI I j b) J T L C) := by
  have e : ∀ v w, (am_up (am_up I 28 8 v) 27 j w) 24 5 = I 24 5 := fun v w => by rw [am_up_at, if_neg (by omega), am_up_at, if_neg (by omega)]
  have t16 : ∀ c : Int32, am_E 36 16 [.ref 28, .ref 23, .int (nI j), .int (am_b01 b), .int c] [] (am_W I J T L C) = some (.null, am_W (am_up (am_up (am_up I 28 8 (am_wb (I 28 8) j b)) 27 j c) 24 5 (am_wb (I 24 5) j (decide (c ≤ 0)))) J T L C) := by
    intro c
    simp only [rg_36_16, lf_withBit, am_okb, am_vIi, rg_36_22, cl_setCount hj, rg_36_27]
    by_cases hg : 0 < c
    · rw [if_pos hg, decide_eq_false (Int32.not_le.mpr hg), rg_36_35]
      show Option.bind (am_E 3 0 [.ref 23, .int 5, .int (nI j), .int (am_b01 false)] [] _) _ = _
      rw [cl_setBitL, e]
      simp only [am_okb, rg_36_36]
    · rw [if_neg hg, decide_eq_true (Int32.not_lt.mp hg), rg_36_35]
      show Option.bind (am_E 3 0 [.ref 23, .int 5, .int (nI j), .int (am_b01 true)] [] _) _ = _
      rw [cl_setBitL, e]
      simp only [am_okb, rg_36_36]
  rw [rg_36_0]
  show Option.bind (am_E 2 0 [.ref 23, .int (nI 10), .int (nI j)] [] _) _ = _
  rw [cl_cv hj]
  simp only [am_okb, am_vIi, rg_36_4]
  unfold pa_dnI pa_dn
  cases b with
  | false =>
    rw [if_pos (show am_b01 false = 0 from rfl), if_neg (show ¬ (false = true ∧ am_bt (I 28 8) j = false ∧ ¬ I 27 j ≤ (-32768)) from fun h => by cases h.1)]
    exact t16 _
  | true =>
    rw [if_neg (by decide +kernel), lf_isSet (show j < 32 by omega)]
    simp only [am_okb, am_vIi, rg_36_11, am_if_b01]
    cases am_bt (I 28 8) j with
    | true =>
      rw [if_neg (show ¬ (True ∧ true = false ∧ ¬ I 27 j ≤ (-32768)) from fun h => by cases h.2.1)]
      exact t16 _
    | false =>
      by_cases hc : I 27 j ≤ (-32768)
      · rw [if_neg (show ¬ (True ∧ false = false ∧ ¬ I 27 j ≤ (-32768)) from fun h => h.2.2 hc), cond_false, if_pos hc]
        exact t16 _
      · rw [if_pos (show (True ∧ false = false ∧ ¬ I 27 j ≤ (-32768)) from ⟨trivial, rfl, hc⟩), cond_false, if_neg hc]
        exact t16 _
/-- RISE, FALL -/
theorem pa_rise {I : Nat → Nat → Int32} {J : Nat → Nat → Int64} {T : Nat → Nat → Nat} {L : Nat} {C : Nat × Nat} {j : Nat} {b : Bool} (hj : j < 16) : am_E 37 0 [.ref 28, .int (nI j), .int (am_b01 b), .null] [] (am_W I J T L C) = some (.int (am_b01 (b && !am_bt (I 28 9) j)), am_W (am_up I 28 9 (am_wb (I 28 9) j b)) J T L C) := by
  simp only [rg_37_0, lf_isSet (show j < 32 by omega), am_okb, am_vIi, rg_37_4, lf_withBit, rg_37_11, am_if_b01]
  cases b <;> cases am_bt (I 28 9) j <;> rfl
theorem pa_fall {I : Nat → Nat → Int32} {J : Nat → Nat → Int64} {T : Nat → Nat → Nat} {L : Nat} {C : Nat × Nat} {j : Nat} {b : Bool} (hj : j < 16) : am_E 38 0 [.ref 28, .int (nI j), .int (am_b01 b), .null] [] (am_W I J T L C) = some (.int (am_b01 (!b && am_bt (I 28 10) j)), am_W (am_up I 28 10 (am_wb (I 28 10) j b)) J T L C) := by
  simp only [rg_38_0, lf_isSet (show j < 32 by omega), am_okb, am_vIi, rg_38_4, lf_withBit, rg_38_11, am_if_b01]
  cases b <;> cases am_bt (I 28 10) j <;> rfl
def pa_clr (I : Nat → Nat → Int32) : Nat → Nat → Int32 := am_up (am_up (am_up (am_up (am_up (am_up (am_up (am_up I 28 0 0) 28 2 0) 28 3 0) 28 5 0) 28 7 0) 28 8 0) 28 9 0) 28 10 0
theorem pa_clear {I : Nat → Nat → Int32} {J : Nat → Nat → Int64} {T : Nat → Nat → Nat} {L : Nat} {C : Nat × Nat} : am_E 29 0 [.ref 28] [] (am_W I J T L C) = some (.null, am_W (pa_clr I) J T L C) := rg_29_0 I J T L C

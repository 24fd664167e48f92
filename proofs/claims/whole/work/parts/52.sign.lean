/-! SIGNS in the class and in the model; LD and signs with an operand. -/
def jn (w : Nat) (x y : Int32) : Option Int32 := match w with
  | 0 => some (x &&& y)
  | 1 => some (x ||| y)
  | 2 => some (x ^^^ y)
  | 3 => some (x + y)
  | 4 => some (x - y)
  | 5 => some (x * y)
  | 6 => if y = 0 then none else some (x / y)
  | 7 => if y = 0 then none else some (x - x / y * y)
  | 8 => some (am_b01 (decide (y < x)))
  | 9 => some (am_b01 (decide (y ≤ x)))
  | 10 => some (am_b01 (decide (x = y)))
  | 11 => some (am_b01 (decide (¬ x = y)))
  | 12 => some (am_b01 (decide (x ≤ y)))
  | _ => some (am_b01 (decide (x < y)))
def jn_op (a : Nat) (y : Int32) : Int32 := if oh a = 1 then op_not y else y
def cal (a : Nat) (x y : Int32) : Option Int32 := jn (ow a) x (jn_op a y)
def clc (I : Nat → Nat → Int32) (x : Int32) (o : Option Int32) : Int32 × (Nat → Nat → Int32) := match o with
  | some v => (v, I)
  | none => (x, am_up I 22 3 2)
def clj (I : Nat → Nat → Int32) (o : Option Int32) : Nat → Nat → Int32 := match o with
  | some v => am_up I 22 7 v
  | none => am_up (am_up I 22 3 2) 22 7 (I 22 7)
def mjs (o : Option Int32) : Int32 := match o with
  | some _ => 0
  | none => 2
def mjI (I : Nat → Nat → Int32) (o : Option Int32) : Nat → Nat → Int32 := match o with
  | some v => am_up I 49 60 v
  | none => I
theorem ow_lt {a : Nat} (h : a < 17) : ow a < 14 := by unfold ow; split <;> omega
theorem oh_lt (a : Nat) : oh a < 2 := by unfold oh; split <;> omega
theorem sf_sg (L : Nat) {a : Nat} (h : a < 17) : am_SF L (1007 + a) = (30, 0) := by
  rcases (show a = 0 ∨ a = 1 ∨ a = 2 ∨ a = 3 ∨ a = 4 ∨ a = 5 ∨ a = 6 ∨ a = 7 ∨ a = 8 ∨ a = 9 ∨ a = 10 ∨ a = 11 ∨ a = 12 ∨ a = 13 ∨ a = 14 ∨ a = 15 ∨ a = 16 by omega) with rfl | rfl | rfl | rfl | rfl | rfl | rfl | rfl | rfl | rfl | rfl | rfl | rfl | rfl | rfl | rfl | rfl
  · rfl
  · rfl
  · rfl
  · rfl
  · rfl
  · rfl
  · rfl
  · rfl
  · rfl
  · rfl
  · rfl
  · rfl
  · rfl
  · rfl
  · rfl
  · rfl
  · rfl
theorem op_blk_sg (I : Nat → Nat → Int32) (J : Nat → Nat → Int64) (T : Nat → Nat → Nat) (L : Nat) (C : Nat × Nat) {a : Nat} (h : a < 17) : am_E 26 0 [.ref (1007 + a)] [] (am_W I J T L C) = some (.int 0, (am_W I J T L C)) := by
  rcases (show a = 0 ∨ a = 1 ∨ a = 2 ∨ a = 3 ∨ a = 4 ∨ a = 5 ∨ a = 6 ∨ a = 7 ∨ a = 8 ∨ a = 9 ∨ a = 10 ∨ a = 11 ∨ a = 12 ∨ a = 13 ∨ a = 14 ∨ a = 15 ∨ a = 16 by omega) with rfl | rfl | rfl | rfl | rfl | rfl | rfl | rfl | rfl | rfl | rfl | rfl | rfl | rfl | rfl | rfl | rfl
  · exact op_blk_6 I J T L C
  · exact op_blk_7 I J T L C
  · exact op_blk_8 I J T L C
  · exact op_blk_9 I J T L C
  · exact op_blk_10 I J T L C
  · exact op_blk_11 I J T L C
  · exact op_blk_12 I J T L C
  · exact op_blk_13 I J T L C
  · exact op_blk_14 I J T L C
  · exact op_blk_15 I J T L C
  · exact op_blk_16 I J T L C
  · exact op_blk_17 I J T L C
  · exact op_blk_18 I J T L C
  · exact op_blk_19 I J T L C
  · exact op_blk_20 I J T L C
  · exact op_blk_21 I J T L C
  · exact op_blk_22 I J T L C
theorem op_cal (I : Nat → Nat → Int32) (J : Nat → Nat → Int64) (T : Nat → Nat → Nat) (L : Nat) (C : Nat × Nat) {a : Nat} (h : a < 17) (x y : Int32) : am_E 19 0 [.ref 22, .ref (1007 + a), .int x, .int y, .null] [] (am_W I J T L C) = some (.int (clc I x (cal a x y)).1, am_W (clc I x (cal a x y)).2 J T L C) := by
  rcases (show a = 0 ∨ a = 1 ∨ a = 2 ∨ a = 3 ∨ a = 4 ∨ a = 5 ∨ a = 6 ∨ a = 7 ∨ a = 8 ∨ a = 9 ∨ a = 10 ∨ a = 11 ∨ a = 12 ∨ a = 13 ∨ a = 14 ∨ a = 15 ∨ a = 16 by omega) with rfl | rfl | rfl | rfl | rfl | rfl | rfl | rfl | rfl | rfl | rfl | rfl | rfl | rfl | rfl | rfl | rfl
  · exact op_cal_6 I J T L C x y
  · exact op_cal_7 I J T L C x y
  · exact op_cal_8 I J T L C x y
  · exact op_cal_9 I J T L C x y
  · exact op_cal_10 I J T L C x y
  · exact op_cal_11 I J T L C x y
  · exact op_cal_12 I J T L C x y
  · exact op_cal_13 I J T L C x y
  · exact op_cal_14 I J T L C x y
  · refine (op_cal_15 I J T L C x y).trans ?_
    have e : cal 9 x y = if y = 0 then none else some (x / y) := rfl
    rw [e]
    by_cases h0 : y = 0
    · rw [if_pos h0, if_pos h0]; rfl
    · rw [if_neg h0, if_neg h0]; rfl
  · refine (op_cal_16 I J T L C x y).trans ?_
    have e : cal 10 x y = if y = 0 then none else some (x - x / y * y) := rfl
    rw [e]
    by_cases h0 : y = 0
    · rw [if_pos h0, if_pos h0]; rfl
    · rw [if_neg h0, if_neg h0]; rfl
  · exact op_cal_17 I J T L C x y
  · exact op_cal_18 I J T L C x y
  · exact op_cal_19 I J T L C x y
  · exact op_cal_20 I J T L C x y
  · exact op_cal_21 I J T L C x y
  · exact op_cal_22 I J T L C x y
theorem pf_sg (I : Nat → Nat → Int32) (J : Nat → Nat → Int64) (T : Nat → Nat → Nat) (L : Nat) (C : Nat × Nat) {i k a : Nat} (h : a < 17) (hi : i < 80) (hk : I 45 i = nI k) (hv : cvok k (I 46 i)) : am_E 15 0 [.ref 22, .ref (1007 + a), .ref 34, .int (nI i), .null, .null] [] (am_W I J T L C) = some (.null, am_W (clj I (cal a (I 22 7) (cv I k (I 46 i)))) J T L C) := by
  rcases (show a = 0 ∨ a = 1 ∨ a = 2 ∨ a = 3 ∨ a = 4 ∨ a = 5 ∨ a = 6 ∨ a = 7 ∨ a = 8 ∨ a = 9 ∨ a = 10 ∨ a = 11 ∨ a = 12 ∨ a = 13 ∨ a = 14 ∨ a = 15 ∨ a = 16 by omega) with rfl | rfl | rfl | rfl | rfl | rfl | rfl | rfl | rfl | rfl | rfl | rfl | rfl | rfl | rfl | rfl | rfl
  · exact pf_6 I J T L C hi hk hv
  · exact pf_7 I J T L C hi hk hv
  · exact pf_8 I J T L C hi hk hv
  · exact pf_9 I J T L C hi hk hv
  · exact pf_10 I J T L C hi hk hv
  · exact pf_11 I J T L C hi hk hv
  · exact pf_12 I J T L C hi hk hv
  · exact pf_13 I J T L C hi hk hv
  · exact pf_14 I J T L C hi hk hv
  · refine (pf_15 I J T L C hi hk hv).trans ?_
    have e : cal 9 (I 22 7) (cv I k (I 46 i)) = if cv I k (I 46 i) = 0 then none else some (I 22 7 / cv I k (I 46 i)) := rfl
    rw [e]
    by_cases h0 : cv I k (I 46 i) = 0
    · rw [if_pos h0, if_pos h0]; rfl
    · rw [if_neg h0, if_neg h0]; rfl
  · refine (pf_16 I J T L C hi hk hv).trans ?_
    have e : cal 10 (I 22 7) (cv I k (I 46 i)) = if cv I k (I 46 i) = 0 then none else some (I 22 7 - I 22 7 / cv I k (I 46 i) * cv I k (I 46 i)) := rfl
    rw [e]
    by_cases h0 : cv I k (I 46 i) = 0
    · rw [if_pos h0, if_pos h0]; rfl
    · rw [if_neg h0, if_neg h0]; rfl
  · exact pf_17 I J T L C hi hk hv
  · exact pf_18 I J T L C hi hk hv
  · exact pf_19 I J T L C hi hk hv
  · exact pf_20 I J T L C hi hk hv
  · exact pf_21 I J T L C hi hk hv
  · exact pf_22 I J T L C hi hk hv
theorem pf_op (I : Nat → Nat → Int32) (J : Nat → Nat → Int64) (T : Nat → Nat → Nat) (L : Nat) (C : Nat × Nat) {i d a : Nat} (h : a < 17) (hi : i < 80) (hk : I 45 i = 12) (hd : d < 8) (hI : I 22 9 = nI d) : am_E 15 0 [.ref 22, .ref (1007 + a), .ref 34, .int (nI i), .null, .null] [] (am_W I J T L C) = some (.null, am_W (am_up (am_up (am_up I 32 d (I 22 7)) 22 9 (nI (d + 1))) 22 7 0) J (am_up T 33 d (1007 + a)) L C) := by
  rcases (show a = 0 ∨ a = 1 ∨ a = 2 ∨ a = 3 ∨ a = 4 ∨ a = 5 ∨ a = 6 ∨ a = 7 ∨ a = 8 ∨ a = 9 ∨ a = 10 ∨ a = 11 ∨ a = 12 ∨ a = 13 ∨ a = 14 ∨ a = 15 ∨ a = 16 by omega) with rfl | rfl | rfl | rfl | rfl | rfl | rfl | rfl | rfl | rfl | rfl | rfl | rfl | rfl | rfl | rfl | rfl
  · exact pfa_6 I J T L C hi hk hd hI
  · exact pfa_7 I J T L C hi hk hd hI
  · exact pfa_8 I J T L C hi hk hd hI
  · exact pfa_9 I J T L C hi hk hd hI
  · exact pfa_10 I J T L C hi hk hd hI
  · exact pfa_11 I J T L C hi hk hd hI
  · exact pfa_12 I J T L C hi hk hd hI
  · exact pfa_13 I J T L C hi hk hd hI
  · exact pfa_14 I J T L C hi hk hd hI
  · exact pfa_15 I J T L C hi hk hd hI
  · exact pfa_16 I J T L C hi hk hd hI
  · exact pfa_17 I J T L C hi hk hd hI
  · exact pfa_18 I J T L C hi hk hd hI
  · exact pfa_19 I J T L C hi hk hd hI
  · exact pfa_20 I J T L C hi hk hd hI
  · exact pfa_21 I J T L C hi hk hd hI
  · exact pfa_22 I J T L C hi hk hd hI
theorem mo_jn (I : Nat → Nat → Int32) (J : Nat → Nat → Int64) (T : Nat → Nat → Nat) (L : Nat) (C : Nat × Nat) {w : Nat} (h : w < 14) (x y : Int32) : am_E 142 0 [.ref 49, .int (nI w), .int x, .int y] [] (am_W I J T L C) = some (.int (mjs (jn w x y)), am_W (mjI I (jn w x y)) J T L C) := by
  rcases (show w = 0 ∨ w = 1 ∨ w = 2 ∨ w = 3 ∨ w = 4 ∨ w = 5 ∨ w = 6 ∨ w = 7 ∨ w = 8 ∨ w = 9 ∨ w = 10 ∨ w = 11 ∨ w = 12 ∨ w = 13 by omega) with rfl | rfl | rfl | rfl | rfl | rfl | rfl | rfl | rfl | rfl | rfl | rfl | rfl | rfl
  · exact mo_join_0 I J T L C x y
  · exact mo_join_1 I J T L C x y
  · exact mo_join_2 I J T L C x y
  · exact mo_join_3 I J T L C x y
  · exact mo_join_4 I J T L C x y
  · exact mo_join_5 I J T L C x y
  · refine (mo_join_6 I J T L C x y).trans ?_
    have e : jn 6 x y = if y = 0 then none else some (x / y) := rfl
    rw [e]
    by_cases h0 : y = 0
    · rw [if_pos h0, if_pos h0]; rfl
    · rw [if_neg h0, if_neg h0]; rfl
  · refine (mo_join_7 I J T L C x y).trans ?_
    have e : jn 7 x y = if y = 0 then none else some (x - x / y * y) := rfl
    rw [e]
    by_cases h0 : y = 0
    · rw [if_pos h0, if_pos h0]; rfl
    · rw [if_neg h0, if_neg h0]; rfl
  · exact mo_join_8 I J T L C x y
  · exact mo_join_9 I J T L C x y
  · exact mo_join_10 I J T L C x y
  · exact mo_join_11 I J T L C x y
  · exact mo_join_12 I J T L C x y
  · exact mo_join_13 I J T L C x y
theorem mo_cnt_oh (a : Nat) (v : Int32) : mo_cnt (nI (oh a)) v = jn_op a v := by
  unfold mo_cnt jn_op
  by_cases h : oh a = 1
  · rw [h, if_pos (by decide +kernel), if_pos rfl]
  · have h0 : oh a = 0 := by have := oh_lt a; omega
    rw [h0, if_neg (by decide +kernel), if_neg (by decide)]
theorem R_run_res {I : Nat → Nat → Int32} {J : Nat → Nat → Int64} {I' : Nat → Nat → Int32} {J' : Nat → Nat → Int64} {x v w : Int32} (R : R_run I J I' J') : R_run (am_up (am_up I 22 8 x) 22 7 v) J (am_up I' 49 60 w) J' := by
  obtain ⟨⟨c0, c1, c2, c3, c4, c5, c6, c7, c8, c9⟩, ⟨p0, p1, p2, p3, p4, p5, p6, p7, p8⟩, k⟩ := R
  exact ⟨⟨c0, c1, c2, c3, c4, c5, c6, c7, c8, c9⟩, ⟨p0, p1, p2, p3, p4, p5, p6, p7, p8⟩, k⟩
theorem R_run_stop {I : Nat → Nat → Int32} {J : Nat → Nat → Int64} {I' : Nat → Nat → Int32} {J' : Nat → Nat → Int64} {x v w : Int32} (R : R_run I J I' J') : R_run (am_up (am_up (am_up I 22 8 x) 22 3 w) 22 7 v) J I' J' := by
  obtain ⟨⟨c0, c1, c2, c3, c4, c5, c6, c7, c8, c9⟩, ⟨p0, p1, p2, p3, p4, p5, p6, p7, p8⟩, k⟩ := R
  exact ⟨⟨c0, c1, c2, c3, c4, c5, c6, c7, c8, c9⟩, ⟨p0, p1, p2, p3, p4, p5, p6, p7, p8⟩, k⟩
theorem FM_refl (I : Nat → Nat → Int32) (J : Nat → Nat → Int64) : FM I J I J := ⟨fun _ _ _ => rfl, fun _ _ _ => rfl⟩
/-- an instruction that gives a result and nothing else -/
theorem so_res {L : Nat} {C : Nat × Nat} {Lm : Nat} {Cm : Nat × Nat} {Tm : Nat → Nat → Nat} {I : Nat → Nat → Int32} {J : Nat → Nat → Int64} {T : Nat → Nat → Nat} {I' : Nat → Nat → Int32} {J' : Nat → Nat → Int64} {p i d : Nat} {v : Int32} (hc : in_cl L C (T 44 p) p (am_up I 22 8 (nI (p + 1))) J T (am_up (am_up I 22 8 (nI (p + 1))) 22 7 v) J T) (hm : am_E 146 0 [.ref 49, .int (nI i), .null, .null] [] (am_W I' J' Tm Lm Cm) = some (.int 0, am_W (am_up I' 49 60 v) J' Tm Lm Cm)) (R : R_run I J I' J') (s0 : I 22 3 = 0) (rl : R_list I T I' d) : SO L C Lm Cm Tm p i d I J T I' J' := by
  refine ⟨0, _, J, T, _, J', hc, hm, R_run_res R, ⟨s0, Or.inl rfl⟩, fun _ => ⟨⟨rfl, rl.2.1, rl.2.2.1, rl.2.2.2.1, rl.2.2.2.2⟩, rfl⟩, ⟨?_, fun _ _ _ => rfl, fun _ _ _ => rfl⟩, ⟨?_, fun _ _ _ => rfl⟩⟩
  · intro q k h
    rw [am_up_ne (by omega), am_up_ne (by omega)]
  · intro q k h
    rw [am_up_ne (by omega)]
theorem so_stop {L : Nat} {C : Nat × Nat} {Lm : Nat} {Cm : Nat × Nat} {Tm : Nat → Nat → Nat} {I : Nat → Nat → Int32} {J : Nat → Nat → Int64} {T : Nat → Nat → Nat} {I' : Nat → Nat → Int32} {J' : Nat → Nat → Int64} {p i d : Nat} {v : Int32} (hc : in_cl L C (T 44 p) p (am_up I 22 8 (nI (p + 1))) J T (am_up (am_up (am_up I 22 8 (nI (p + 1))) 22 3 2) 22 7 v) J T) (hm : am_E 146 0 [.ref 49, .int (nI i), .null, .null] [] (am_W I' J' Tm Lm Cm) = some (.int 2, am_W I' J' Tm Lm Cm)) (R : R_run I J I' J') : SO L C Lm Cm Tm p i d I J T I' J' := by
  refine ⟨2, _, J, T, I', J', hc, hm, R_run_stop R, ⟨rfl, Or.inr rfl⟩, fun h => absurd h (by decide +kernel), ⟨?_, fun _ _ _ => rfl, fun _ _ _ => rfl⟩, FM_refl I' J'⟩
  intro q k h
  rw [am_up_ne (by omega), am_up_ne (by omega), am_up_ne (by omega)]
theorem so_sign {L : Nat} {C : Nat × Nat} {Lm : Nat} {Cm : Nat × Nat} {Tm : Nat → Nat → Nat} {I : Nat → Nat → Int32} {J : Nat → Nat → Int64} {T : Nat → Nat → Nat} {I' : Nat → Nat → Int32} {J' : Nat → Nat → Int64} {p i d a ck : Nat} (hp : p < 80) (hi : i < 160) (ha : a < 17) (hT : T 44 p = 1007 + a) (e51 : I' 51 i = nI (ow a)) (e52 : I' 52 i = nI (oh a)) (hk : I 45 p = nI ck) (hv : op_ok ck (I 46 p)) (e53 : I' 53 i = nI (cmk ck)) (e54 : I' 54 i = I 46 p) (R : R_run I J I' J') (s0 : I 22 3 = 0) (rl : R_list I T I' d) : SO L C Lm Cm Tm p i d I J T I' J' := by
  have hc : in_cl L C (T 44 p) p (am_up I 22 8 (nI (p + 1))) J T (clj (am_up I 22 8 (nI (p + 1))) (cal a (I 22 7) (cv I ck (I 46 p)))) J T := by
    rw [hT]
    exact in_perf (sf_sg L ha) (by omega) (op_blk_sg _ J T L C ha) (pf_sg (am_up I 22 8 (nI (p + 1))) J T L C ha hp hk (op_ok_cvok hv))
  have hw := ow_lt ha
  have h14 : ¬ (14 : Int32) ≤ I' 51 i := by
    rw [e51]
    show ¬ nI 14 ≤ nI (ow a)
    exact nI_ge hw (by decide)
  have hm : am_E 146 0 [.ref 49, .int (nI i), .null, .null] [] (am_W I' J' Tm Lm Cm) = some (.int (mjs (cal a (I 22 7) (cv I ck (I 46 p)))), am_W (mjI I' (cal a (I 22 7) (cv I ck (I 46 p)))) J' Tm Lm Cm) := by
    refine mo_act_sign I' J' Tm Lm Cm hi h14 (mo_signed I' J' Tm Lm Cm (k := cmk ck) hi ?_ e53 ?_ ?_)
    · rw [e52]; show nI (oh a) < nI 2; exact nI_lt (oh_lt a) (by decide)
    · rw [e54]; exact op_ok_mcvok hv
    · rw [e51, e52, e54, cv_mcv R.1 hv, rl.1, mo_cnt_oh]
      exact mo_jn I' J' Tm Lm Cm hw (I 22 7) (jn_op a (cv I ck (I 46 p)))
  cases ho : cal a (I 22 7) (cv I ck (I 46 p)) with
  | none => rw [ho] at hc hm; exact so_stop hc hm R
  | some v => rw [ho] at hc hm; exact so_res hc hm R s0 rl
theorem so_ld {L : Nat} {C : Nat × Nat} {Lm : Nat} {Cm : Nat × Nat} {Tm : Nat → Nat → Nat} {I : Nat → Nat → Int32} {J : Nat → Nat → Int64} {T : Nat → Nat → Nat} {I' : Nat → Nat → Int32} {J' : Nat → Nat → Int64} {p i d b ck : Nat} (hp : p < 80) (hi : i < 160) (hb : b < 2) (hT : T 44 p = 1001 + b) (e51 : I' 51 i = 14) (e52 : I' 52 i = nI b) (hk : I 45 p = nI ck) (hv : op_ok ck (I 46 p)) (e53 : I' 53 i = nI (cmk ck)) (e54 : I' 54 i = I 46 p) (R : R_run I J I' J') (s0 : I 22 3 = 0) (rl : R_list I T I' d) : SO L C Lm Cm Tm p i d I J T I' J' := by
  have hm := mo_act_ld I' J' Tm Lm Cm (k := cmk ck) hi e51 e53 (by rw [e54]; exact op_ok_mcvok hv)
  rw [e52, e54, cv_mcv R.1 hv] at hm
  rcases (show b = 0 ∨ b = 1 by omega) with rfl | rfl
  · have hc : in_cl L C (T 44 p) p (am_up I 22 8 (nI (p + 1))) J T (am_up (am_up I 22 8 (nI (p + 1))) 22 7 (cv I ck (I 46 p))) J T := by
      rw [hT]
      exact in_perf rfl (by decide) (op_blk_0 _ J T L C) (pf_0 (am_up I 22 8 (nI (p + 1))) J T L C hp hk (op_ok_cvok hv))
    exact so_res hc (hm.trans (by rw [show mo_cnt (nI 0) (cv I ck (I 46 p)) = cv I ck (I 46 p) from if_neg (by decide +kernel)])) R s0 rl
  · have hc : in_cl L C (T 44 p) p (am_up I 22 8 (nI (p + 1))) J T (am_up (am_up I 22 8 (nI (p + 1))) 22 7 (op_not (cv I ck (I 46 p)))) J T := by
      rw [hT]
      exact in_perf rfl (by decide) (op_blk_1 _ J T L C) (pf_1 (am_up I 22 8 (nI (p + 1))) J T L C hp hk (op_ok_cvok hv))
    exact so_res hc (hm.trans (by rw [show mo_cnt (nI 1) (cv I ck (I 46 p)) = op_not (cv I ck (I 46 p)) from if_pos (by decide +kernel)])) R s0 rl
theorem so_not {L : Nat} {C : Nat × Nat} {Lm : Nat} {Cm : Nat × Nat} {Tm : Nat → Nat → Nat} {I : Nat → Nat → Int32} {J : Nat → Nat → Int64} {T : Nat → Nat → Nat} {I' : Nat → Nat → Int32} {J' : Nat → Nat → Int64} {p i d : Nat} (hp : p < 80) (hi : i < 160) (hT : T 44 p = 1025) (e51 : I' 51 i = 19) (R : R_run I J I' J') (s0 : I 22 3 = 0) (rl : R_list I T I' d) : SO L C Lm Cm Tm p i d I J T I' J' := by
  have hm := mo_act_not I' J' Tm Lm Cm hi e51
  rw [rl.1] at hm
  have hc : in_cl L C (T 44 p) p (am_up I 22 8 (nI (p + 1))) J T (am_up (am_up I 22 8 (nI (p + 1))) 22 7 (op_not (I 22 7))) J T := by
    rw [hT]
    refine in_perf rfl (by decide) (op_blk_24 _ J T L C) ((pf_24 (am_up I 22 8 (nI (p + 1))) J T L C hp).trans ?_)
    show some (Value.null, am_W (am_up (am_up I 22 8 (nI (p + 1))) 22 7 (am_b01 (decide (I 22 7 = 0)))) J T L C) = _
    unfold op_not
    by_cases h : I 22 7 = 0
    · rw [if_pos h, decide_eq_true h]; rfl
    · rw [if_neg h, decide_eq_false h]; rfl
  exact so_res hc hm R s0 rl

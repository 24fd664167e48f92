/-! THE MODEL'S TOF. -/
theorem mo_tm_230' (I : Nat → Nat → Int32) (J : Nat → Nat → Int64) (T : Nat → Nat → Nat) (L : Nat) (C : Nat × Nat) (a x v : Int32) {j : Nat} (hj : j < 8) : am_E 137 230 [.ref 49, .int a, .int (nI j), .int x, .int v] [] (am_W I J T L C) = some (.null, am_W (am_up I 49 60 (I 76 j)) J T L C) := by
  rw [rg_137_230, am_inb_ok hj (by decide), nI_clamp (by omega)]
def mo_offS (J : Nat → Nat → Int64) (j : Nat) (p : Bool) : Int64 := if 0 ≤ lg_cmp (J 83 j) 0 then J 83 j else cond p (J 49 44) (J 83 j)
theorem mo_tof_85 (I : Nat → Nat → Int32) (J : Nat → Nat → Int64) (T : Nat → Nat → Nat) (L : Nat) (C : Nat × Nat) {j : Nat} {x : Int32} {p b : Bool} (hj : j < 8) (hp : I 82 j = am_b01 p) : am_E 137 6 [.ref 49, .int 23, .int (nI j), .int x, .null] [.int (am_b01 b)] (am_W I J T L C) = am_E 137 85 [.ref 49, .int 23, .int (nI j), .int x, .int (am_b01 b)] [.int (am_b01 (p || b)), .int (nI j), .ref 82] (am_W (mo_t0 I j) J T L C) := by
  rw [rg_137_6, am_inb_ok hj (by decide), am_inb_ok hj (by decide), if_neg (by decide +kernel), if_pos rfl, am_inb_ok hj (by decide), nI_clamp (by omega), hp, am_if_b01, am_if_b01, rg_137_82]
  cases p <;> cases b <;> rfl
theorem mo_tof1 (I : Nat → Nat → Int32) (J : Nat → Nat → Int64) (T : Nat → Nat → Nat) (L : Nat) (C : Nat × Nat) {j : Nat} {x : Int32} {p : Bool} (hj : j < 8) (hp : I 82 j = am_b01 p) (hb : mo_on I = true) : am_E 137 0 [.ref 49, .int 23, .int (nI j), .int x, .null] [] (am_W I J T L C) = some (.null, am_W (am_up (am_up (am_up (mo_t0 I j) 82 j 1) 76 j 1) 49 60 1) (am_up J 83 j (-1)) T L C) := by
  rw [mo_tm_head, hb, mo_tof_85 _ _ _ _ _ hj hp, Bool.or_true, rg_137_85, am_inb_ok hj (by decide), am_b01_bit, cond_true, am_if_b01, cond_true, nI_clamp (by omega), rg_137_112, am_inb_ok hj (by decide), am_if_b01, cond_true, am_inb_ok hj (by decide), nI_clamp (by omega)]
  exact mo_tm_230 _ _ _ _ _ _ _ _ _ hj
theorem mo_tof_112n (I : Nat → Nat → Int32) (J : Nat → Nat → Int64) (T : Nat → Nat → Nat) (L : Nat) (C : Nat × Nat) {j : Nat} {x : Int32} (s : Int64) (hj : j < 8) (h : I 82 j = 0) : am_E 137 112 [.ref 49, .int 23, .int (nI j), .int x, .int (am_b01 false)] [.long s, .int (nI j), .ref 83] (am_W I J T L C) = some (.null, am_W (am_up I 49 60 (I 76 j)) (am_up J 83 j s) T L C) := by
  rw [rg_137_112, am_inb_ok hj (by decide), am_if_b01, cond_false, am_inb_ok hj (by decide), nI_clamp (by omega), if_pos h]
  exact mo_tm_230' _ _ _ _ _ _ _ _ hj
theorem mo_tof_112 (I : Nat → Nat → Int32) (J : Nat → Nat → Int64) (T : Nat → Nat → Nat) (L : Nat) (C : Nat × Nat) {j : Nat} {x : Int32} (s : Int64) (hj : j < 8) (h : ¬ I 82 j = 0) : am_E 137 112 [.ref 49, .int 23, .int (nI j), .int x, .int (am_b01 false)] [.long s, .int (nI j), .ref 83] (am_W I J T L C) = some (.null, am_W (am_up (am_up (am_up I 75 j (am_past (J 49 44) s x)) 76 j (am_b01 (decide (am_past (J 49 44) s x < x)))) 49 60 (am_b01 (decide (am_past (J 49 44) s x < x)))) (am_up J 83 j s) T L C) := by
  have e : (am_up J 83 j s) 49 44 = J 49 44 := by rw [am_up_at, if_neg (by omega)]
  rw [rg_137_112, am_inb_ok hj (by decide), am_if_b01, cond_false, am_inb_ok hj (by decide), nI_clamp (by omega), if_neg h, am_inb_ok hj (by decide), am_up_here, mo_past, am_okb, am_vIi, e, rg_137_136, am_inb_ok hj (by decide), am_inb_ok hj (by decide), nI_clamp (by omega), am_up_here]
  by_cases hg : am_past (J 49 44) s x < x
  · rw [if_neg (Int32.not_le.mpr hg), decide_eq_true hg, rg_137_149, am_inb_ok hj (by decide), nI_clamp (by omega)]
    exact mo_tm_230 _ _ _ _ _ _ _ _ _ hj
  · rw [if_pos (Int32.not_lt.mp hg), decide_eq_false hg, rg_137_149, am_inb_ok hj (by decide), nI_clamp (by omega)]
    exact mo_tm_230 _ _ _ _ _ _ _ _ _ hj
theorem mo_tof_s (I : Nat → Nat → Int32) (J : Nat → Nat → Int64) (T : Nat → Nat → Nat) (L : Nat) (C : Nat × Nat) {j : Nat} {x : Int32} (p : Bool) (hj : j < 8) : am_E 137 85 [.ref 49, .int 23, .int (nI j), .int x, .int (am_b01 false)] [.int (am_b01 p), .int (nI j), .ref 82] (am_W I J T L C) = am_E 137 112 [.ref 49, .int 23, .int (nI j), .int x, .int (am_b01 false)] [.long (mo_offS J j p), .int (nI j), .ref 83] (am_W (am_up I 82 j (am_b01 p)) J T L C) := by
  rw [rg_137_85, am_inb_ok hj (by decide), am_b01_bit, cond_true, am_if_b01, cond_false, am_inb_ok hj (by decide), am_inb_ok hj (by decide), nI_clamp (by omega), am_up_here, am_if_b01, rg_137_108, am_inb_ok hj (by decide), nI_clamp (by omega)]
  unfold mo_offS
  by_cases h : 0 ≤ lg_cmp (J 83 j) 0
  · rw [if_pos h, if_pos h]
  · rw [if_neg h, if_neg h]
    cases p <;> rfl
theorem mo_tof0n (I : Nat → Nat → Int32) (J : Nat → Nat → Int64) (T : Nat → Nat → Nat) (L : Nat) (C : Nat × Nat) {j : Nat} {x : Int32} (hj : j < 8) (hp : I 82 j = am_b01 false) (hb : mo_on I = false) : am_E 137 0 [.ref 49, .int 23, .int (nI j), .int x, .null] [] (am_W I J T L C) = some (.null, am_W (am_up (am_up (mo_t0 I j) 82 j 0) 49 60 0) (am_up J 83 j (mo_offS J j false)) T L C) := by
  have e : (am_up (mo_t0 I j) 82 j 0) 76 j = 0 := by
    rw [am_up_at, if_neg (by omega)]
    exact am_up_here _ _ _ _
  rw [mo_tm_head, hb, mo_tof_85 _ _ _ _ _ hj hp, Bool.or_false, mo_tof_s _ _ _ _ _ _ hj]
  refine (mo_tof_112n (am_up (mo_t0 I j) 82 j (am_b01 false)) J T L C (mo_offS J j false) hj (am_up_here _ _ _ _)).trans ?_
  show some (Value.null, am_W (am_up (am_up (mo_t0 I j) 82 j 0) 49 60 ((am_up (mo_t0 I j) 82 j 0) 76 j)) _ T L C) = _
  rw [e]
theorem mo_tof0 (I : Nat → Nat → Int32) (J : Nat → Nat → Int64) (T : Nat → Nat → Nat) (L : Nat) (C : Nat × Nat) {j : Nat} {x : Int32} (hj : j < 8) (hp : I 82 j = am_b01 true) (hb : mo_on I = false) : am_E 137 0 [.ref 49, .int 23, .int (nI j), .int x, .null] [] (am_W I J T L C) = some (.null, am_W (am_up (am_up (am_up (am_up (mo_t0 I j) 82 j 1) 75 j (am_past (J 49 44) (mo_offS J j true) x)) 76 j (am_b01 (decide (am_past (J 49 44) (mo_offS J j true) x < x)))) 49 60 (am_b01 (decide (am_past (J 49 44) (mo_offS J j true) x < x)))) (am_up J 83 j (mo_offS J j true)) T L C) := by
  rw [mo_tm_head, hb, mo_tof_85 _ _ _ _ _ hj hp, Bool.or_false, mo_tof_s _ _ _ _ _ _ hj, mo_tof_112 _ _ _ _ _ _ hj (by rw [am_up_here]; decide +kernel)]
  rfl

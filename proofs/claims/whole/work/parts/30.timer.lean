/-! THE MODEL'S TIMERS. -/
theorem mo_tm_head (I : Nat → Nat → Int32) (J : Nat → Nat → Int64) (T : Nat → Nat → Nat) (L : Nat) (C : Nat × Nat) (a n x : Int32) : am_E 137 0 [.ref 49, .int a, .int n, .int x, .null] [] (am_W I J T L C) = am_E 137 6 [.ref 49, .int a, .int n, .int x, .null] [.int (am_b01 (mo_on I))] (am_W I J T L C) := by
  rw [rg_137_0]
  unfold mo_on
  by_cases h : I 49 60 = 0
  · rw [if_pos h, decide_eq_false (fun e => e h)]; rfl
  · rw [if_neg h, decide_eq_true h]; rfl
theorem mo_tm_230 (I : Nat → Nat → Int32) (J : Nat → Nat → Int64) (T : Nat → Nat → Nat) (L : Nat) (C : Nat × Nat) (a x v w : Int32) {j : Nat} (hj : j < 8) : am_E 137 230 [.ref 49, .int a, .int (nI j), .int x, .int v] [] (am_W (am_up I 76 j w) J T L C) = some (.null, am_W (am_up (am_up I 76 j w) 49 60 w) J T L C) := by
  rw [rg_137_230, am_inb_ok hj (by decide), nI_clamp (by omega), am_up_here]
def mo_t0 (I : Nat → Nat → Int32) (j : Nat) : Nat → Nat → Int32 := am_up (am_up I 75 j 0) 76 j 0
/-- times and timerBits of a timer, and the result -/
def mo_tI (I : Nat → Nat → Int32) (j : Nat) (g : Int32) (o : Bool) : Nat → Nat → Int32 := am_up (am_up (am_up (mo_t0 I j) 75 j g) 76 j (am_b01 o)) 49 60 (am_b01 o)
def mo_tz (I : Nat → Nat → Int32) (j : Nat) : Nat → Nat → Int32 := am_up (mo_t0 I j) 49 60 0
def mo_onS (J : Nat → Nat → Int64) (j : Nat) : Int64 := if 0 ≤ lg_cmp (J 81 j) 0 then J 81 j else J 49 44
theorem mo_ton0 (I : Nat → Nat → Int32) (J : Nat → Nat → Int64) (T : Nat → Nat → Nat) (L : Nat) (C : Nat × Nat) {j : Nat} {x : Int32} (hj : j < 8) (hb : mo_on I = false) : am_E 137 0 [.ref 49, .int 22, .int (nI j), .int x, .null] [] (am_W I J T L C) = some (.null, am_W (mo_tz I j) (am_up J 81 j (-1)) T L C) := by
  rw [mo_tm_head, hb, rg_137_6, am_inb_ok hj (by decide), am_inb_ok hj (by decide), if_pos rfl, am_if_b01, cond_false, nI_clamp (by omega), rg_137_41, am_inb_ok hj (by decide), am_if_b01, cond_false, nI_clamp (by omega)]
  exact mo_tm_230 _ _ _ _ _ _ _ _ _ hj
theorem mo_ton1 (I : Nat → Nat → Int32) (J : Nat → Nat → Int64) (T : Nat → Nat → Nat) (L : Nat) (C : Nat × Nat) {j : Nat} {x : Int32} (hj : j < 8) (hb : mo_on I = true) : am_E 137 0 [.ref 49, .int 22, .int (nI j), .int x, .null] [] (am_W I J T L C) = some (.null, am_W (mo_tI I j (am_past (J 49 44) (mo_onS J j) x) (decide (am_past (J 49 44) (mo_onS J j) x = x))) (am_up J 81 j (mo_onS J j)) T L C) := by
  have t41 : ∀ s, am_E 137 41 [.ref 49, .int 22, .int (nI j), .int x, .int (am_b01 true)] [.long s, .int (nI j), .ref 81] (am_W (mo_t0 I j) J T L C) = some (.null, am_W (mo_tI I j (am_past (J 49 44) s x) (decide (am_past (J 49 44) s x = x))) (am_up J 81 j s) T L C) := by
    intro s
    have e : (am_up J 81 j s) 49 44 = J 49 44 := by rw [am_up_at, if_neg (by omega)]
    rw [rg_137_41, am_inb_ok hj (by decide), am_if_b01, cond_true, am_inb_ok hj (by decide), nI_clamp (by omega), am_up_here, mo_past, am_okb, am_vIi, e, rg_137_54, am_inb_ok hj (by decide), am_inb_ok hj (by decide), nI_clamp (by omega), am_up_here]
    by_cases h : am_past (J 49 44) s x = x
    · rw [if_pos h, decide_eq_true h, rg_137_67, am_inb_ok hj (by decide), nI_clamp (by omega)]
      exact mo_tm_230 _ _ _ _ _ _ _ _ _ hj
    · rw [if_neg h, decide_eq_false h, rg_137_67, am_inb_ok hj (by decide), nI_clamp (by omega)]
      exact mo_tm_230 _ _ _ _ _ _ _ _ _ hj
  rw [mo_tm_head, hb, rg_137_6, am_inb_ok hj (by decide), am_inb_ok hj (by decide), if_pos rfl, am_if_b01, cond_true, am_inb_ok hj (by decide), am_inb_ok hj (by decide), nI_clamp (by omega)]
  unfold mo_onS
  by_cases h : 0 ≤ lg_cmp (J 81 j) 0
  · rw [if_pos h, if_pos h]
    exact t41 _
  · rw [if_neg h, if_neg h]
    exact t41 _

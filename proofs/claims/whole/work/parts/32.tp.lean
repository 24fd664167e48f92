/-! THE MODEL'S TP. -/
def mo_tpS (J : Nat → Nat → Int64) (j : Nat) (b q : Bool) : Int64 := cond b (if 0 ≤ lg_cmp (J 84 j) 0 then J 84 j else cond q (J 84 j) (J 49 44)) (J 84 j)
theorem mo_tp_175 (I : Nat → Nat → Int32) (J : Nat → Nat → Int64) (T : Nat → Nat → Nat) (L : Nat) (C : Nat × Nat) {j : Nat} {x : Int32} {q b : Bool} (hj : j < 8) (hq : I 85 j = am_b01 q) : am_E 137 6 [.ref 49, .int 24, .int (nI j), .int x, .null] [.int (am_b01 b)] (am_W I J T L C) = am_E 137 175 [.ref 49, .int 24, .int (nI j), .int x, .int (am_b01 b)] [.long (mo_tpS J j b q), .int (nI j), .ref 84] (am_W (mo_t0 I j) J T L C) := by
  have t171 : ∀ b : Bool, am_E 137 171 [.ref 49, .int 24, .int (nI j), .int x, .int (am_b01 b)] [.int (nI j), .ref 84] (am_W (mo_t0 I j) J T L C) = am_E 137 175 [.ref 49, .int 24, .int (nI j), .int x, .int (am_b01 b)] [.long (J 84 j), .int (nI j), .ref 84] (am_W (mo_t0 I j) J T L C) := by
    intro b
    rw [rg_137_171, am_inb_ok hj (by decide), nI_clamp (by omega)]
  rw [rg_137_6, am_inb_ok hj (by decide), am_inb_ok hj (by decide), if_neg (by decide +kernel), if_neg (by decide +kernel), am_if_b01, am_inb_ok hj (by decide), am_inb_ok hj (by decide), nI_clamp (by omega), hq, am_if_b01]
  unfold mo_tpS
  cases b with
  | false => exact t171 false
  | true =>
    rw [cond_true, cond_true]
    by_cases h : 0 ≤ lg_cmp (J 84 j) 0
    · rw [if_pos h, if_pos h]; exact t171 true
    · rw [if_neg h, if_neg h]
      cases q
      · rfl
      · exact t171 true
theorem mo_tp_n (I : Nat → Nat → Int32) (J : Nat → Nat → Int64) (T : Nat → Nat → Nat) (L : Nat) (C : Nat × Nat) {j : Nat} {x : Int32} {b : Bool} (s : Int64) (hj : j < 8) (hs : lg_cmp s 0 < 0) : am_E 137 175 [.ref 49, .int 24, .int (nI j), .int x, .int (am_b01 b)] [.long s, .int (nI j), .ref 84] (am_W I J T L C) = some (.null, am_W (am_up (am_up I 85 j (am_b01 b)) 49 60 (I 76 j)) (am_up J 84 j s) T L C) := by
  have e : (am_up I 85 j (am_b01 b)) 76 j = I 76 j := by rw [am_up_at, if_neg (by omega)]
  rw [rg_137_175, am_inb_ok hj (by decide), am_inb_ok hj (by decide), am_inb_ok hj (by decide), am_b01_bit, cond_true, nI_clamp (by omega), am_up_here, if_pos hs, mo_tm_230' _ _ _ _ _ _ _ _ hj, e]
def mo_tpI (I : Nat → Nat → Int32) (j : Nat) (b : Bool) (x g : Int32) : Nat → Nat → Int32 := am_up (am_up (am_up I 85 j (am_b01 b)) 75 j g) 76 j (am_b01 (decide (g < x)))
theorem mo_tp_g (I : Nat → Nat → Int32) (J : Nat → Nat → Int64) (T : Nat → Nat → Nat) (L : Nat) (C : Nat × Nat) {j : Nat} {x : Int32} {b : Bool} (s : Int64) (hj : j < 8) (hs : ¬ lg_cmp s 0 < 0) : am_E 137 175 [.ref 49, .int 24, .int (nI j), .int x, .int (am_b01 b)] [.long s, .int (nI j), .ref 84] (am_W I J T L C) = if am_past (J 49 44) s x = x ∧ b = false then some (.null, am_W (am_up (am_up (mo_tpI I j b x (am_past (J 49 44) s x)) 75 j 0) 49 60 (am_b01 (decide (am_past (J 49 44) s x < x)))) (am_up (am_up J 84 j s) 84 j (-1)) T L C) else some (.null, am_W (am_up (mo_tpI I j b x (am_past (J 49 44) s x)) 49 60 (am_b01 (decide (am_past (J 49 44) s x < x)))) (am_up J 84 j s) T L C) := by
  have e : (am_up J 84 j s) 49 44 = J 49 44 := by rw [am_up_at, if_neg (by omega)]
  have t211 : ∀ (g : Int32) (o : Bool) (I' : Nat → Nat → Int32) (J' : Nat → Nat → Int64), I' 75 j = g → am_E 137 211 [.ref 49, .int 24, .int (nI j), .int x, .int (am_b01 b)] [.int (am_b01 o), .int (nI j), .ref 76] (am_W I' J' T L C) = if g = x ∧ b = false then some (.null, am_W (am_up (am_up (am_up I' 76 j (am_b01 o)) 75 j 0) 49 60 (am_b01 o)) (am_up J' 84 j (-1)) T L C) else some (.null, am_W (am_up (am_up I' 76 j (am_b01 o)) 49 60 (am_b01 o)) J' T L C) := by
    intro g o I' J' hg
    have e2 : (am_up (am_up I' 76 j (am_b01 o)) 75 j 0) 76 j = am_b01 o := by
      rw [am_up_at, if_neg (by omega), am_up_here]
    rw [rg_137_211, am_inb_ok hj (by decide), am_inb_ok hj (by decide), am_inb_ok hj (by decide), am_inb_ok hj (by decide), nI_clamp (by omega), hg, am_if_b01, mo_tm_230' _ _ _ _ _ _ _ _ hj, mo_tm_230' _ _ _ _ _ _ _ _ hj, e2, am_up_here]
    by_cases h : g = x
    · rw [if_pos h]
      cases b
      · rw [if_pos ⟨h, rfl⟩]; rfl
      · rw [if_neg (fun k => by cases k.2)]; rfl
    · rw [if_neg h, if_neg (fun k => h k.1)]
  rw [rg_137_175, am_inb_ok hj (by decide), am_inb_ok hj (by decide), am_inb_ok hj (by decide), am_inb_ok hj (by decide), am_b01_bit, cond_true, nI_clamp (by omega), am_up_here, if_neg hs, mo_past, am_okb, am_vIi, e, rg_137_198, am_inb_ok hj (by decide), am_inb_ok hj (by decide), nI_clamp (by omega), am_up_here]
  unfold mo_tpI
  by_cases hg : am_past (J 49 44) s x < x
  · rw [if_neg (Int32.not_le.mpr hg), decide_eq_true hg]
    exact t211 _ true _ _ (am_up_here _ _ _ _)
  · rw [if_pos (Int32.not_lt.mp hg), decide_eq_false hg]
    exact t211 _ false _ _ (am_up_here _ _ _ _)

/-! THE LIST'S RUN in the class: one turn of performList, its ends; goRound. -/
theorem ma_opAt (I : Nat → Nat → Int32) (J : Nat → Nat → Int64) (T : Nat → Nat → Nat) (L : Nat) (C : Nat × Nat) {p : Nat} (hp : p < 80) : am_E 42 0 [.ref 34, .int (nI p)] [] (am_W I J T L C) = some (.ref (T 44 p), (am_W I J T L C)) := by
  rw [rg_42_0, if_neg (nI_pos (by omega)), if_neg (nI_ge hp (by decide)), am_inb_ok hp (by decide), nI_clamp (by omega)]
/-- what the instruction at p, whose op is q, does from one heap to another -/
def in_cl (L : Nat) (C : Nat × Nat) (q p : Nat) (I : Nat → Nat → Int32) (J : Nat → Nat → Int64) (T : Nat → Nat → Nat) (I' : Nat → Nat → Int32) (J' : Nat → Nat → Int64) (T' : Nat → Nat → Nat) : Prop := ∀ (c : Int32) (v4 : Value), am_E 14 33 [.ref 22, .ref 34, .int c, .int (nI p), v4] [.ref q] (am_W I J T L C) = am_E 14 57 [.ref 22, .ref 34, .int c, .int (nI p), .ref q] [] (am_W I' J' T' L C)
theorem in_perf {L : Nat} {C : Nat × Nat} {q p : Nat} {I : Nat → Nat → Int32} {J : Nat → Nat → Int64} {T : Nat → Nat → Nat} {I' : Nat → Nat → Int32} {J' : Nat → Nat → Int64} {T' : Nat → Nat → Nat} (hS : am_SF L q = (30, 0)) (h0 : q ≠ 0) (hb : am_E 26 0 [.ref q] [] (am_W I J T L C) = some (.int 0, (am_W I J T L C))) (h : am_E 15 0 [.ref 22, .ref q, .ref 34, .int (nI p), .null, .null] [] (am_W I J T L C) = some (.null, am_W I' J' T' L C)) : in_cl L C q p I J T I' J' T' := by
  intro c v4
  rw [rg_14_33, hS, if_neg h0]
  show Option.bind (am_E 26 0 [.ref q] [] _) _ = _
  rw [hb, am_okb, am_vIi, rg_14_39, if_pos rfl, h, am_okb]
theorem in_blk {L : Nat} {C : Nat × Nat} {q p : Nat} {I : Nat → Nat → Int32} {J : Nat → Nat → Int64} {T : Nat → Nat → Nat} {I' : Nat → Nat → Int32} {J' : Nat → Nat → Int64} {T' : Nat → Nat → Nat} (hS : am_SF L q = (30, 0)) (h0 : q ≠ 0) (hp : p < 80) (hb : am_E 26 0 [.ref q] [] (am_W I J T L C) = some (.int 1, (am_W I J T L C))) (h : am_E 16 0 [.ref 22, .ref q, .int (I 46 p), .int (I 47 p), .null] [] (am_W I J T L C) = some (.null, am_W I' J' T' L C)) : in_cl L C q p I J T I' J' T' := by
  intro c v4
  rw [rg_14_33, hS, if_neg h0]
  show Option.bind (am_E 26 0 [.ref q] [] _) _ = _
  rw [hb, am_okb, am_vIi, rg_14_39, if_neg (by decide +kernel), at_46 hp, am_okb, am_vIi, rg_14_46, at_47 hp, am_okb, am_vIi, rg_14_50, h, am_okb, rg_14_51]
theorem li_end (I : Nat → Nat → Int32) (J : Nat → Nat → Int64) (T : Nat → Nat → Nat) (L : Nat) (C : Nat × Nat) {c p n : Nat} (v3 v4 : Value) (hc : c ≤ 500) (hn : n ≤ 80) (hp : I 22 8 = nI p) (hN : I 34 6 = nI n) (h : n ≤ p) (hp80 : p < 2 ^ 31) : am_E 14 14 [.ref 22, .ref 34, .int (nI c), v3, v4] [] (am_W I J T L C) = some (.null, (am_W I J T L C)) := by
  have e : am_E 14 69 [.ref 22, .ref 34, .int (nI c), v3, v4] [] (am_W I J T L C) = some (.null, (am_W I J T L C)) := by
    rw [rg_14_69, hp, hN, if_pos (nI_le h hp80)]
  rw [rg_14_14, e]
  by_cases h5 : (500 : Int32) ≤ nI c
  · rw [if_pos h5]
  · rw [if_neg h5, hp, hN, if_pos (nI_le h hp80)]
theorem li_long (I : Nat → Nat → Int32) (J : Nat → Nat → Int64) (T : Nat → Nat → Nat) (L : Nat) (C : Nat × Nat) {p n : Nat} (v3 v4 : Value) (hn : n ≤ 80) (hp : I 22 8 = nI p) (hN : I 34 6 = nI n) (h : p < n) : am_E 14 14 [.ref 22, .ref 34, .int (nI 500), v3, v4] [] (am_W I J T L C) = some (.null, am_W (am_up I 22 3 3) J T L C) := by
  rw [rg_14_14, if_pos (by decide +kernel), rg_14_69, hp, hN, if_neg (nI_ge h (by omega))]
theorem li_turn (I : Nat → Nat → Int32) (J : Nat → Nat → Int64) (T : Nat → Nat → Nat) (L : Nat) (C : Nat × Nat) {c p n : Nat} (v3 v4 : Value) {I' : Nat → Nat → Int32} {J' : Nat → Nat → Int64} {T' : Nat → Nat → Nat} (hc : c < 500) (hn : n ≤ 80) (hp : I 22 8 = nI p) (hN : I 34 6 = nI n) (h : p < n) (hi : in_cl L C (T 44 p) p (am_up I 22 8 (nI (p + 1))) J T I' J' T') : am_E 14 14 [.ref 22, .ref 34, .int (nI c), v3, v4] [] (am_W I J T L C) = if I' 22 3 = 0 then am_E 14 14 [.ref 22, .ref 34, .int (nI (c + 1)), .int (nI p), .ref (T 44 p)] [] (am_W (am_up I' 22 4 (I' 22 4 + 1)) J' T' L C) else some (.null, am_W I' J' T' L C) := by
  rw [rg_14_14]
  show (if nI 500 ≤ nI c then _ else _) = _
  rw [if_neg (nI_ge hc (by decide)), hp, hN, if_neg (nI_ge h (by omega)), nI_1, ma_opAt _ _ _ _ _ (by omega), am_okb, am_vRr, hi, rg_14_57, nI_1]
def li_start (I : Nat → Nat → Int32) : Nat → Nat → Int32 := am_up (am_up (am_up (am_up I 22 7 0) 22 8 0) 22 9 0) 22 4 0
theorem li_head (I : Nat → Nat → Int32) (J : Nat → Nat → Int64) (T : Nat → Nat → Nat) (L : Nat) (C : Nat × Nat) : am_E 14 0 [.ref 22, .ref 34, .null, .null, .null] [] (am_W I J T L C) = am_E 14 14 [.ref 22, .ref 34, .int (nI 0), .null, .null] [] (am_W (li_start I) J T L C) := by
  rw [rg_14_0]
  rfl
/-- goRound, out of its list's run -/
theorem ro_stop (I : Nat → Nat → Int32) (J : Nat → Nat → Int64) (T : Nat → Nat → Nat) (L : Nat) (C : Nat × Nat) (x t : Int32) {I' : Nat → Nat → Int32} {J' : Nat → Nat → Int64} {T' : Nat → Nat → Nat} (h : am_E 14 0 [.ref 22, .ref 34, .null, .null, .null] [] (am_W (am_up (am_up I 24 0 x) 22 5 0) (am_up J 22 1 (J 22 1 + t.toInt64)) T L C) = some (.null, am_W I' J' T' L C)) (hs : ¬ I' 22 3 = 0) : am_E 13 0 [.ref 22, .ref 34, .int x, .int t] [] (am_W I J T L C) = some (.null, am_W I' J' T' L C) := by
  rw [rg_13_0]
  show Option.bind (am_E 90 0 [.ref 24, .int (nI 0), .int x] [] _) _ = _
  rw [put_24 (by decide), am_okb, rg_13_13, h, am_okb, rg_13_19, if_neg hs]
theorem ro_on (I : Nat → Nat → Int32) (J : Nat → Nat → Int64) (T : Nat → Nat → Nat) (L : Nat) (C : Nat × Nat) (x t : Int32) {I' : Nat → Nat → Int32} {J' : Nat → Nat → Int64} {T' : Nat → Nat → Nat} {n : Nat} (h : am_E 14 0 [.ref 22, .ref 34, .null, .null, .null] [] (am_W (am_up (am_up I 24 0 x) 22 5 0) (am_up J 22 1 (J 22 1 + t.toInt64)) T L C) = some (.null, am_W I' J' T' L C)) (hs : I' 22 3 = 0) (hn : n ≤ 16) (hN : I' 35 5 = nI n) (ok : ∀ g, g < n → go_ok I' g) (oka : ∀ g, g < 48 → ac_ok (go_end (go_run n 0 (0, I'))) g) : am_E 13 0 [.ref 22, .ref 34, .int x, .int t] [] (am_W I J T L C) = some (.null, am_W (am_up (ac_all (go_end (go_run n 0 (0, I')))) 22 2 (ac_all (go_end (go_run n 0 (0, I'))) 24 1)) J' T' L C) := by
  rw [rg_13_0]
  show Option.bind (am_E 90 0 [.ref 24, .int (nI 0), .int x] [] _) _ = _
  rw [put_24 (by decide), am_okb, rg_13_13, h, am_okb, rg_13_19, if_pos hs, ma_goOn _ _ _ _ _ hn hN ok, am_okb, rg_13_27, ma_act _ _ _ _ _ oka, am_okb, rg_13_31]
  show Option.bind (am_E 89 0 [.ref 24, .int (nI 1)] [] _) _ = _
  rw [at_24 (by decide), am_okb, am_vIi, rg_13_37]

/-! THE MODEL'S CELLS: cell, setBit, past, truth, edge. -/
def mcv (I : Nat → Nat → Int32) (k : Nat) (x : Int32) : Int32 := if k = 0 then x else if k = 1 then I 71 x.toNatClampNeg else if k = 2 then I 72 x.toNatClampNeg else if k = 3 then I 73 x.toNatClampNeg else if k = 4 then I 74 x.toNatClampNeg else if k = 5 then I 76 x.toNatClampNeg else if k = 6 then I 75 x.toNatClampNeg else if k = 7 then I 78 x.toNatClampNeg else if k = 8 then I 77 x.toNatClampNeg else I 79 x.toNatClampNeg
def mcvok (k : Nat) (x : Int32) : Prop := k = 0 ∨ ∃ j, x = nI j ∧ ((k = 1 ∧ j < 32) ∨ (k = 2 ∧ j < 32) ∨ (k = 3 ∧ j < 32) ∨ (k = 4 ∧ j < 32) ∨ (k = 5 ∧ j < 8) ∨ (k = 6 ∧ j < 8) ∨ (k = 7 ∧ j < 8) ∨ (k = 8 ∧ j < 8) ∨ (k = 9 ∧ j < 16))
theorem mo_cell_0 (I : Nat → Nat → Int32) (J : Nat → Nat → Int64) (T : Nat → Nat → Nat) (L : Nat) (C : Nat × Nat) {x : Int32} : am_E 134 0 [.ref 49, .int (nI 0), .int x] [] (am_W I J T L C) = some (.int (mcv I 0 x), (am_W I J T L C)) := (rg_134_0 I J T L C (nI 0) x).trans rfl
theorem mo_cell_1 (I : Nat → Nat → Int32) (J : Nat → Nat → Int64) (T : Nat → Nat → Nat) (L : Nat) (C : Nat × Nat) {j : Nat} (hj : j < 32) : am_E 134 0 [.ref 49, .int (nI 1), .int (nI j)] [] (am_W I J T L C) = some (.int (mcv I 1 (nI j)), (am_W I J T L C)) := by
  refine (rg_134_0 I J T L C (nI 1) (nI j)).trans ?_
  show am_inb (nI j) 32 (some (Value.int (I 71 (Int32.toNatClampNeg (nI j))), (am_W I J T L C))) = some (Value.int (I 71 (Int32.toNatClampNeg (nI j))), (am_W I J T L C))
  rw [am_inb_ok hj (by decide)]
theorem mo_cell_2 (I : Nat → Nat → Int32) (J : Nat → Nat → Int64) (T : Nat → Nat → Nat) (L : Nat) (C : Nat × Nat) {j : Nat} (hj : j < 32) : am_E 134 0 [.ref 49, .int (nI 2), .int (nI j)] [] (am_W I J T L C) = some (.int (mcv I 2 (nI j)), (am_W I J T L C)) := by
  refine (rg_134_0 I J T L C (nI 2) (nI j)).trans ?_
  show am_inb (nI j) 32 (some (Value.int (I 72 (Int32.toNatClampNeg (nI j))), (am_W I J T L C))) = some (Value.int (I 72 (Int32.toNatClampNeg (nI j))), (am_W I J T L C))
  rw [am_inb_ok hj (by decide)]
theorem mo_cell_3 (I : Nat → Nat → Int32) (J : Nat → Nat → Int64) (T : Nat → Nat → Nat) (L : Nat) (C : Nat × Nat) {j : Nat} (hj : j < 32) : am_E 134 0 [.ref 49, .int (nI 3), .int (nI j)] [] (am_W I J T L C) = some (.int (mcv I 3 (nI j)), (am_W I J T L C)) := by
  refine (rg_134_0 I J T L C (nI 3) (nI j)).trans ?_
  show am_inb (nI j) 32 (some (Value.int (I 73 (Int32.toNatClampNeg (nI j))), (am_W I J T L C))) = some (Value.int (I 73 (Int32.toNatClampNeg (nI j))), (am_W I J T L C))
  rw [am_inb_ok hj (by decide)]
theorem mo_cell_4 (I : Nat → Nat → Int32) (J : Nat → Nat → Int64) (T : Nat → Nat → Nat) (L : Nat) (C : Nat × Nat) {j : Nat} (hj : j < 32) : am_E 134 0 [.ref 49, .int (nI 4), .int (nI j)] [] (am_W I J T L C) = some (.int (mcv I 4 (nI j)), (am_W I J T L C)) := by
  refine (rg_134_0 I J T L C (nI 4) (nI j)).trans ?_
  show am_inb (nI j) 32 (some (Value.int (I 74 (Int32.toNatClampNeg (nI j))), (am_W I J T L C))) = some (Value.int (I 74 (Int32.toNatClampNeg (nI j))), (am_W I J T L C))
  rw [am_inb_ok hj (by decide)]
theorem mo_cell_5 (I : Nat → Nat → Int32) (J : Nat → Nat → Int64) (T : Nat → Nat → Nat) (L : Nat) (C : Nat × Nat) {j : Nat} (hj : j < 8) : am_E 134 0 [.ref 49, .int (nI 5), .int (nI j)] [] (am_W I J T L C) = some (.int (mcv I 5 (nI j)), (am_W I J T L C)) := by
  refine (rg_134_0 I J T L C (nI 5) (nI j)).trans ?_
  show am_inb (nI j) 8 (some (Value.int (I 76 (Int32.toNatClampNeg (nI j))), (am_W I J T L C))) = some (Value.int (I 76 (Int32.toNatClampNeg (nI j))), (am_W I J T L C))
  rw [am_inb_ok hj (by decide)]
theorem mo_cell_6 (I : Nat → Nat → Int32) (J : Nat → Nat → Int64) (T : Nat → Nat → Nat) (L : Nat) (C : Nat × Nat) {j : Nat} (hj : j < 8) : am_E 134 0 [.ref 49, .int (nI 6), .int (nI j)] [] (am_W I J T L C) = some (.int (mcv I 6 (nI j)), (am_W I J T L C)) := by
  refine (rg_134_0 I J T L C (nI 6) (nI j)).trans ?_
  show am_inb (nI j) 8 (some (Value.int (I 75 (Int32.toNatClampNeg (nI j))), (am_W I J T L C))) = some (Value.int (I 75 (Int32.toNatClampNeg (nI j))), (am_W I J T L C))
  rw [am_inb_ok hj (by decide)]
theorem mo_cell_7 (I : Nat → Nat → Int32) (J : Nat → Nat → Int64) (T : Nat → Nat → Nat) (L : Nat) (C : Nat × Nat) {j : Nat} (hj : j < 8) : am_E 134 0 [.ref 49, .int (nI 7), .int (nI j)] [] (am_W I J T L C) = some (.int (mcv I 7 (nI j)), (am_W I J T L C)) := by
  refine (rg_134_0 I J T L C (nI 7) (nI j)).trans ?_
  show am_inb (nI j) 8 (some (Value.int (I 78 (Int32.toNatClampNeg (nI j))), (am_W I J T L C))) = some (Value.int (I 78 (Int32.toNatClampNeg (nI j))), (am_W I J T L C))
  rw [am_inb_ok hj (by decide)]
theorem mo_cell_8 (I : Nat → Nat → Int32) (J : Nat → Nat → Int64) (T : Nat → Nat → Nat) (L : Nat) (C : Nat × Nat) {j : Nat} (hj : j < 8) : am_E 134 0 [.ref 49, .int (nI 8), .int (nI j)] [] (am_W I J T L C) = some (.int (mcv I 8 (nI j)), (am_W I J T L C)) := by
  refine (rg_134_0 I J T L C (nI 8) (nI j)).trans ?_
  show am_inb (nI j) 8 (some (Value.int (I 77 (Int32.toNatClampNeg (nI j))), (am_W I J T L C))) = some (Value.int (I 77 (Int32.toNatClampNeg (nI j))), (am_W I J T L C))
  rw [am_inb_ok hj (by decide)]
theorem mo_cell_9 (I : Nat → Nat → Int32) (J : Nat → Nat → Int64) (T : Nat → Nat → Nat) (L : Nat) (C : Nat × Nat) {j : Nat} (hj : j < 16) : am_E 134 0 [.ref 49, .int (nI 9), .int (nI j)] [] (am_W I J T L C) = some (.int (mcv I 9 (nI j)), (am_W I J T L C)) := by
  refine (rg_134_0 I J T L C (nI 9) (nI j)).trans ?_
  show am_inb (nI j) 16 (some (Value.int (I 79 (Int32.toNatClampNeg (nI j))), (am_W I J T L C))) = some (Value.int (I 79 (Int32.toNatClampNeg (nI j))), (am_W I J T L C))
  rw [am_inb_ok hj (by decide)]
theorem mo_cell (I : Nat → Nat → Int32) (J : Nat → Nat → Int64) (T : Nat → Nat → Nat) (L : Nat) (C : Nat × Nat) {k : Nat} {x : Int32} (h : mcvok k x) : am_E 134 0 [.ref 49, .int (nI k), .int x] [] (am_W I J T L C) = some (.int (mcv I k x), (am_W I J T L C)) := by
  rcases h with rfl | ⟨j, rfl, h⟩
  · exact mo_cell_0 I J T L C
  · rcases h with ⟨rfl, hj⟩ | ⟨rfl, hj⟩ | ⟨rfl, hj⟩ | ⟨rfl, hj⟩ | ⟨rfl, hj⟩ | ⟨rfl, hj⟩ | ⟨rfl, hj⟩ | ⟨rfl, hj⟩ | ⟨rfl, hj⟩
    · exact mo_cell_1 I J T L C hj
    · exact mo_cell_2 I J T L C hj
    · exact mo_cell_3 I J T L C hj
    · exact mo_cell_4 I J T L C hj
    · exact mo_cell_5 I J T L C hj
    · exact mo_cell_6 I J T L C hj
    · exact mo_cell_7 I J T L C hj
    · exact mo_cell_8 I J T L C hj
    · exact mo_cell_9 I J T L C hj
theorem mo_set (I : Nat → Nat → Int32) (J : Nat → Nat → Int64) (T : Nat → Nat → Nat) (L : Nat) (C : Nat × Nat) {k j : Nat} {v : Int32} (hk : k = 2 ∨ k = 3) (hj : j < 32) : am_E 135 0 [.ref 49, .int (nI k), .int (nI j), .int v] [] (am_W I J T L C) = some (.null, am_W (am_up I (70 + k) j v) J T L C) := by
  rw [rg_135_0, am_inb_ok hj (by decide), am_inb_ok hj (by decide), nI_clamp (by omega)]
  rcases hk with rfl | rfl
  · rw [if_pos (by decide +kernel)]
  · rw [if_neg (by decide +kernel)]
def am_past (now since : Int64) (most : Int32) : Int32 := if 0 ≤ lg_cmp (now - since) most.toInt64 then most else Int64.toInt32 (now - since)
theorem mo_past (I : Nat → Nat → Int32) (J : Nat → Nat → Int64) (T : Nat → Nat → Nat) (L : Nat) (C : Nat × Nat) {y : Int64} {x : Int32} : am_E 136 0 [.ref 49, .long y, .null, .int x, .null, .null] [] (am_W I J T L C) = some (.int (am_past (J 49 44) y x), (am_W I J T L C)) := by
  rw [rg_136_0]
  unfold am_past
  by_cases h : 0 ≤ lg_cmp (J 49 44 - y) x.toInt64
  · rw [if_pos h, if_pos h]
  · rw [if_neg h, if_neg h]
theorem mo_truth (I : Nat → Nat → Int32) (J : Nat → Nat → Int64) (T : Nat → Nat → Nat) (L : Nat) (C : Nat × Nat) {x : Int32} : am_E 140 0 [.int x] [] (am_W I J T L C) = some (.int (am_b01 (decide (x ≠ 0))), (am_W I J T L C)) := by
  rw [rg_140_0]
  by_cases h : x = 0
  · rw [if_pos h, decide_eq_false (fun e => e h)]; rfl
  · rw [if_neg h, decide_eq_true h]; rfl
theorem mo_truth1 (I : Nat → Nat → Int32) (J : Nat → Nat → Int64) (T : Nat → Nat → Nat) (L : Nat) (C : Nat × Nat) : am_E 140 0 [.int 1] [] (am_W I J T L C) = some (.int 1, (am_W I J T L C)) := (rg_140_0 I J T L C 1).trans rfl
theorem mo_truth0 (I : Nat → Nat → Int32) (J : Nat → Nat → Int64) (T : Nat → Nat → Nat) (L : Nat) (C : Nat × Nat) : am_E 140 0 [.int 0] [] (am_W I J T L C) = some (.int 0, (am_W I J T L C)) := (rg_140_0 I J T L C 0).trans rfl
def mo_on (I : Nat → Nat → Int32) : Bool := decide (I 49 60 ≠ 0)
theorem mo_edge_head (I : Nat → Nat → Int32) (J : Nat → Nat → Int64) (T : Nat → Nat → Nat) (L : Nat) (C : Nat × Nat) (a n : Int32) : am_E 139 0 [.ref 49, .int a, .int n, .null] [] (am_W I J T L C) = am_E 139 6 [.ref 49, .int a, .int n, .null] [.int (am_b01 (mo_on I))] (am_W I J T L C) := by
  rw [rg_139_0]
  unfold mo_on
  by_cases h : I 49 60 = 0
  · rw [if_pos h, decide_eq_false (fun e => e h)]; rfl
  · rw [if_neg h, decide_eq_true h]; rfl
theorem mo_rise (I : Nat → Nat → Int32) (J : Nat → Nat → Int64) (T : Nat → Nat → Nat) (L : Nat) (C : Nat × Nat) {j : Nat} {p : Bool} (hj : j < 16) (hp : I 88 j = am_b01 p) : am_E 139 0 [.ref 49, .int 28, .int (nI j), .null] [] (am_W I J T L C) = some (.null, am_W (am_up (am_up I 49 60 (am_b01 (mo_on I && !p))) 88 j (am_b01 (mo_on I))) J T L C) := by
  rw [mo_edge_head, rg_139_6, if_pos rfl, am_if_b01, am_inb_ok hj (by decide), nI_clamp (by omega), hp, am_if_b01]
  have t : ∀ v b : Bool, am_E 139 21 [.ref 49, .int 28, .int (nI j), .int (am_b01 b)] [.int (am_b01 v), .ref 49] (am_W I J T L C) = some (.null, am_W (am_up (am_up I 49 60 (am_b01 v)) 88 j (am_b01 b)) J T L C) := by
    intro v b
    rw [rg_139_21, am_inb_ok hj (by decide), nI_clamp (by omega), am_b01_bit]
    rfl
  rw [rg_139_20]
  cases mo_on I
  · exact t false false
  · cases p
    · exact t true true
    · exact t false true
theorem mo_fall (I : Nat → Nat → Int32) (J : Nat → Nat → Int64) (T : Nat → Nat → Nat) (L : Nat) (C : Nat × Nat) {j : Nat} {p : Bool} (hj : j < 16) (hp : I 89 j = am_b01 p) : am_E 139 0 [.ref 49, .int 29, .int (nI j), .null] [] (am_W I J T L C) = some (.null, am_W (am_up (am_up I 49 60 (am_b01 (!mo_on I && p))) 89 j (am_b01 (mo_on I))) J T L C) := by
  rw [mo_edge_head, rg_139_6, if_neg (by decide +kernel), am_if_b01, am_inb_ok hj (by decide), nI_clamp (by omega), hp, am_if_b01]
  have t : ∀ v b : Bool, am_E 139 39 [.ref 49, .int 29, .int (nI j), .int (am_b01 b)] [.int (am_b01 v), .ref 49] (am_W I J T L C) = some (.null, am_W (am_up (am_up I 49 60 (am_b01 v)) 89 j (am_b01 b)) J T L C) := by
    intro v b
    rw [rg_139_39, am_inb_ok hj (by decide), nI_clamp (by omega), am_b01_bit]
    rfl
  rw [rg_139_38]
  cases mo_on I
  · cases p
    · exact t false false
    · exact t true false
  · exact t false true

/-! LOAD in the class: the two programs change places. -/
def am_RX : Nat → Nat → Nat := am_up (am_up am_RF 2 1 34) 1 2 5
abbrev am_X (I : Nat → Nat → Int32) (J : Nat → Nat → Int64) (T : Nat → Nat → Nat) (L : Nat) (C : Nat × Nat) : am_H := ((I, J, T), (am_RX, am_SF L, 92), C)
theorem xg_12_0 (I : Nat → Nat → Int32) (J : Nat → Nat → Int64) (T : Nat → Nat → Nat) (L : Nat) (C : Nat × Nat) : am_E 12 0 [.ref 22] [] (am_X I J T L C) = ((am_E 1 0 [.ref 23] [] (am_X I J T L C)).bind (fun z1 => (am_E 12 3 [.ref 22] [] z1.2))) := (am_rg [3, 6] 3 _ _ _ _ _).trans rfl
theorem xg_12_3 (I : Nat → Nat → Int32) (J : Nat → Nat → Int64) (T : Nat → Nat → Nat) (L : Nat) (C : Nat × Nat) : am_E 12 3 [.ref 22] [] (am_X I J T L C) = ((am_E 29 0 [.ref 28] [] (am_X I J T L C)).bind (fun z1 => (am_E 12 6 [.ref 22] [] z1.2))) := (am_rg [3, 6] 3 _ _ _ _ _).trans rfl
theorem xg_12_6 (I : Nat → Nat → Int32) (J : Nat → Nat → Int64) (T : Nat → Nat → Nat) (L : Nat) (C : Nat × Nat) : am_E 12 6 [.ref 22] [] (am_X I J T L C) = (some (.null, (am_X (am_up (am_up (am_up (am_up I 22 2 0) 22 3 0) 22 4 0) 22 5 0) (am_up J 22 1 0) T L C))) := (am_rg [3, 6] 16 _ _ _ _ _).trans rfl
theorem xg_1_0 (I : Nat → Nat → Int32) (J : Nat → Nat → Int64) (T : Nat → Nat → Nat) (L : Nat) (C : Nat × Nat) : am_E 1 0 [.ref 23] [] (am_X I J T L C) = ((am_E 93 0 [.ref 24, .int 0, .null] [] (am_X I J T L C)).bind (fun z1 => (am_E 1 4 [.ref 23] [] z1.2))) := (am_rg [4, 8, 12, 16, 21] 4 _ _ _ _ _).trans rfl
theorem xg_1_4 (I : Nat → Nat → Int32) (J : Nat → Nat → Int64) (T : Nat → Nat → Nat) (L : Nat) (C : Nat × Nat) : am_E 1 4 [.ref 23] [] (am_X I J T L C) = ((am_E 93 0 [.ref 25, .int 0, .null] [] (am_X I J T L C)).bind (fun z1 => (am_E 1 8 [.ref 23] [] z1.2))) := (am_rg [4, 8, 12, 16, 21] 4 _ _ _ _ _).trans rfl
theorem xg_1_8 (I : Nat → Nat → Int32) (J : Nat → Nat → Int64) (T : Nat → Nat → Nat) (L : Nat) (C : Nat × Nat) : am_E 1 8 [.ref 23] [] (am_X I J T L C) = ((am_E 93 0 [.ref 26, .int 0, .null] [] (am_X I J T L C)).bind (fun z1 => (am_E 1 12 [.ref 23] [] z1.2))) := (am_rg [4, 8, 12, 16, 21] 4 _ _ _ _ _).trans rfl
theorem xg_1_12 (I : Nat → Nat → Int32) (J : Nat → Nat → Int64) (T : Nat → Nat → Nat) (L : Nat) (C : Nat × Nat) : am_E 1 12 [.ref 23] [] (am_X I J T L C) = ((am_E 93 0 [.ref 27, .int 0, .null] [] (am_X I J T L C)).bind (fun z1 => (am_E 1 16 [.ref 23] [] z1.2))) := (am_rg [4, 8, 12, 16, 21] 4 _ _ _ _ _).trans rfl
theorem xg_1_16 (I : Nat → Nat → Int32) (J : Nat → Nat → Int64) (T : Nat → Nat → Nat) (L : Nat) (C : Nat × Nat) : am_E 1 16 [.ref 23] [] (am_X I J T L C) = ((am_E 90 0 [.ref 24, .int 3, .int 1] [] (am_X I J T L C)).bind (fun z1 => (am_E 1 21 [.ref 23] [] z1.2))) := (am_rg [4, 8, 12, 16, 21] 5 _ _ _ _ _).trans rfl
theorem xg_1_21 (I : Nat → Nat → Int32) (J : Nat → Nat → Int64) (T : Nat → Nat → Nat) (L : Nat) (C : Nat × Nat) : am_E 1 21 [.ref 23] [] (am_X I J T L C) = (some (.null, (am_X I J T L C))) := (am_rg [4, 8, 12, 16, 21] 1 _ _ _ _ _).trans rfl
theorem xg_29_0 (I : Nat → Nat → Int32) (J : Nat → Nat → Int64) (T : Nat → Nat → Nat) (L : Nat) (C : Nat × Nat) : am_E 29 0 [.ref 28] [] (am_X I J T L C) = (some (.null, (am_X (am_up (am_up (am_up (am_up (am_up (am_up (am_up (am_up I 28 0 0) 28 2 0) 28 3 0) 28 5 0) 28 7 0) 28 8 0) 28 9 0) 28 10 0) J T L C))) := (am_rg [] 25 _ _ _ _ _).trans rfl
theorem xg_93_0 (I : Nat → Nat → Int32) (J : Nat → Nat → Int64) (T : Nat → Nat → Nat) (L : Nat) (C : Nat × Nat) (q0 : Nat) (x1 : Int32) : am_E 93 0 [.ref q0, .int x1, .null] [] (am_X I J T L C) = (am_E 93 2 [.ref q0, .int x1, .int 0] [] (am_X I J T L C)) := (am_rg [2] 2 _ _ _ _ _).trans rfl
theorem xg_93_2 (I : Nat → Nat → Int32) (J : Nat → Nat → Int64) (T : Nat → Nat → Nat) (L : Nat) (C : Nat × Nat) (q0 : Nat) (x1 : Int32) (x2 : Int32) : am_E 93 2 [.ref q0, .int x1, .int x2] [] (am_X I J T L C) = (cond (Nat.ble 20 (am_SF L q0).1 && Nat.ble (am_SF L q0).1 27) (if (nI (am_SF L q0).2) ≤ x2 then (some (.null, (am_X I J T L C))) else (cond (Nat.beq (am_SF L q0).1 20) (am_inb x2 (am_SF L q0).2 (am_E 93 2 [.ref q0, .int x1, .int (x2 + 1)] [] (am_X (am_up I q0 (Int32.toNatClampNeg x2) x1) J T L C))) none)) none) := (am_rg [2] 10 _ _ _ _ _).trans rfl
theorem xg_90_0 (I : Nat → Nat → Int32) (J : Nat → Nat → Int64) (T : Nat → Nat → Nat) (L : Nat) (C : Nat × Nat) (q0 : Nat) (x1 : Int32) (x2 : Int32) : am_E 90 0 [.ref q0, .int x1, .int x2] [] (am_X I J T L C) = (if x1 < 0 then (some (.null, (am_X I J T L C))) else (cond (Nat.ble 20 (am_SF L q0).1 && Nat.ble (am_SF L q0).1 27) (if (nI (am_SF L q0).2) ≤ x1 then (some (.null, (am_X I J T L C))) else (cond (Nat.beq (am_SF L q0).1 20) (am_inb x1 (am_SF L q0).2 (some (.null, (am_X (am_up I q0 (Int32.toNatClampNeg x1) x2) J T L C)))) none)) none)) := (am_rg [] 11 _ _ _ _ _).trans rfl
theorem xg_75_21 (I : Nat → Nat → Int32) (J : Nat → Nat → Int64) (T : Nat → Nat → Nat) (L : Nat) (C : Nat × Nat) : am_E 75 21 [.ref 1, .ref 5] [] (am_X I J T L C) = (some (.int (I 5 6), (am_X I J T L C))) := (am_rg [3, 21] 4 _ _ _ _ _).trans rfl
theorem xg_75_3 (I : Nat → Nat → Int32) (J : Nat → Nat → Int64) (T : Nat → Nat → Nat) (L : Nat) (C : Nat × Nat) (xs0 : Int32) : am_E 75 3 [.ref 1, .null] [.int xs0] (am_W I J T L C) = (if xs0 = 0 then some (.int (-1), (am_W I J T L C)) else (am_E 12 0 [.ref 22] [] (am_X I J T L C)).bind (fun z1 => am_E 75 21 [.ref 1, .ref 5] [] z1.2)) := (am_rg [3, 21] 18 _ _ _ _ _).trans rfl
theorem xf_put {I : Nat → Nat → Int32} {J : Nat → Nat → Int64} {T : Nat → Nat → Nat} {L : Nat} {C : Nat × Nat} {q j N : Nat} {v : Int32} (hS : am_SF L q = (20, N)) (hj : j < N) (hN : N < 2 ^ 31) : am_E 90 0 [.ref q, .int (nI j), .int v] [] (am_X I J T L C) = some (.null, am_X (am_up I q j v) J T L C) := by
  rw [xg_90_0, hS]
  show (if nI j < 0 then _ else if nI N ≤ nI j then _ else am_inb (nI j) N (some (Value.null, am_X (am_up I q (Int32.toNatClampNeg (nI j)) v) J T L C))) = _
  rw [if_neg (nI_pos (by omega)), if_neg (nI_ge hj hN), am_inb_ok hj hN, nI_clamp (by omega)]
theorem xf_fill1 {J : Nat → Nat → Int64} {T : Nat → Nat → Nat} {L : Nat} {C : Nat × Nat} {q N : Nat} {v : Int32} (hS : am_SF L q = (20, N)) (hN : N < 2 ^ 31) : ∀ (d j : Nat) (I : Nat → Nat → Int32), j + d = N → am_E 93 2 [.ref q, .int v, .int (nI j)] [] (am_X I J T L C) = some (.null, am_X (am_fl I q j N v) J T L C) := by
  intro d
  induction d with
  | zero =>
    intro j I hj
    rw [xg_93_2, hS]
    show (if nI N ≤ nI j then _ else _) = _
    rw [if_pos (nI_le (by omega) (by omega)), am_fl_z _ _ _ _ _ (by omega)]
  | succ d ih =>
    intro j I hj
    rw [xg_93_2, hS]
    show (if nI N ≤ nI j then _ else am_inb (nI j) N (am_E 93 2 [.ref q, .int v, .int (nI j + 1)] [] (am_X (am_up I q (Int32.toNatClampNeg (nI j)) v) J T L C))) = _
    rw [if_neg (nI_ge (by omega) hN), am_inb_ok (by omega) hN, nI_clamp (by omega), nI_1, ih (j + 1) _ (by omega), am_fl_s _ _ _ _ _ (by omega)]
theorem xf_fill {I : Nat → Nat → Int32} {J : Nat → Nat → Int64} {T : Nat → Nat → Nat} {L : Nat} {C : Nat × Nat} {q N : Nat} {v : Int32} (hS : am_SF L q = (20, N)) (hN : N < 2 ^ 31) : am_E 93 0 [.ref q, .int v, .null] [] (am_X I J T L C) = some (.null, am_X (am_fl I q 0 N v) J T L C) := by
  rw [xg_93_0, show (0 : Int32) = nI 0 from nI_0.symm]
  exact xf_fill1 hS hN N 0 I (by omega)
theorem xl_clear {I : Nat → Nat → Int32} {J : Nat → Nat → Int64} {T : Nat → Nat → Nat} {L : Nat} {C : Nat × Nat} : am_E 1 0 [.ref 23] [] (am_X I J T L C) = some (.null, am_X (cl_clr I) J T L C) := by
  rw [xg_1_0, xf_fill (q := 24) (N := 6) rfl (by decide), am_okb, xg_1_4, xf_fill (q := 25) (N := 32) rfl (by decide), am_okb, xg_1_8, xf_fill (q := 26) (N := 8) rfl (by decide), am_okb, xg_1_12, xf_fill (q := 27) (N := 8) rfl (by decide), am_okb, xg_1_16]
  show Option.bind (am_E 90 0 [.ref 24, .int (nI 3), .int 1] [] _) _ = _
  rw [xf_put (q := 24) (N := 6) rfl (by decide) (by decide), am_okb, xg_1_21]
  rfl
theorem xa_again (I : Nat → Nat → Int32) (J : Nat → Nat → Int64) (T : Nat → Nat → Nat) (L : Nat) (C : Nat × Nat) : am_E 12 0 [.ref 22] [] (am_X I J T L C) = some (.null, am_X (ma_clrI I) (am_up J 22 1 0) T L C) := by
  rw [xg_12_0, xl_clear, am_okb, xg_12_3, xg_29_0, am_okb, xg_12_6]
  rfl
/-- load, a fault -/
theorem cl_load0 (I : Nat → Nat → Int32) (J : Nat → Nat → Int64) (T : Nat → Nat → Nat) (L : Nat) (C : Nat × Nat) {I1 : Nat → Nat → Int32} {T1 : Nat → Nat → Nat} (e : am_E 44 0 [.ref 2, .null, .null, .null] [] (am_W I J T L C) = some (.int 0, am_W I1 J T1 L C)) : am_E 75 0 [.ref 1, .null] [] (am_W I J T L C) = some (.int (-1), am_W I1 J T1 L C) := by
  rw [rg_75_0, e, am_okb, am_vIi, xg_75_3, if_pos rfl]
/-- load, no fault -/
theorem cl_load1 (I : Nat → Nat → Int32) (J : Nat → Nat → Int64) (T : Nat → Nat → Nat) (L : Nat) (C : Nat × Nat) {I1 : Nat → Nat → Int32} {T1 : Nat → Nat → Nat} (e : am_E 44 0 [.ref 2, .null, .null, .null] [] (am_W I J T L C) = some (.int 1, am_W I1 J T1 L C)) : am_E 75 0 [.ref 1, .null] [] (am_W I J T L C) = some (.int (I1 5 6), am_X (ma_clrI I1) (am_up J 22 1 0) T1 L C) := by
  rw [rg_75_0, e, am_okb, am_vIi, xg_75_3, if_neg (by decide), xa_again, am_okb, xg_75_21]
  rfl
def rJ (J : Nat → Nat → Int64) : Nat → Nat → Int64 := fun q k => J (am_sig q) k
theorem get_out {α : Type} {l : List (List α)} {k : Nat} {d : α} (h : l.length * 16 ≤ k) : am_get l k d = d := by
  unfold am_get
  have e : l.length ≤ k / 16 := by omega
  rw [show l.getD (k / 16) [] = [] by rw [List.getD_eq_getElem?_getD, List.getElem?_eq_none e]; rfl]
  rfl
theorem rf_fin : ∀ a, a < 96 → (am_get am_rf a []).length ≤ 64 ∧ am_get am_rf (am_sig a) [] = (am_get am_rf (am_sig a) []) := by decide +kernel
theorem rx_rows : ∀ a, a < 96 → a ≠ 1 → a ≠ 2 → (am_get am_rf (am_sig a) []).map am_sig = am_get am_rf a [] := by decide +kernel
theorem rx_12 : ∀ b, b < 64 → am_sig (am_RX (am_sig 1) b) = am_RF 1 b ∧ am_sig (am_RX (am_sig 2) b) = am_RF 2 b := by decide +kernel
theorem sig_ne : ∀ a, a < 96 → a ≠ 1 → a ≠ 2 → am_sig a ≠ 1 ∧ am_sig a ≠ 2 := by decide +kernel
theorem getD_map (l : List Nat) (b : Nat) : am_sig (l.getD b 0) = (l.map am_sig).getD b 0 := by
  rw [List.getD_eq_getElem?_getD, List.getD_eq_getElem?_getD, List.getElem?_map]
  cases l[b]? with
  | none => rfl
  | some x => rfl
theorem rx_fin (a : Nat) (h : a < 96) (b : Nat) (hb : b < 64) : am_sig (am_RX (am_sig a) b) = am_RF a b := by
  by_cases h1 : a = 1
  · rw [h1]; exact (rx_12 b hb).1
  by_cases h2 : a = 2
  · rw [h2]; exact (rx_12 b hb).2
  obtain ⟨n1, n2⟩ := sig_ne a h h1 h2
  unfold am_RX
  rw [am_up_ne (fun e => n1 e.1), am_up_ne (fun e => n2 e.1)]
  unfold am_RF
  rw [getD_map, rx_rows a h h1 h2]
theorem sig_lt : ∀ a, a < 96 → am_sig a < 96 := by decide +kernel
theorem sig_big {a : Nat} (h : 49 ≤ a) : am_sig a = a := by
  unfold am_sig
  rw [ble_f (by omega : 19 < a), Bool.and_false, ble_f (by omega : 48 < a), Bool.and_false]
  rfl
theorem rf_row {a b : Nat} (h : 96 ≤ a ∨ 64 ≤ b) : am_RF a b = 0 := by
  unfold am_RF
  by_cases c : 96 ≤ a
  · rw [get_out (show am_rf.length * 16 ≤ a from Nat.le_trans (by decide) c)]
    rfl
  · have hl := (rf_fin a (by omega)).1
    rw [List.getD_eq_getElem?_getD, List.getElem?_eq_none (by omega)]
    rfl
theorem rx_all (a b : Nat) : am_sig (am_RX (am_sig a) b) = am_RF a b := by
  by_cases ha : a < 96
  · by_cases hb : b < 64
    · exact rx_fin a ha b hb
    · have h2 := sig_lt a ha
      unfold am_RX
      rw [am_up_ne (by omega), am_up_ne (by omega), rf_row (Or.inr (by omega)), rf_row (Or.inr (by omega))]
      rfl
  · rw [sig_big (a := a) (by omega)]
    unfold am_RX
    rw [am_up_ne (by omega), am_up_ne (by omega), rf_row (a := a) (Or.inl (by omega))]
    rfl
theorem sh_fin : ∀ a, a < 93 → am_sig a < 93 ∧ am_get am_sh (am_sig a) (0, 0) = am_get am_sh a (0, 0) := by decide +kernel
theorem sf_sig (L a : Nat) : am_SF L (am_sig a) = am_SF L a := by
  by_cases h : a < 93
  · obtain ⟨h1, h2⟩ := sh_fin a h
    unfold am_SF
    rw [ble_t (by omega : am_sig a ≤ 92), ble_t (by omega : a ≤ 92), h2]
    rfl
  · rw [sig_big (by omega)]
/-- behind the renaming the world is of the old form -/
theorem swap_X (I : Nat → Nat → Int32) (J : Nat → Nat → Int64) (T : Nat → Nat → Nat) (L : Nat) (C : Nat × Nat) : am_swap (am_X I J T L C) = am_W (rI I) (rJ J) (rT T) L C := by
  unfold am_swap am_X am_W rI rJ rT
  have e1 : (fun a b => am_sig (am_RX (am_sig a) b)) = am_RF := funext fun a => funext fun b => rx_all a b
  have e2 : (fun a => am_SF L (am_sig a)) = am_SF L := funext fun a => sf_sig L a
  show ((_, _, _), ((fun a b => am_sig (am_RX (am_sig a) b)), (fun a => am_SF L (am_sig a)), 92), C) = _
  rw [e1, e2]

/-! THE CLASS READS OPERANDS and adds an instruction. -/
def ADD (I : Nat → Nat → Int32) (n : Nat) (k m l : Int32) : Nat → Nat → Int32 := am_up (am_up (am_up (am_up I 16 n k) 17 n m) 18 n l) 5 6 (nI (n + 1))
def onl (m : Nat) : Int32 := [3711, 3711, 70, 6, 0, 0, 128, 0, 16, 32, 32, 256, 0, 0].getD m 0
def lim (m : Nat) : Nat := if m = 8 then 1000000 else 32767
theorem cl_add (I : Nat → Nat → Int32) (J : Nat → Nat → Int64) (T : Nat → Nat → Nat) (L : Nat) (C : Nat × Nat) {i n : Nat} (k m l : Int32) (hi : i < 41) (hn : n < 80) (h6 : I 5 6 = nI n) : am_E 41 0 [.ref 5, .ref (1001 + i), .int k, .int m, .int l] [] (am_W I J T L C) = some (.null, am_W (ADD I n k m l) J (am_up T 15 n (1001 + i)) L C) := by
  have cl : Int32.toNatClampNeg (nI n) = n := nI_clamp (by omega)
  rw [rg_41_0, h6, if_neg (nI_pos (by omega)), if_pos (nI_lt hn (by decide)), am_inb_ok hn (by decide), sf_op L hi, cl]
  show Option.bind (am_E 90 0 [.ref 16, .int (nI n), .int k] [] (am_W I J (am_up T 15 n (1001 + i)) L C)) _ = _
  rw [lf_put (q := 16) (N := 80) rfl hn (by decide), am_okb, rg_41_22]
  have e1 : am_up I 16 n k 5 6 = nI n := h6
  rw [e1, lf_put (q := 17) (N := 80) rfl hn (by decide), am_okb, rg_41_28]
  have e2 : am_up (am_up I 16 n k) 17 n m 5 6 = nI n := h6
  rw [e2, lf_put (q := 18) (N := 80) rfl hn (by decide), am_okb, rg_41_34]
  have e3 : am_up (am_up (am_up I 16 n k) 17 n m) 18 n l 5 6 = nI n := h6
  rw [e3, nI_1]
  rfl
theorem cl_note (I : Nat → Nat → Int32) (J : Nat → Nat → Int64) (T : Nat → Nat → Nat) (L : Nat) (C : Nat × Nat) {q x N : Nat} (f : Int32) (hS : am_SF L q = (20, N)) (hx : x < N) (hN : N < 2 ^ 31) : am_E 65 0 [.ref 2, .ref q, .int (nI x), .int f] [] (am_W I J T L C) = some (.null, am_W (am_up I q x (if I q x = -1 then f else I q x)) J T L C) := by
  rw [rg_65_0, lf_at hS hx hN, am_okb, am_vIi, rg_65_3]
  by_cases e : I q x = -1
  · rw [if_pos e, if_pos e, lf_put hS hx hN, am_okb, rg_65_9]
  · rw [if_neg e, if_neg e, am_up_same, rg_65_9]
theorem cl_only (I : Nat → Nat → Int32) (J : Nat → Nat → Int64) (T : Nat → Nat → Nat) (L : Nat) (C : Nat × Nat) {i : Nat} (hi : i < 41) : am_E 57 0 [.ref 2, .ref (1001 + i)] [] (am_W I J T L C) = some (.int (onl (frm i)), (am_W I J T L C)) := by
  rw [rg_57_0, sf_op L hi, (frm_ok i hi).1]
  have hm := (frm_ok i hi).2
  generalize frm i = m at hm ⊢
  rcases (show m = 0 ∨ m = 1 ∨ m = 2 ∨ m = 3 ∨ m = 4 ∨ m = 5 ∨ m = 6 ∨ m = 7 ∨ m = 8 ∨ m = 9 ∨ m = 10 ∨ m = 11 ∨ m = 12 ∨ m = 13 by omega) with rfl | rfl | rfl | rfl | rfl | rfl | rfl | rfl | rfl | rfl | rfl | rfl | rfl | rfl
  · rfl
  · rfl
  · rfl
  · rfl
  · rfl
  · rfl
  · rfl
  · rfl
  · rfl
  · rfl
  · rfl
  · rfl
  · rfl
  · rfl
theorem ro_69 (I : Nat → Nat → Int32) (J : Nat → Nat → Int64) (T : Nat → Nat → Nat) (L : Nat) (C : Nat × Nat) {i n : Nat} (x2 x3 x4 x5 x6 : Int32) (hi : i < 41) (hn : n < 80) (h6 : I 5 6 = nI n) : am_E 56 69 [.ref 2, .ref (1001 + i), .int x2, .int x3, .int x4, .int x5, .int x6] [] (am_W I J T L C) = some (.int 1, am_W (ADD I n x5 x6 x3) J (am_up T 15 n (1001 + i)) L C) := by
  rw [rg_56_69, cl_add I J T L C x5 x6 x3 hi hn h6, am_okb, rg_56_76]
theorem ro_28 (I : Nat → Nat → Int32) (J : Nat → Nat → Int64) (T : Nat → Nat → Nat) (L : Nat) (C : Nat × Nat) {i n : Nat} (x2 x4 : Int32) (hi : i < 41) (hn : n < 80) (h6 : I 5 6 = nI n) (hm : frm i ≠ 8 ∧ frm i ≠ 9 ∧ frm i ≠ 6) : am_E 56 28 [.ref 2, .ref (1001 + i), .int x2, .int 0, .int x4, .null, .null] [] (am_W I J T L C) = some (.int 1, am_W (ADD I n (I 2 10) (I 2 11) 0) J (am_up T 15 n (1001 + i)) L C) := by
  have h14 := (frm_ok i hi).2
  rw [rg_56_28, sf_op L hi, (frm_ok i hi).1]
  show (if nI (frm i) = 8 then am_E 56 42 _ _ _ else (if nI (frm i) = 9 then am_E 56 42 _ _ _ else (if nI (frm i) = 6 then _ else am_E 56 69 [.ref 2, .ref (1001 + i), .int x2, .int 0, .int x4, .int (I 2 10), .int (I 2 11)] [] (am_W I J T L C)))) = _
  rw [if_neg (show ¬ nI (frm i) = 8 from nb_ne (c := frm i) (n := 8) (by omega) (by decide) hm.1), if_neg (show ¬ nI (frm i) = 9 from nb_ne (c := frm i) (n := 9) (by omega) (by decide) hm.2.1), if_neg (show ¬ nI (frm i) = 6 from nb_ne (c := frm i) (n := 6) (by omega) (by decide) hm.2.2)]
  exact ro_69 I J T L C _ _ _ _ _ hi hn h6
theorem ro_jump (I : Nat → Nat → Int32) (J : Nat → Nat → Int64) (T : Nat → Nat → Nat) (L : Nat) (C : Nat × Nat) {i n x : Nat} (x2 x4 : Int32) (hi : i < 41) (hn : n < 80) (h6 : I 5 6 = nI n) (hm : frm i = 6) (hx : x < 32) (h11 : I 2 11 = nI x) : am_E 56 28 [.ref 2, .ref (1001 + i), .int x2, .int 0, .int x4, .null, .null] [] (am_W I J T L C) = some (.int 1, am_W (ADD (am_up I 20 x (if I 20 x = -1 then x2 else I 20 x)) n (I 2 10) (nI x) 0) J (am_up T 15 n (1001 + i)) L C) := by
  rw [rg_56_28, sf_op L hi, (frm_ok i hi).1, hm, h11]
  show Option.bind (am_E 65 0 [.ref 2, .ref 20, .int (nI x), .int x2] [] (am_W I J T L C)) (fun z1 => am_E 56 69 [.ref 2, .ref (1001 + i), .int x2, .int 0, .int x4, .int (I 2 10), .int (nI x)] [] z1.2) = _
  rw [cl_note I J T L C (q := 20) (N := 32) x2 rfl hx (by decide), am_okb]
  exact ro_69 (am_up I 20 x (if I 20 x = -1 then x2 else I 20 x)) J T L C _ _ _ _ _ hi hn h6
theorem ro_time (I : Nat → Nat → Int32) (J : Nat → Nat → Int64) (T : Nat → Nat → Nat) (L : Nat) (C : Nat × Nat) {tx : Nat → Nat} {N i n k f t g : Nat} (x2 x4 : Int32) (hi : i < 41) (hn : n < 80) (h6 : I 5 6 = nI n) (hm : frm i = 8 ∨ frm i = 9) (h : TX I 4 3 1 tx N) (hc : CK I k f t g) (hk : TK tx N k f t g) : (rff tx f t 700 (lim (frm i)) ≠ 0 ∧ am_E 56 28 [.ref 2, .ref (1001 + i), .int x2, .int 0, .int x4, .null, .null] [] (am_W I J T L C) = some (.int 0, am_W (flt I (rff tx f t 700 (lim (frm i))) f) J T L C)) ∨ (rff tx f t 700 (lim (frm i)) = 0 ∧ ∃ I1, am_E 56 28 [.ref 2, .ref (1001 + i), .int x2, .int 0, .int x4, .null, .null] [] (am_W I J T L C) = some (.int 1, am_W (ADD I1 n (I 2 10) (I 2 11) (nI (smv tx f t))) J (am_up T 15 n (1001 + i)) L C) ∧ CN I1 tx N t ∧ FG I I1) := by
  have e28 : am_E 56 28 [.ref 2, .ref (1001 + i), .int x2, .int 0, .int x4, .null, .null] [] (am_W I J T L C) = am_E 56 42 [.ref 2, .ref (1001 + i), .int x2, .int 0, .int x4, .int (I 2 10), .int (I 2 11)] [] (am_W I J T L C) := by
    rw [rg_56_28, sf_op L hi, (frm_ok i hi).1]
    rcases hm with e | e <;> rw [e] <;> rfl
  have e42 : am_E 56 42 [.ref 2, .ref (1001 + i), .int x2, .int 0, .int x4, .int (I 2 10), .int (I 2 11)] [] (am_W I J T L C) = am_E 56 51 [.ref 2, .ref (1001 + i), .int x2, .int 0, .int x4, .int (I 2 10), .int (I 2 11)] [.int (nI (lim (frm i))), .int (nI 700), .ref 2] (am_W I J T L C) := by
    rw [rg_56_42, sf_op L hi, (frm_ok i hi).1]
    rcases hm with e | e <;> rw [e] <;> rfl
  have hl : lim (frm i) < 2 ^ 31 := by unfold lim; split <;> decide
  rw [e28, e42, rg_56_51]
  rcases rd_figs I J T L C (mf := 700) (most := lim (frm i)) h hc hk (by decide) hl with ⟨a1, a2⟩ | ⟨a1, I1, a2, a3, a4, a5⟩
  · refine Or.inl ⟨a1, ?_⟩
    rw [a2, am_okb, am_vIi, rg_56_52, if_pos rfl]
  · refine Or.inr ⟨a1, I1, ?_, a4, a5⟩
    rw [a2, am_okb, am_vIi, rg_56_52, if_neg (by decide), a3]
    exact ro_69 I1 J T L C _ _ _ _ _ hi hn ((a5 5 6 (by omega)).trans h6)
theorem ro_none (I : Nat → Nat → Int32) (J : Nat → Nat → Int64) (T : Nat → Nat → Nat) (L : Nat) (C : Nat × Nat) {i n : Nat} {b : Bool} (hi : i < 41) (hn : n < 80) (h6 : I 5 6 = nI n) (h8 : I 2 8 = am_b01 b) (hm : (b = true ∧ frm i = 1) ∨ (b = false ∧ (frm i = 4 ∨ frm i = 5 ∨ frm i = 7))) : am_E 56 0 [.ref 2, .ref (1001 + i), .null, .null, .null, .null, .null] [] (am_W I J T L C) = some (.int 1, am_W (ADD (am_up (am_up I 2 10 12) 2 11 0) n 12 0 0) J (am_up T 15 n (1001 + i)) L C) := by
  have r : ∀ x2 x4, (frm i ≠ 8 ∧ frm i ≠ 9 ∧ frm i ≠ 6) → am_E 56 28 [.ref 2, .ref (1001 + i), .int x2, .int 0, .int x4, .null, .null] [] (am_W (am_up (am_up I 2 10 12) 2 11 0) J T L C) = some (.int 1, am_W (ADD (am_up (am_up I 2 10 12) 2 11 0) n 12 0 0) J (am_up T 15 n (1001 + i)) L C) := fun x2 x4 q => ro_28 (am_up (am_up I 2 10 12) 2 11 0) J T L C x2 x4 hi hn h6 q
  rw [rg_56_0, h8]
  rcases hm with ⟨rfl, e⟩ | ⟨rfl, e⟩
  · rw [if_neg (show ¬ am_b01 true = 0 by decide), rg_56_19, if_pos rfl]
    exact r _ _ (by omega)
  · rw [if_pos (show am_b01 false = 0 from rfl), cl_only (am_up (am_up I 2 10 12) 2 11 0) J T L C hi, am_okb, am_vIi, rg_56_19]
    have o : onl (frm i) = 0 := by rcases e with e | e | e <;> rw [e] <;> rfl
    rw [o, if_pos rfl]
    exact r _ _ (by omega)
theorem ro_cell (I : Nat → Nat → Int32) (J : Nat → Nat → Int64) (T : Nat → Nat → Nat) (L : Nat) (C : Nat × Nat) {tx : Nat → Nat} {N i k f t g : Nat} (hi : i < 41) (h8 : I 2 8 = 0) (ho : onl (frm i) ≠ 0) (h : TX I 4 3 1 tx N) (hc : CK I k f t g) (hk : TK tx N k f t g) : (crf tx k f t g (onl (frm i)) ≠ 0 ∧ am_E 56 0 [.ref 2, .ref (1001 + i), .null, .null, .null, .null, .null] [] (am_W I J T L C) = some (.int 0, am_W (flt (am_up (am_up I 2 10 12) 2 11 0) (crf tx k f t g (onl (frm i))) f) J T L C)) ∨ (crf tx k f t g (onl (frm i)) = 0 ∧ am_bt (onl (frm i)) (crk tx k f t g) = true ∧ kow tx k f t g = some (crk tx k f t g) ∧ ∃ I1, am_E 56 0 [.ref 2, .ref (1001 + i), .null, .null, .null, .null, .null] [] (am_W I J T L C) = am_E 56 28 [.ref 2, .ref (1001 + i), .int (nI f), .int 0, .int (onl (frm i)), .null, .null] [] (am_W I1 J T L C) ∧ I1 2 10 = nI (crk tx k f t g) ∧ I1 2 11 = crv tx k f t g ∧ CN I1 tx N t ∧ FG I I1) := by
  rw [rg_56_0, if_pos h8, cl_only (am_up (am_up I 2 10 12) 2 11 0) J T L C hi, am_okb, am_vIi, rg_56_19, if_neg ho, hc.2.1]
  rcases rd_cell (am_up (am_up I 2 10 12) 2 11 0) J T L C (onl (frm i)) h hc hk with ⟨a1, a2⟩ | ⟨a1, a2, a3, I1, a4, a5, a6, a7, a8⟩
  · refine Or.inl ⟨a1, ?_⟩
    rw [a2, am_okb, am_vIi, rg_56_25, if_pos rfl]
  · refine Or.inr ⟨a1, a2, a3, I1, ?_, a5, a6, a7, fun q k' hq => ?_⟩
    · rw [a4, am_okb, am_vIi, rg_56_25, if_neg (by decide)]
    · rw [a8 q k' hq, am_up_ne (by omega), am_up_ne (by omega)]

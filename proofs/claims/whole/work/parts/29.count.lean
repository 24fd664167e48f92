/-! THE MODEL'S COUNTERS. -/
theorem am_up_here {α : Type} (f : Nat → Nat → α) (q k : Nat) (v : α) : am_up f q k v q k = v := by rw [am_up_at, if_pos ⟨rfl, rfl⟩]
def mo_cnI (I : Nat → Nat → Int32) (q j : Nat) (c : Int32) (b o : Bool) : Nat → Nat → Int32 := am_up (am_up (am_up (am_up I 77 j c) q j (am_b01 b)) 78 j (am_b01 o)) 49 60 (am_b01 o)
theorem mo_cn_head (I : Nat → Nat → Int32) (J : Nat → Nat → Int64) (T : Nat → Nat → Nat) (L : Nat) (C : Nat × Nat) (a n x : Int32) : am_E 138 0 [.ref 49, .int a, .int n, .int x, .null] [] (am_W I J T L C) = am_E 138 6 [.ref 49, .int a, .int n, .int x, .null] [.int (am_b01 (mo_on I))] (am_W I J T L C) := by
  rw [rg_138_0]
  unfold mo_on
  by_cases h : I 49 60 = 0
  · rw [if_pos h, decide_eq_false (fun e => e h)]; rfl
  · rw [if_neg h, decide_eq_true h]; rfl
theorem mo_cn_102 (I : Nat → Nat → Int32) (J : Nat → Nat → Int64) (T : Nat → Nat → Nat) (L : Nat) (C : Nat × Nat) (a x v : Int32) {j : Nat} {o : Bool} (hj : j < 8) : am_E 138 102 [.ref 49, .int a, .int (nI j), .int x, .int v] [] (am_W (am_up I 78 j (am_b01 o)) J T L C) = some (.null, am_W (am_up (am_up I 78 j (am_b01 o)) 49 60 (am_b01 o)) J T L C) := by
  rw [rg_138_102, am_inb_ok hj (by decide), nI_clamp (by omega), am_up_here]
def mo_up (I : Nat → Nat → Int32) (j : Nat) (b p : Bool) : Int32 := if b = true ∧ p = false ∧ ¬ 32767 ≤ I 77 j then I 77 j + 1 else I 77 j
theorem mo_ctu_t (I : Nat → Nat → Int32) (J : Nat → Nat → Int64) (T : Nat → Nat → Nat) (L : Nat) (C : Nat × Nat) {j : Nat} {b : Bool} {x : Int32} (hj : j < 8) (c : Int32) : am_E 138 37 [.ref 49, .int 25, .int (nI j), .int x, .int (am_b01 b)] [.int c, .int (nI j), .ref 77] (am_W I J T L C) = some (.null, am_W (mo_cnI I 86 j c b (decide (x ≤ c))) J T L C) := by
  rw [rg_138_37, am_inb_ok hj (by decide), am_inb_ok hj (by decide), am_inb_ok hj (by decide), nI_clamp (by omega), am_up_here, am_b01_bit, cond_true]
  by_cases h : c < x
  · rw [if_pos h, decide_eq_false (Int32.not_le.mpr h), rg_138_55, am_inb_ok hj (by decide), nI_clamp (by omega)]
    exact mo_cn_102 _ _ _ _ _ _ _ _ (o := false) hj
  · rw [if_neg h, decide_eq_true (Int32.not_lt.mp h), rg_138_55, am_inb_ok hj (by decide), nI_clamp (by omega)]
    exact mo_cn_102 _ _ _ _ _ _ _ _ (o := true) hj
theorem mo_ctu (I : Nat → Nat → Int32) (J : Nat → Nat → Int64) (T : Nat → Nat → Nat) (L : Nat) (C : Nat × Nat) {j : Nat} {p : Bool} {x : Int32} (hj : j < 8) (hp : I 86 j = am_b01 p) : am_E 138 0 [.ref 49, .int 25, .int (nI j), .int x, .null] [] (am_W I J T L C) = some (.null, am_W (mo_cnI I 86 j (mo_up I j (mo_on I) p) (mo_on I) (decide (x ≤ mo_up I j (mo_on I) p))) J T L C) := by
  rw [mo_cn_head]
  have t33 : ∀ b : Bool, am_E 138 33 [.ref 49, .int 25, .int (nI j), .int x, .int (am_b01 b)] [.int (nI j), .ref 77] (am_W I J T L C) = am_E 138 37 [.ref 49, .int 25, .int (nI j), .int x, .int (am_b01 b)] [.int (I 77 j), .int (nI j), .ref 77] (am_W I J T L C) := by
    intro b
    rw [rg_138_33, am_inb_ok hj (by decide), nI_clamp (by omega)]
  have key : ∀ b : Bool, am_E 138 6 [.ref 49, .int 25, .int (nI j), .int x, .null] [.int (am_b01 b)] (am_W I J T L C) = am_E 138 37 [.ref 49, .int 25, .int (nI j), .int x, .int (am_b01 b)] [.int (mo_up I j b p), .int (nI j), .ref 77] (am_W I J T L C) := by
    intro b
    rw [rg_138_6, if_pos rfl, am_if_b01, am_inb_ok hj (by decide), am_inb_ok hj (by decide), am_inb_ok hj (by decide), nI_clamp (by omega), hp, am_if_b01, t33]
    unfold mo_up
    cases b with
    | false => rw [if_neg (show ¬ (false = true ∧ p = false ∧ ¬ 32767 ≤ I 77 j) from fun h => by cases h.1)]; rfl
    | true =>
      cases p with
      | true => rw [if_neg (show ¬ (true = true ∧ true = false ∧ ¬ 32767 ≤ I 77 j) from fun h => by cases h.2.1)]; rfl
      | false =>
        rw [cond_true, cond_false]
        by_cases hc : 32767 ≤ I 77 j
        · rw [if_pos hc, if_neg (show ¬ (true = true ∧ false = false ∧ ¬ 32767 ≤ I 77 j) from fun h => h.2.2 hc)]
        · rw [if_neg hc, if_pos (show (true = true ∧ false = false ∧ ¬ 32767 ≤ I 77 j) from ⟨rfl, rfl, hc⟩)]
  rw [key]
  exact mo_ctu_t I J T L C hj _
def mo_dn (I : Nat → Nat → Int32) (j : Nat) (b p : Bool) : Int32 := if b = true ∧ p = false ∧ ¬ I 77 j ≤ (-32768) then I 77 j - 1 else I 77 j
theorem mo_ctd_t (I : Nat → Nat → Int32) (J : Nat → Nat → Int64) (T : Nat → Nat → Nat) (L : Nat) (C : Nat × Nat) {j : Nat} {b : Bool} {x : Int32} (hj : j < 8) (c : Int32) : am_E 138 84 [.ref 49, .int 26, .int (nI j), .int x, .int (am_b01 b)] [.int c, .int (nI j), .ref 77] (am_W I J T L C) = some (.null, am_W (mo_cnI I 87 j c b (decide (c ≤ 0))) J T L C) := by
  rw [rg_138_84, am_inb_ok hj (by decide), am_inb_ok hj (by decide), am_inb_ok hj (by decide), nI_clamp (by omega), am_up_here, am_b01_bit, cond_true]
  by_cases h : 0 < c
  · rw [if_pos h, decide_eq_false (Int32.not_le.mpr h), rg_138_101, am_inb_ok hj (by decide), nI_clamp (by omega)]
    exact mo_cn_102 _ _ _ _ _ _ _ _ (o := false) hj
  · rw [if_neg h, decide_eq_true (Int32.not_lt.mp h), rg_138_101, am_inb_ok hj (by decide), nI_clamp (by omega)]
    exact mo_cn_102 _ _ _ _ _ _ _ _ (o := true) hj
theorem mo_ctd (I : Nat → Nat → Int32) (J : Nat → Nat → Int64) (T : Nat → Nat → Nat) (L : Nat) (C : Nat × Nat) {j : Nat} {p : Bool} {x : Int32} (hj : j < 8) (hp : I 87 j = am_b01 p) : am_E 138 0 [.ref 49, .int 26, .int (nI j), .int x, .null] [] (am_W I J T L C) = some (.null, am_W (mo_cnI I 87 j (mo_dn I j (mo_on I) p) (mo_on I) (decide (mo_dn I j (mo_on I) p ≤ 0))) J T L C) := by
  rw [mo_cn_head]
  have t33 : ∀ b : Bool, am_E 138 80 [.ref 49, .int 26, .int (nI j), .int x, .int (am_b01 b)] [.int (nI j), .ref 77] (am_W I J T L C) = am_E 138 84 [.ref 49, .int 26, .int (nI j), .int x, .int (am_b01 b)] [.int (I 77 j), .int (nI j), .ref 77] (am_W I J T L C) := by
    intro b
    rw [rg_138_80, am_inb_ok hj (by decide), nI_clamp (by omega)]
  have key : ∀ b : Bool, am_E 138 6 [.ref 49, .int 26, .int (nI j), .int x, .null] [.int (am_b01 b)] (am_W I J T L C) = am_E 138 84 [.ref 49, .int 26, .int (nI j), .int x, .int (am_b01 b)] [.int (mo_dn I j b p), .int (nI j), .ref 77] (am_W I J T L C) := by
    intro b
    rw [rg_138_6, if_neg (by decide +kernel), am_if_b01, am_inb_ok hj (by decide), am_inb_ok hj (by decide), am_inb_ok hj (by decide), nI_clamp (by omega), hp, am_if_b01, t33]
    unfold mo_dn
    cases b with
    | false => rw [if_neg (show ¬ (false = true ∧ p = false ∧ ¬ I 77 j ≤ (-32768)) from fun h => by cases h.1)]; rfl
    | true =>
      cases p with
      | true => rw [if_neg (show ¬ (true = true ∧ true = false ∧ ¬ I 77 j ≤ (-32768)) from fun h => by cases h.2.1)]; rfl
      | false =>
        rw [cond_true, cond_false]
        by_cases hc : I 77 j ≤ (-32768)
        · rw [if_pos hc, if_neg (show ¬ (true = true ∧ false = false ∧ ¬ I 77 j ≤ (-32768)) from fun h => h.2.2 hc)]
        · rw [if_neg hc, if_pos (show (true = true ∧ false = false ∧ ¬ I 77 j ≤ (-32768)) from ⟨rfl, rfl, hc⟩)]
  rw [key]
  exact mo_ctd_t I J T L C hj _

/-! THE MODEL'S LIST: the jump. -/
theorem mo_own32 {o : Nat} (p : Nat) (ho : o < 2) : 32 * nI o + nI p = nI (32 * o + p) := by
  have h : ∀ o, o < 2 → 32 * nI o = nI (32 * o) := by decide +kernel
  rw [h o ho, nI_add]
theorem ml_jmp (I : Nat → Nat → Int32) (J : Nat → Nat → Int64) (T : Nat → Nat → Nat) (L : Nat) (C : Nat × Nat) {k p o l : Nat} (n : Int32) (b : Bool) (v5 : Value) (hk : k < 160) (h : ¬ I 49 46 = 500) (h20 : I 51 k = 20) (hO : I 49 22 = nI o) (ho : o < 2) (hl : I 54 k = nI l) (hl32 : l < 32) : am_E 147 56 [.ref 49, .int n, .int (nI p), .int 0, .int (nI k), v5] [.int (am_b01 b)] (am_W I J T L C) = am_E 147 19 [.ref 49, .int n, .int (cond b (I 57 (32 * o + l)) (nI (p + 1))), .int 0, .int (nI k), .int (am_b01 b)] [] (am_W (am_up I 49 46 (I 49 46 + 1)) J T L C) := by
  rw [rg_147_56, if_neg h, am_inb_ok hk (by decide), nI_clamp (by omega), if_pos h20, am_if_b01, nI_1, am_inb_ok hk (by decide), hO, hl, mo_own32 l ho, am_inb_ok (by omega) (by decide), nI_clamp (by omega), rg_147_88, rg_147_88, ml_110, ml_110, if_pos rfl, if_pos rfl]
  cases b <;> rfl

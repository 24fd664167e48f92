/-! THE MODEL'S CHART: one place of the actions in one pass. -/
theorem mo_own48 {o : Nat} (ho : o < 2) : 48 * nI o = nI (48 * o) := by
  have h : ∀ o, o < 2 → 48 * nI o = nI (48 * o) := by decide +kernel
  exact h o ho
theorem nI_subl (a b : Nat) : nI (a + b) - nI a = nI b := by
  rw [← nI_add, Int32.add_comm, Int32.add_sub_cancel]
def ma_ok (I : Nat → Nat → Int32) (x : Nat) : Prop := I 59 x = 0 ∨ ∃ k n, I 60 x = nI k ∧ I 61 x = nI n ∧ (k = 2 ∨ k = 3) ∧ n < 32
def ma_put (I : Nat → Nat → Int32) (x : Nat) (v : Int32) : Nat → Nat → Int32 := am_up I (70 + (I 60 x).toNatClampNeg) (I 61 x).toNatClampNeg v
theorem ma_put_set (I : Nat → Nat → Int32) (J : Nat → Nat → Int64) (T : Nat → Nat → Nat) (L : Nat) (C : Nat × Nat) {x : Nat} {v : Int32} (h0 : ¬ I 59 x = 0) (ok : ma_ok I x) : am_E 135 0 [.ref 49, .int (I 60 x), .int (I 61 x), .int v] [] (am_W I J T L C) = some (.null, am_W (ma_put I x v) J T L C) := by
  obtain ⟨k, n, hk, hn, hk2, hn32⟩ := ok.resolve_left h0
  have hk' : k < 4 := by omega
  unfold ma_put
  rw [hk, hn, mo_set _ _ _ _ _ hk2 hn32, nI_clamp (by omega), nI_clamp (by omega)]

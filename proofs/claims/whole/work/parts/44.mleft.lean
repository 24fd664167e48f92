/-! THE MODEL'S CHART: the loops over the steps. -/
theorem am_b01_is1 (b : Bool) : (am_b01 b = 1) = (b = true) := by cases b <;> simp [am_b01]
theorem mc_left (J : Nat → Nat → Int64) (T : Nat → Nat → Nat) (L : Nat) (C : Nat × Nat) {g : Nat} (hg : g < 32) (x1 x2 x3 x5 x6 : Int32) (f : Nat → Int32) (m : Int32) : ∀ (d i : Nat) (I : Nat → Nat → Int32), i + d = 16 → I 62 g = m → (∀ k, i ≤ k → (cond (am_bt m k) 0 (I 79 k)) = f k) → am_E 148 127 [.ref 49, .int x1, .int x2, .int x3, .int (nI g), .int x5, .int x6, .int (nI i)] [] (am_W I J T L C) = am_E 148 27 [.ref 49, .int x1, .int x2, .int x3, .int (nI (g + 1)), .int x5, .int x6, .int (nI 16)] [] (am_W (am_flf I 79 i 16 f) J T L C) := by
  intro d
  induction d with
  | zero =>
    intro i I hi hm hf
    have e : i = 16 := by omega
    subst e
    rw [rg_148_127, if_pos (by decide +kernel), am_flf_z _ _ _ _ _ (by omega), nI_1]
  | succ d ih =>
    intro i I hi hm hf
    have step : ∀ v, v = f i → am_E 148 127 [.ref 49, .int x1, .int x2, .int x3, .int (nI g), .int x5, .int x6, .int (nI (i + 1))] [] (am_W (am_up I 79 i v) J T L C) = am_E 148 27 [.ref 49, .int x1, .int x2, .int x3, .int (nI (g + 1)), .int x5, .int x6, .int (nI 16)] [] (am_W (am_flf I 79 i 16 f) J T L C) := by
      intro v hv
      rw [hv, ih (i + 1) _ (by omega) (by rw [am_up_at, if_neg (by omega)]; exact hm) (fun k hk => by rw [am_up_at, if_neg (by omega)]; exact hf k (by omega)), am_flf_s _ _ _ _ _ (by omega)]
    rw [rg_148_127]
    show (if nI 16 ≤ nI i then _ else _) = _
    rw [if_neg (nI_ge (by omega) (by decide)), am_inb_ok hg (by decide), nI_clamp (by omega), nI_clamp (by omega), hm, bt_sar (by omega), am_inb_ok (by omega) (by decide), nI_1, am_inb_ok (by omega) (by decide)]
    have hfi := hf i (Nat.le_refl _)
    cases hb : am_bt m i with
    | true =>
      rw [hb] at hfi
      rw [if_pos (by decide +kernel)]
      exact step _ hfi
    | false =>
      rw [hb] at hfi
      rw [if_neg (by decide +kernel)]
      first
        | exact step _ hfi
        | (rw [am_inb_ok (by omega) (by decide)]; exact step _ hfi)

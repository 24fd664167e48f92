/-! THE MODEL'S CHART: steps entered. -/
theorem mc_enter (J : Nat → Nat → Int64) (T : Nat → Nat → Nat) (L : Nat) (C : Nat × Nat) (x1 m x3 : Int32) (v5 v6 v7 : Value) (f : Nat → Int32) : ∀ (d i : Nat) (I : Nat → Nat → Int32), i + d = 16 → (∀ k, i ≤ k → (cond (am_bt m k) 1 (I 79 k)) = f k) → am_E 148 156 [.ref 49, .int x1, .int m, .int x3, .int (nI i), v5, v6, v7] [] (am_W I J T L C) = am_E 148 180 [.ref 49, .int x1, .int m, .int x3, .int 0, v5, v6, v7] [] (am_W (am_flf I 79 i 16 f) J T L C) := by
  intro d
  induction d with
  | zero =>
    intro i I hi hf
    have e : i = 16 := by omega
    subst e
    rw [rg_148_156, if_pos (by decide +kernel), am_flf_z _ _ _ _ _ (by omega)]
  | succ d ih =>
    intro i I hi hf
    have step : ∀ v, v = f i → am_E 148 156 [.ref 49, .int x1, .int m, .int x3, .int (nI (i + 1)), v5, v6, v7] [] (am_W (am_up I 79 i v) J T L C) = am_E 148 180 [.ref 49, .int x1, .int m, .int x3, .int 0, v5, v6, v7] [] (am_W (am_flf I 79 i 16 f) J T L C) := by
      intro v hv
      rw [hv, ih (i + 1) _ (by omega) (fun k hk => by rw [am_up_at, if_neg (by omega)]; exact hf k (by omega)), am_flf_s _ _ _ _ _ (by omega)]
    rw [rg_148_156]
    show (if nI 16 ≤ nI i then _ else _) = _
    rw [if_neg (nI_ge (by omega) (by decide)), bt_sar (by omega), am_inb_ok (by omega) (by decide), nI_1, am_inb_ok (by omega) (by decide), nI_clamp (by omega)]
    have hfi := hf i (Nat.le_refl _)
    cases hb : am_bt m i with
    | true =>
      rw [hb] at hfi
      rw [if_pos (by decide +kernel)]
      exact step _ hfi
    | false =>
      rw [hb] at hfi
      rw [if_neg (by decide +kernel)]
      first
        | exact step _ hfi
        | (rw [am_inb_ok (by omega) (by decide)]; exact step _ hfi)

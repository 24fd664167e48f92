/-! THE MODEL'S CHART: a place of the actions in a pass, whole. -/
theorem ma_put_59 (I : Nat → Nat → Int32) (x : Nat) (v : Int32) (ok : ma_ok I x) (h0 : ¬ I 59 x = 0) (q k : Nat) (h2 : q ≠ 72) (h3 : q ≠ 73) : ma_put I x v q k = I q k := by
  obtain ⟨k', n, hk, hn, hk2, hn32⟩ := ok.resolve_left h0
  unfold ma_put
  rw [hk, nI_clamp (by omega), am_up_at, if_neg (by omega)]
theorem mc_212 (I : Nat → Nat → Int32) (J : Nat → Nat → Int64) (T : Nat → Nat → Nat) (L : Nat) (C : Nat × Nat) {o p i : Nat} (x1 x2 x3 : Int32) (on : Bool) (v6 v7 : Value) (hp : p < 3) (ho : o < 2) (hi : i < 48) (ok : ma_ok I (48 * o + i)) (hon : on = decide (I 79 (i / 3) = 1)) : am_E 148 212 [.ref 49, .int x1, .int x2, .int x3, .int (nI p), .int (nI (48 * o + i)), v6, v7] [.int (am_b01 on)] (am_W I J T L C) = am_E 148 188 [.ref 49, .int x1, .int x2, .int x3, .int (nI p), .int (nI (48 * o + i + 1)), .int (am_b01 on), v7] [] (am_W (mc_one o p i I) J T L C) := by
  have hx : 48 * o + i < 96 := by omega
  have one0 : ¬ (1 : Int32) = 0 := by decide +kernel
  have on1 : on = true ↔ I 79 (i / 3) = 1 := by rw [hon]; exact decide_eq_true_iff
  rw [rg_148_212, am_inb_ok hx (by decide), nI_clamp (by omega)]
  unfold mc_one
  by_cases h1 : I 59 (48 * o + i) = 1
  · have h0 : ¬ I 59 (48 * o + i) = 0 := by rw [h1]; exact one0
    have le1 : I 59 (48 * o + i) ≤ 1 := by rw [h1]; decide +kernel
    have t226 : am_E 148 226 [.ref 49, .int x1, .int x2, .int x3, .int (nI p), .int (nI (48 * o + i)), .int (am_b01 on), v7] [] (am_W I J T L C) = am_E 148 188 [.ref 49, .int x1, .int x2, .int x3, .int (nI p), .int (nI (48 * o + i + 1)), .int (am_b01 on), v7] [] (am_W (ma_put I (48 * o + i) (nI p)) J T L C) := by
      rw [rg_148_226, am_inb_ok hx (by decide), am_inb_ok hx (by decide), nI_clamp (by omega), ma_put_set _ _ _ _ _ h0 ok, am_okb]
      exact mc_237 _ J T L C x1 x2 x3 on v7 hp ho hi (by rw [ma_put_59 I _ _ ok h0 59 _ (by decide) (by decide)]; exact le1)
    have t237 := mc_237 I J T L C x1 x2 x3 on v7 hp ho hi le1
    rw [if_pos h1, if_pos h1]
    rcases (show p = 0 ∨ p = 1 ∨ p = 2 by omega) with rfl | rfl | rfl
    · rw [if_pos (by decide +kernel), if_pos (Or.inl rfl)]
      exact t226
    · rw [if_neg (by decide +kernel), if_pos (by decide +kernel), am_if_b01]
      cases on with
      | false =>
        rw [if_neg (fun h => by rcases h with h | h; exact absurd h (by decide); exact absurd (on1.mpr h.2) (by decide))]
        exact t237
      | true =>
        rw [if_pos (Or.inr ⟨rfl, on1.mp rfl⟩)]
        exact t226
    · rw [if_neg (by decide +kernel), if_neg (by decide +kernel), if_neg (fun h => by rcases h with h | h; exact absurd h (by decide); exact absurd h.1 (by decide))]
      exact t237
  · rw [if_neg h1, if_neg h1]
    by_cases le1 : I 59 (48 * o + i) ≤ 1
    · rw [if_neg (fun h => Int32.not_lt.mpr le1 h.1)]
      exact mc_237 I J T L C x1 x2 x3 on v7 hp ho hi le1
    · have lt1 : 1 < I 59 (48 * o + i) := Int32.not_le.mp le1
      have h0 : ¬ I 59 (48 * o + i) = 0 := by intro e; rw [e] at lt1; exact absurd lt1 (by decide +kernel)
      rw [rg_148_237, am_inb_ok hx (by decide), nI_clamp (by omega), if_neg le1]
      rcases (show p ≠ 2 ∨ p = 2 by omega) with hp2 | rfl
      · rw [if_neg (show ¬ (1 < I 59 (48 * o + i) ∧ p = 2 ∧ I 79 (i / 3) = 1) from fun h => hp2 h.2.1), if_neg (show ¬ nI p = 2 from fun e => hp2 ((nI_eq (a := p) (b := 2) (by omega) (by decide)).mp e)), rg_148_267, nI_1]
      · rw [if_pos (by decide +kernel), am_if_b01]
        cases on with
        | false =>
          rw [if_neg (show ¬ (1 < I 59 (48 * o + i) ∧ 2 = 2 ∧ I 79 (i / 3) = 1) from fun h => absurd (on1.mpr h.2.2) (by decide)), cond_false, rg_148_267, nI_1]
        | true =>
          rw [if_pos (show (1 < I 59 (48 * o + i) ∧ 2 = 2 ∧ I 79 (i / 3) = 1) from ⟨lt1, rfl, on1.mp rfl⟩), cond_true, am_inb_ok hx (by decide), am_inb_ok hx (by decide), am_inb_ok hx (by decide)]
          by_cases e2 : I 59 (48 * o + i) = 2
          · rw [if_pos e2, decide_eq_true e2, rg_148_266, ma_put_set _ _ _ _ _ h0 ok, am_okb, rg_148_267, nI_1]
            rfl
          · rw [if_neg e2, decide_eq_false e2, rg_148_266, ma_put_set _ _ _ _ _ h0 ok, am_okb, rg_148_267, nI_1]
            rfl

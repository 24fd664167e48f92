/-! THE MODEL'S CHART: a pass, the three passes. -/
theorem mc_one_keep {o p i : Nat} {I : Nat → Nat → Int32} (ok : ma_ok I (48 * o + i)) (q k : Nat) (h2 : q ≠ 72) (h3 : q ≠ 73) : mc_one o p i I q k = I q k := by
  unfold mc_one
  split
  · rename_i h1
    split
    · exact ma_put_59 I _ _ ok (by rw [h1]; decide +kernel) q k h2 h3
    · rfl
  · split
    · rename_i h1 h2'
      exact ma_put_59 I _ _ ok (by intro e; rw [e] at h2'; exact absurd h2'.1 (by decide +kernel)) q k h2 h3
    · rfl
theorem ma_ok_keep {I I' : Nat → Nat → Int32} {x : Nat} (h : ∀ q k, q ≠ 72 → q ≠ 73 → I' q k = I q k) (ok : ma_ok I x) : ma_ok I' x := by
  rcases ok with h0 | ⟨k, n, a, b, c, d⟩
  · exact Or.inl (by rw [h 59 x (by decide) (by decide)]; exact h0)
  · exact Or.inr ⟨k, n, by rw [h 60 x (by decide) (by decide)]; exact a, by rw [h 61 x (by decide) (by decide)]; exact b, c, d⟩
def mc_run (o p : Nat) : Nat → Nat → (Nat → Nat → Int32) → (Nat → Nat → Int32)
  | 0, _, I => I
  | d + 1, i, I => mc_run o p d (i + 1) (mc_one o p i I)
theorem mc_run_keep {o p : Nat} : ∀ (d i : Nat) (I : Nat → Nat → Int32), i + d ≤ 48 → (∀ g, g < 48 → ma_ok I (48 * o + g)) → ∀ q k, q ≠ 72 → q ≠ 73 → mc_run o p d i I q k = I q k := by
  intro d
  induction d with
  | zero => intro i I _ _ q k _ _; rfl
  | succ d ih =>
    intro i I hi ok q k h2 h3
    have k1 := mc_one_keep (p := p) (ok i (by omega))
    show mc_run o p d (i + 1) (mc_one o p i I) q k = I q k
    rw [ih (i + 1) _ (by omega) (fun g hg => ma_ok_keep k1 (ok g hg)) q k h2 h3, k1 q k h2 h3]
theorem mc_188 (J : Nat → Nat → Int64) (T : Nat → Nat → Nat) (L : Nat) (C : Nat × Nat) {o p : Nat} (x1 x2 x3 : Int32) (v7 : Value) (hp : p < 3) (ho : o < 2) : ∀ (d i : Nat) (I : Nat → Nat → Int32) (v6 : Value), i + d = 48 → I 49 22 = nI o → (∀ g, g < 48 → ma_ok I (48 * o + g)) → ∃ v6', am_E 148 188 [.ref 49, .int x1, .int x2, .int x3, .int (nI p), .int (nI (48 * o + i)), v6, v7] [] (am_W I J T L C) = am_E 148 180 [.ref 49, .int x1, .int x2, .int x3, .int (nI (p + 1)), .int (nI (48 * o + 48)), v6', v7] [] (am_W (mc_run o p d i I) J T L C) := by
  intro d
  induction d with
  | zero =>
    intro i I v6 hi hO ok
    have e : i = 48 := by omega
    subst e
    refine ⟨v6, ?_⟩
    rw [rg_148_188, hO, mo_own48 ho]
    show (if nI (48 * o) + nI 48 ≤ nI (48 * o + 48) then _ else _) = _
    rw [nI_add, if_pos (nI_le (Nat.le_refl _) (by omega)), nI_1]
    rfl
  | succ d ih =>
    intro i I v6 hi hO ok
    have hi' : i < 48 := by omega
    have k1 := mc_one_keep (p := p) (ok i hi')
    obtain ⟨v6', e⟩ := ih (i + 1) (mc_one o p i I) (.int (am_b01 (decide (I 79 (i / 3) = 1)))) (by omega) (by rw [k1 49 22 (by decide) (by decide)]; exact hO) (fun g hg => ma_ok_keep k1 (ok g hg))
    refine ⟨v6', ?_⟩
    rw [rg_148_188, hO, mo_own48 ho]
    show (if nI (48 * o) + nI 48 ≤ nI (48 * o + i) then _ else _) = _
    rw [nI_add, if_neg (nI_ge (by omega) (by omega)), if_neg am_three, nI_subl, nI_div3 i hi', am_inb_ok (by omega) (by decide), nI_clamp (by omega)]
    have h212 := mc_212 I J T L C x1 x2 x3 (decide (I 79 (i / 3) = 1)) v6 v7 hp ho hi' (ok i hi') rfl
    have h2 : am_E 148 212 [.ref 49, .int x1, .int x2, .int x3, .int (nI p), .int (nI (48 * o + i)), v6, v7] [.int (am_b01 (decide (I 79 (i / 3) = 1)))] (am_W I J T L C) = am_E 148 180 [.ref 49, .int x1, .int x2, .int x3, .int (nI (p + 1)), .int (nI (48 * o + 48)), v6', v7] [] (am_W (mc_run o p (d + 1) i I) J T L C) := by
      rw [h212]
      exact e
    by_cases h1 : I 79 (i / 3) = 1
    · rw [if_pos h1]
      rw [decide_eq_true h1] at h2
      exact h2
    · rw [if_neg h1]
      rw [decide_eq_false h1] at h2
      exact h2
def mc_acts (o : Nat) (I : Nat → Nat → Int32) : Nat → Nat → Int32 := mc_run o 2 48 0 (mc_run o 1 48 0 (mc_run o 0 48 0 I))
theorem mc_180 (I : Nat → Nat → Int32) (J : Nat → Nat → Int64) (T : Nat → Nat → Nat) (L : Nat) (C : Nat × Nat) {o p : Nat} (x1 x2 x3 : Int32) (v5 v6 v7 : Value) (hp : p < 3) (ho : o < 2) (hO : I 49 22 = nI o) (ok : ∀ g, g < 48 → ma_ok I (48 * o + g)) : ∃ v5' v6', am_E 148 180 [.ref 49, .int x1, .int x2, .int x3, .int (nI p), v5, v6, v7] [] (am_W I J T L C) = am_E 148 180 [.ref 49, .int x1, .int x2, .int x3, .int (nI (p + 1)), v5', v6', v7] [] (am_W (mc_run o p 48 0 I) J T L C) := by
  obtain ⟨v6', e⟩ := mc_188 J T L C x1 x2 x3 v7 hp ho 48 0 I v6 rfl hO ok
  refine ⟨_, v6', Eq.trans ?_ e⟩
  rw [rg_148_180, hO, mo_own48 ho]
  show (if nI 3 ≤ nI p then _ else _) = _
  rw [if_neg (nI_ge hp (by decide))]
  rfl
theorem mc_3 (I : Nat → Nat → Int32) (J : Nat → Nat → Int64) (T : Nat → Nat → Nat) (L : Nat) (C : Nat × Nat) {o : Nat} (x1 x2 x3 : Int32) (v5 v6 v7 : Value) (ho : o < 2) (hO : I 49 22 = nI o) (ok : ∀ g, g < 48 → ma_ok I (48 * o + g)) : am_E 148 180 [.ref 49, .int x1, .int x2, .int x3, .int 0, v5, v6, v7] [] (am_W I J T L C) = some (.null, am_W (mc_acts o I) J T L C) := by
  have kr := fun p I ok => mc_run_keep (o := o) (p := p) 48 0 I (by decide) ok
  have ok1 : ∀ g, g < 48 → ma_ok (mc_run o 0 48 0 I) (48 * o + g) := fun g hg => ma_ok_keep (kr 0 I ok) (ok g hg)
  have ok2 : ∀ g, g < 48 → ma_ok (mc_run o 1 48 0 (mc_run o 0 48 0 I)) (48 * o + g) := fun g hg => ma_ok_keep (kr 1 _ ok1) (ok1 g hg)
  have o1 : mc_run o 0 48 0 I 49 22 = nI o := by rw [kr 0 I ok 49 22 (by decide) (by decide)]; exact hO
  have o2 : mc_run o 1 48 0 (mc_run o 0 48 0 I) 49 22 = nI o := by rw [kr 1 _ ok1 49 22 (by decide) (by decide)]; exact o1
  obtain ⟨a5, a6, e0⟩ := mc_180 I J T L C (o := o) (p := 0) x1 x2 x3 v5 v6 v7 (by decide) ho hO ok
  obtain ⟨b5, b6, e1⟩ := mc_180 (mc_run o 0 48 0 I) J T L C (o := o) (p := 1) x1 x2 x3 a5 a6 v7 (by decide) ho o1 ok1
  obtain ⟨c5, c6, e2⟩ := mc_180 (mc_run o 1 48 0 (mc_run o 0 48 0 I)) J T L C (o := o) (p := 2) x1 x2 x3 b5 b6 v7 (by decide) ho o2 ok2
  refine e0.trans (e1.trans (e2.trans ?_))
  rw [rg_148_180, if_pos (by decide +kernel)]
  rfl

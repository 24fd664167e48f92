/-! ACTIONS in the class: actAs, act. -/
def ac_ok (I : Nat → Nat → Int32) (i : Nat) : Prop := I 41 i = 0 ∨ ∃ k j, I 42 i = nI k ∧ I 43 i = nI j ∧ k < 6 ∧ j < 32
theorem ac_ok_keep {I I' : Nat → Nat → Int32} {g : Nat} (h : ∀ q k, q ≠ 24 → I' q k = I q k) (ok : ac_ok I g) : ac_ok I' g := by
  unfold ac_ok at *
  rw [h 41 g (by decide), h 42 g (by decide), h 43 g (by decide)]
  exact ok
def ac_set (I : Nat → Nat → Int32) (i : Nat) (b : Bool) : Nat → Nat → Int32 := am_up I 24 (I 42 i).toNatClampNeg (am_wb (I 24 (I 42 i).toNatClampNeg) (I 43 i).toNatClampNeg b)
def ac_as (a m : Int32) (b : Bool) (I : Nat → Nat → Int32) (i : Nat) : Nat → Nat → Int32 := if I 41 i = a ∧ am_bt m (i / 3) = true then ac_set I i b else I
def ac_sr (m : Int32) (I : Nat → Nat → Int32) (i : Nat) : Nat → Nat → Int32 := if (I 41 i = 2 ∨ I 41 i = 3) ∧ am_bt m (i / 3) = true then ac_set I i (decide (I 41 i = 2)) else I
def ac_run (f : (Nat → Nat → Int32) → Nat → (Nat → Nat → Int32)) : Nat → Nat → (Nat → Nat → Int32) → (Nat → Nat → Int32)
  | 0, _, I => I
  | d + 1, i, I => ac_run f d (i + 1) (f I i)
theorem ac_set_keep (I : Nat → Nat → Int32) (i : Nat) (b : Bool) (q k : Nat) (h : q ≠ 24) : ac_set I i b q k = I q k := by
  unfold ac_set
  rw [am_up_at, if_neg (fun e => h e.1)]
theorem ac_as_keep (a m : Int32) (b : Bool) (I : Nat → Nat → Int32) (i q k : Nat) (h : q ≠ 24) : ac_as a m b I i q k = I q k := by
  unfold ac_as
  split
  · exact ac_set_keep I i b q k h
  · rfl
theorem ac_sr_keep (m : Int32) (I : Nat → Nat → Int32) (i q k : Nat) (h : q ≠ 24) : ac_sr m I i q k = I q k := by
  unfold ac_sr
  split
  · exact ac_set_keep I i _ q k h
  · rfl
theorem ac_run_keep {f : (Nat → Nat → Int32) → Nat → (Nat → Nat → Int32)} (hf : ∀ I i q k, q ≠ 24 → f I i q k = I q k) : ∀ (d i : Nat) (I : Nat → Nat → Int32) (q k : Nat), q ≠ 24 → ac_run f d i I q k = I q k
  | 0, _, _, _, _, _ => rfl
  | d + 1, i, I, q, k, h => (ac_run_keep hf d (i + 1) (f I i) q k h).trans (hf I i q k h)
theorem nI_div3 : ∀ i, i < 48 → nI i / 3 = nI (i / 3) := by decide +kernel
theorem am_three : ¬ (3 : Int32) = 0 := by decide +kernel
theorem ac_put (I : Nat → Nat → Int32) (J : Nat → Nat → Int64) (T : Nat → Nat → Nat) (L : Nat) (C : Nat × Nat) {i : Nat} {b : Bool} (h0 : ¬ I 41 i = 0) (ok : ac_ok I i) : am_E 3 0 [.ref 23, .int (I 42 i), .int (I 43 i), .int (am_b01 b)] [] (am_W I J T L C) = some (.null, am_W (ac_set I i b) J T L C) := by
  obtain ⟨k, j, hk, hj, hk6, hj32⟩ := ok.resolve_left h0
  unfold ac_set
  rw [hk, hj, cl_setBit hk6, nI_clamp (by omega), nI_clamp (by omega)]
theorem ac_as1 (J : Nat → Nat → Int64) (T : Nat → Nat → Nat) (L : Nat) (C : Nat × Nat) {a m : Int32} {b : Bool} (ha : ¬ a = 0) : ∀ (d i : Nat) (I : Nat → Nat → Int32), i + d = 48 → (∀ g, g < 48 → ac_ok I g) → am_E 24 2 [.ref 22, .ref 35, .int a, .int m, .int (am_b01 b), .int (nI i)] [] (am_W I J T L C) = some (.null, am_W (ac_run (ac_as a m b) d i I) J T L C) := by
  intro d
  induction d with
  | zero =>
    intro i I hi ok
    have e : i = 48 := by omega
    subst e
    rw [rg_24_2]
    show (if nI 48 ≤ nI 48 then _ else _) = _
    rw [if_pos (nI_le (by omega) (by decide))]
    rfl
  | succ d ih =>
    intro i I hi ok
    have h48 : i < 48 := by omega
    have step : ∀ I', (∀ q k, q ≠ 24 → I' q k = I q k) → I' = ac_as a m b I i → am_E 24 29 [.ref 22, .ref 35, .int a, .int m, .int (am_b01 b), .int (nI i)] [] (am_W I' J T L C) = some (.null, am_W (ac_run (ac_as a m b) (d + 1) i I) J T L C) := by
      intro I' keep e
      rw [rg_24_29, nI_1, ih (i + 1) I' (by omega) (fun g hg => ac_ok_keep keep (ok g hg)), e]
      rfl
    rw [rg_24_2]
    show (if nI 48 ≤ nI i then _ else _) = _
    rw [if_neg (nI_ge h48 (by decide)), at_41 h48, am_okb, am_vIi, rg_24_9]
    by_cases c1 : I 41 i = a
    · rw [if_pos c1, if_neg am_three, nI_div3 i h48, lf_isSet (by omega), am_okb, am_vIi, rg_24_16, am_if_b01]
      cases c2 : am_bt m (i / 3) with
      | false => exact step I (fun _ _ _ => rfl) (if_neg (fun h => by rw [c2] at h; cases h.2)).symm
      | true =>
        show Option.bind (am_E 89 0 [.ref 42, .int (nI i)] [] _) _ = _
        rw [at_42 h48, am_okb, am_vIi, rg_24_23, at_43 h48, am_okb, am_vIi, rg_24_27, ac_put _ _ _ _ _ (fun h => ha (c1 ▸ h)) (ok i h48), am_okb]
        exact step _ (fun q k h => ac_set_keep I i b q k h) (if_pos ⟨c1, c2⟩).symm
    · rw [if_neg c1]
      exact step I (fun _ _ _ => rfl) (if_neg (fun h => c1 h.1)).symm
theorem ac_asE (I : Nat → Nat → Int32) (J : Nat → Nat → Int64) (T : Nat → Nat → Nat) (L : Nat) (C : Nat × Nat) {a m : Int32} {b : Bool} (ha : ¬ a = 0) (ok : ∀ g, g < 48 → ac_ok I g) : am_E 24 0 [.ref 22, .ref 35, .int a, .int m, .int (am_b01 b), .null] [] (am_W I J T L C) = some (.null, am_W (ac_run (ac_as a m b) 48 0 I) J T L C) := by
  rw [rg_24_0]
  exact ac_as1 J T L C ha 48 0 I rfl ok
theorem ac_sr1 (J : Nat → Nat → Int64) (T : Nat → Nat → Nat) (L : Nat) (C : Nat × Nat) {m x3 : Int32} : ∀ (d i : Nat) (I : Nat → Nat → Int32) (v5 : Value), i + d = 48 → (∀ g, g < 48 → ac_ok I g) → am_E 23 22 [.ref 22, .ref 35, .int m, .int x3, .int (nI i), v5] [] (am_W I J T L C) = some (.null, am_W (ac_run (ac_sr m) d i I) J T L C) := by
  intro d
  induction d with
  | zero =>
    intro i I v5 hi ok
    have e : i = 48 := by omega
    subst e
    rw [rg_23_22]
    show (if nI 48 ≤ nI 48 then _ else _) = _
    rw [if_pos (nI_le (by omega) (by decide))]
    rfl
  | succ d ih =>
    intro i I v5 hi ok
    have h48 : i < 48 := by omega
    have step : ∀ I', (∀ q k, q ≠ 24 → I' q k = I q k) → I' = ac_sr m I i → am_E 23 59 [.ref 22, .ref 35, .int m, .int x3, .int (nI i), .int (I 41 i)] [] (am_W I' J T L C) = some (.null, am_W (ac_run (ac_sr m) (d + 1) i I) J T L C) := by
      intro I' keep e
      rw [rg_23_59, nI_1, ih (i + 1) I' _ (by omega) (fun g hg => ac_ok_keep keep (ok g hg)), e]
      rfl
    have t36 : (I 41 i = 2 ∨ I 41 i = 3) → am_E 23 36 [.ref 22, .ref 35, .int m, .int x3, .int (nI i), .int (I 41 i)] [] (am_W I J T L C) = some (.null, am_W (ac_run (ac_sr m) (d + 1) i I) J T L C) := by
      intro c
      have h0 : ¬ I 41 i = 0 := by
        rcases c with c | c <;> rw [c] <;> decide +kernel
      rw [rg_23_36, if_neg am_three, nI_div3 i h48, lf_isSet (by omega), am_okb, am_vIi, rg_23_41, am_if_b01]
      cases c2 : am_bt m (i / 3) with
      | false => exact step I (fun _ _ _ => rfl) (if_neg (fun h => by rw [c2] at h; cases h.2)).symm
      | true =>
        show Option.bind (am_E 89 0 [.ref 42, .int (nI i)] [] _) _ = _
        rw [at_42 h48, am_okb, am_vIi, rg_23_48, at_43 h48, am_okb, am_vIi, rg_23_52]
        have t58 : ∀ b : Bool, b = decide (I 41 i = 2) → am_E 23 58 [.ref 22, .ref 35, .int m, .int x3, .int (nI i), .int (I 41 i)] [.int (am_b01 b), .int (I 43 i), .int (I 42 i), .ref 23] (am_W I J T L C) = some (.null, am_W (ac_run (ac_sr m) (d + 1) i I) J T L C) := by
          intro b hb
          rw [rg_23_58, ac_put _ _ _ _ _ h0 (ok i h48), am_okb]
          refine step _ (fun q k h => ac_set_keep I i b q k h) ?_
          rw [hb]
          exact (if_pos ⟨c, c2⟩).symm
        by_cases e : I 41 i = 2
        · rw [if_pos e]
          exact t58 true (decide_eq_true e).symm
        · rw [if_neg e]
          exact t58 false (decide_eq_false e).symm
    rw [rg_23_22]
    show (if nI 48 ≤ nI i then _ else _) = _
    rw [if_neg (nI_ge h48 (by decide)), at_41 h48, am_okb, am_vIi, rg_23_29]
    by_cases c1 : I 41 i = 2
    · rw [if_pos c1]
      exact t36 (Or.inl c1)
    · rw [if_neg c1]
      by_cases c2 : I 41 i = 3
      · rw [if_pos c2]
        exact t36 (Or.inr c2)
      · rw [if_neg c2]
        refine step I (fun _ _ _ => rfl) (if_neg (fun h => ?_)).symm
        rcases h.1 with h | h
        · exact c1 h
        · exact c2 h
def ac_all (I : Nat → Nat → Int32) : Nat → Nat → Int32 := ac_run (ac_sr (I 24 3)) 48 0 (ac_run (ac_as 1 (I 24 3) true) 48 0 (ac_run (ac_as 1 65535 false) 48 0 I))
theorem ma_act (I : Nat → Nat → Int32) (J : Nat → Nat → Int64) (T : Nat → Nat → Nat) (L : Nat) (C : Nat × Nat) (ok : ∀ g, g < 48 → ac_ok I g) : am_E 23 0 [.ref 22, .ref 35, .null, .null, .null, .null] [] (am_W I J T L C) = some (.null, am_W (ac_all I) J T L C) := by
  have k1 : ∀ q k, q ≠ 24 → ac_run (ac_as 1 65535 false) 48 0 I q k = I q k := fun q k h => ac_run_keep (ac_as_keep 1 65535 false) 48 0 I q k h
  have o1 : ∀ g, g < 48 → ac_ok (ac_run (ac_as 1 65535 false) 48 0 I) g := fun g hg => ac_ok_keep k1 (ok g hg)
  have k2 : ∀ q k, q ≠ 24 → ac_run (ac_as 1 (I 24 3) true) 48 0 (ac_run (ac_as 1 65535 false) 48 0 I) q k = I q k := fun q k h => (ac_run_keep (ac_as_keep 1 (I 24 3) true) 48 0 _ q k h).trans (k1 q k h)
  rw [rg_23_0]
  show Option.bind (am_E 89 0 [.ref 24, .int (nI 3)] [] _) _ = _
  rw [at_24 (by decide), am_okb, am_vIi, rg_23_5]
  show Option.bind (am_E 24 0 [.ref 22, .ref 35, .int 1, .int 65535, .int (am_b01 false), .null] [] _) _ = _
  rw [ac_asE _ _ _ _ _ (by decide +kernel) ok, am_okb, rg_23_14]
  show Option.bind (am_E 24 0 [.ref 22, .ref 35, .int 1, .int (I 24 3), .int (am_b01 true), .null] [] _) _ = _
  rw [ac_asE _ _ _ _ _ (by decide +kernel) o1, am_okb, rg_23_20]
  exact ac_sr1 J T L C 48 0 _ _ rfl (fun g hg => ac_ok_keep k2 (ok g hg))

/-! THE CHART'S RUN in the class: isOpen, goOn. -/
def go_ok (I : Nat → Nat → Int32) (g : Nat) : Prop := I 38 g = 0 ∨ ∃ k, I 39 g = nI k ∧ cvok k (I 40 g)
def go_open (I : Nat → Nat → Int32) (g : Nat) : Bool := decide (I 38 g = 0) || (decide (I 38 g = 1) == decide (cv I (I 39 g).toNatClampNeg (I 40 g) ≠ 0))
theorem cvok_lt {k : Nat} {x : Int32} (h : cvok k x) : k < 12 := by
  rcases h with h | ⟨j, -, h⟩ <;> omega
theorem am_b01_eq (a b : Bool) : (am_b01 a = am_b01 b) = (a = b) := by cases a <;> cases b <;> simp [am_b01]
theorem ma_open (I : Nat → Nat → Int32) (J : Nat → Nat → Int64) (T : Nat → Nat → Nat) (L : Nat) (C : Nat × Nat) {g : Nat} (hg : g < 16) (ok : go_ok I g) : am_E 22 0 [.ref 22, .ref 35, .int (nI g), .null, .null] [] (am_W I J T L C) = some (.int (am_b01 (go_open I g)), (am_W I J T L C)) := by
  unfold go_open
  rw [rg_22_0, at_38 hg, am_okb, am_vIi, rg_22_4]
  by_cases h : I 38 g = 0
  · rw [if_pos h, decide_eq_true h]; rfl
  · obtain ⟨k, hk, hv⟩ := ok.resolve_left h
    have hl := cvok_lt hv
    rw [if_neg h, decide_eq_false h, at_39 hg, am_okb, am_vIi, rg_22_15, at_40 hg, am_okb, am_vIi, rg_22_19, hk, cl_val _ _ _ _ _ hv, am_okb, am_vIi, nI_clamp (by omega), Bool.false_or]
    have t27 : ∀ a : Bool, am_E 22 27 [.ref 22, .ref 35, .int (nI g), .int (I 38 g), .int (cv I k (I 40 g))] [.int (am_b01 a)] (am_W I J T L C) = some (.int (am_b01 (a == decide (cv I k (I 40 g) ≠ 0))), (am_W I J T L C)) := by
      intro a
      rw [rg_22_27]
      by_cases e : cv I k (I 40 g) = 0
      · rw [if_pos e, decide_eq_false (fun h => h e), rg_22_32]
        show (if am_b01 a = am_b01 false then _ else _) = _
        cases a <;> rfl
      · rw [if_neg e, decide_eq_true e, rg_22_32]
        show (if am_b01 a = am_b01 true then _ else _) = _
        cases a <;> rfl
    rw [rg_22_20]
    by_cases e : I 38 g = 1
    · rw [if_pos e, decide_eq_true e]
      exact t27 true
    · rw [if_neg e, decide_eq_false e]
      exact t27 false
def go_step (s : Int32 × (Nat → Nat → Int32)) (g : Nat) : Int32 × (Nat → Nat → Int32) := if s.2 24 3 &&& s.2 36 g = s.2 36 g ∧ go_open s.2 g = true then (s.1 ||| s.2 37 g, am_up (am_up s.2 24 3 (s.2 24 3 &&& (s.2 36 g ^^^ (-1)))) 22 5 (s.2 22 5 + 1)) else s
def go_run : Nat → Nat → Int32 × (Nat → Nat → Int32) → Int32 × (Nat → Nat → Int32)
  | 0, _, s => s
  | d + 1, g, s => go_run d (g + 1) (go_step s g)
def go_end (s : Int32 × (Nat → Nat → Int32)) : Nat → Nat → Int32 := am_up s.2 24 3 (s.2 24 3 ||| s.1)
theorem go_step_keep (s : Int32 × (Nat → Nat → Int32)) (g q k : Nat) (h1 : q ≠ 24) (h2 : q ≠ 22) : (go_step s g).2 q k = s.2 q k := by
  unfold go_step
  by_cases c : s.2 24 3 &&& s.2 36 g = s.2 36 g ∧ go_open s.2 g = true
  · rw [if_pos c]
    show am_up _ 22 5 _ q k = _
    rw [am_up_at, if_neg (by omega), am_up_at, if_neg (by omega)]
  · rw [if_neg c]
theorem go_ok_keep {I I' : Nat → Nat → Int32} {g : Nat} (h : ∀ q k, q ≠ 24 → q ≠ 22 → I' q k = I q k) (ok : go_ok I g) : go_ok I' g := by
  unfold go_ok at *
  rw [h 38 g (by decide) (by decide), h 39 g (by decide) (by decide), h 40 g (by decide) (by decide)]
  exact ok
theorem ma_goOn1 (J : Nat → Nat → Int64) (T : Nat → Nat → Nat) (L : Nat) (C : Nat × Nat) {n : Nat} (hn : n ≤ 16) : ∀ (d g : Nat) (I : Nat → Nat → Int32) (en : Int32) (v4 v5 : Value), g + d = n → I 35 5 = nI n → (∀ g, g < n → go_ok I g) → am_E 21 4 [.ref 22, .ref 35, .int en, .int (nI g), v4, v5] [] (am_W I J T L C) = some (.null, am_W (go_end (go_run d g (en, I))) J T L C) := by
  intro d
  induction d with
  | zero =>
    intro g I en v4 v5 hg hI ok
    rw [rg_21_4, hI, if_pos (nI_le (by omega) (by omega))]
    show Option.bind (am_E 89 0 [.ref 24, .int (nI 3)] [] _) _ = _
    rw [at_24 (by decide), am_okb, am_vIi, rg_21_63]
    show Option.bind (am_E 90 0 [.ref 24, .int (nI 3), .int _] [] _) _ = _
    rw [put_24 (by decide), am_okb, rg_21_66]
    rfl
  | succ d ih =>
    intro g I en v4 v5 hg hI ok
    have hg16 : g < 16 := by omega
    rw [rg_21_4, hI, if_neg (nI_ge (by omega) (by omega)), at_36 hg16, am_okb, am_vIi, rg_21_12]
    show Option.bind (am_E 89 0 [.ref 24, .int (nI 3)] [] _) _ = _
    rw [at_24 (by decide), am_okb, am_vIi, rg_21_18]
    have skip : ¬ (I 24 3 &&& I 36 g = I 36 g ∧ go_open I g = true) → am_E 21 4 [.ref 22, .ref 35, .int en, .int (nI g + 1), .int (I 36 g), .int (I 24 3)] [] (am_W I J T L C) = some (.null, am_W (go_end (go_run (d + 1) g (en, I))) J T L C) := by
      intro hc
      rw [nI_1, ih (g + 1) I en _ _ (by omega) hI ok]
      show _ = some (Value.null, am_W (go_end (go_run d (g + 1) (go_step (en, I) g))) J T L C)
      have e : go_step (en, I) g = (en, I) := if_neg hc
      rw [e]
    by_cases c1 : I 24 3 &&& I 36 g = I 36 g
    · rw [if_pos c1, ma_open _ _ _ _ _ hg16 (ok g (by omega)), am_okb, am_vIi, rg_21_28, am_if_b01]
      cases c2 : go_open I g with
      | false => exact skip (fun h => by rw [c2] at h; cases h.2)
      | true =>
        show Option.bind (am_E 90 0 [.ref 24, .int (nI 3), .int _] [] _) _ = _
        rw [put_24 (by decide), am_okb, rg_21_39, at_37 hg16, am_okb, am_vIi, rg_21_44, nI_1]
        have e : go_step (en, I) g = (en ||| I 37 g, am_up (am_up I 24 3 (I 24 3 &&& (I 36 g ^^^ (-1)))) 22 5 (I 22 5 + 1)) := if_pos ⟨c1, c2⟩
        have e1 : ∀ v, (am_up I 24 3 v) 37 g = I 37 g := fun v => by rw [am_up_at, if_neg (by omega)]
        have e2 : ∀ v, (am_up I 24 3 v) 22 5 = I 22 5 := fun v => by rw [am_up_at, if_neg (by omega)]
        have keep : ∀ q k, q ≠ 24 → q ≠ 22 → (go_step (en, I) g).2 q k = I q k := fun q k h1 h2 => go_step_keep (en, I) g q k h1 h2
        show am_E 21 4 [.ref 22, .ref 35, .int (en ||| (am_up I 24 3 (I 24 3 &&& (I 36 g ^^^ (-1)))) 37 g), .int (nI (g + 1)), .int (I 36 g), .int (I 24 3)] [] (am_W (am_up (am_up I 24 3 (I 24 3 &&& (I 36 g ^^^ (-1)))) 22 5 ((am_up I 24 3 (I 24 3 &&& (I 36 g ^^^ (-1)))) 22 5 + 1)) J T L C) = some (Value.null, am_W (go_end (go_run d (g + 1) (go_step (en, I) g))) J T L C)
        rw [e1, e2]
        rw [e] at keep ⊢
        exact ih (g + 1) _ _ _ _ (by omega) ((keep 35 5 (by decide) (by decide)).trans hI) (fun g' hg' => go_ok_keep keep (ok g' hg'))
    · rw [if_neg c1]
      exact skip (fun h => c1 h.1)
theorem ma_goOn (I : Nat → Nat → Int32) (J : Nat → Nat → Int64) (T : Nat → Nat → Nat) (L : Nat) (C : Nat × Nat) {n : Nat} (hn : n ≤ 16) (hI : I 35 5 = nI n) (ok : ∀ g, g < n → go_ok I g) : am_E 21 0 [.ref 22, .ref 35, .null, .null, .null, .null] [] (am_W I J T L C) = some (.null, am_W (go_end (go_run n 0 (0, I))) J T L C) := by
  rw [rg_21_0]
  exact ma_goOn1 J T L C hn n 0 I 0 _ _ (by omega) hI ok

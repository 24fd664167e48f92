/-! THE END OF READING in both: brackets left open, names that are missing. -/
theorem mn_ok (I : Nat → Nat → Int32) (J : Nat → Nat → Int64) (T : Nat → Nat → Nat) (L : Nat) (C : Nat × Nat) {a b : Nat} (ha : a < 2 ^ 31) (hb : b < 2 ^ 31) : am_E 163 0 [.int (nI a), .int (nI b)] [] (am_W I J T L C) = some (.int (nI (min a b)), (am_W I J T L C)) := by
  rw [rg_163_0]
  by_cases e : b < a
  · rw [if_pos (nI_lt e ha), Nat.min_eq_right (by omega)]
  · rw [if_neg (nI_nlt (by omega) hb), Nat.min_eq_left (by omega)]
def mnd (va : Nat → Option Nat) : Nat → Nat → Nat → Nat
  | 0, _, y => y
  | d + 1, l, y => mnd va d (l + 1) (match va l with
    | none => y
    | some a => min y a)
theorem mnd_p (va : Nat → Option Nat) : ∀ (d l y : Nat), mnd va d l y ≤ y ∧ (mnd va d l y = y ∨ ∃ i, l ≤ i ∧ i < l + d ∧ va i = some (mnd va d l y)) ∧ ∀ i a, l ≤ i → i < l + d → va i = some a → mnd va d l y ≤ a
  | 0, l, y => ⟨Nat.le_refl y, Or.inl rfl, fun i a h1 h2 => absurd h2 (by omega)⟩
  | d + 1, l, y => by
    show mnd va d (l + 1) (match va l with | none => y | some a => min y a) ≤ y ∧ _
    cases hv : va l with
    | none =>
      have ih := mnd_p va d (l + 1) y
      have e : mnd va (d + 1) l y = mnd va d (l + 1) y := by
        show mnd va d (l + 1) (match va l with | none => y | some a => min y a) = _
        rw [hv]
      rw [e]
      refine ⟨ih.1, ?_, ?_⟩
      · rcases ih.2.1 with q | ⟨i, q1, q2, q3⟩
        · exact Or.inl q
        · exact Or.inr ⟨i, by omega, by omega, q3⟩
      · intro i a h1 h2 h3
        by_cases c : i = l
        · rw [c, hv] at h3; cases h3
        · exact ih.2.2 i a (by omega) (by omega) h3
    | some b =>
      have ih := mnd_p va d (l + 1) (min y b)
      have e : mnd va (d + 1) l y = mnd va d (l + 1) (min y b) := by
        show mnd va d (l + 1) (match va l with | none => y | some a => min y a) = _
        rw [hv]
      rw [e]
      refine ⟨Nat.le_trans ih.1 (Nat.min_le_left y b), ?_, ?_⟩
      · rcases ih.2.1 with q | ⟨i, q1, q2, q3⟩
        · rcases Nat.le_total y b with c | c
          · rw [Nat.min_eq_left c] at q ⊢; exact Or.inl q
          · rw [Nat.min_eq_right c] at q ⊢; exact Or.inr ⟨l, Nat.le_refl l, by omega, by rw [hv, q]⟩
        · exact Or.inr ⟨i, by omega, by omega, q3⟩
      · intro i a h1 h2 h3
        by_cases c : i = l
        · rw [c, hv] at h3
          have : b = a := Option.some.inj h3
          rw [← this]
          exact Nat.le_trans ih.1 (Nat.min_le_right y b)
        · exact ih.2.2 i a (by omega) (by omega) h3
/-- what a row of names counts for: named first at a, and missing -/
def VA (x : Int32) (ms : Prop) (o : Option Nat) : Prop := (o = none ∧ (x = -1 ∨ ¬ ms)) ∨ ∃ a, o = some a ∧ x = nI a ∧ a < 700 ∧ ms
theorem nI_nm1 {a : Nat} (h : a < 700) : ¬ nI a = -1 := by
  intro e
  have h2 : nI a < 0 := by rw [e]; decide +kernel
  exact nI_pos (by omega) h2
theorem fm_l (I : Nat → Nat → Int32) (J : Nat → Nat → Int64) (T : Nat → Nat → Nat) (L : Nat) (C : Nat × Nat) (va : Nat → Option Nat) (hv : ∀ l, l < 32 → VA (I 20 l) (I 19 l = -1) (va l)) : ∀ (d l y : Nat), l + d = 32 → y ≤ 700 → am_E 66 4 [.ref 2, .int (nI y), .int (nI l)] [] (am_W I J T L C) = am_E 66 31 [.ref 2, .int (nI (mnd va d l y)), .int (nI 0)] [] (am_W I J T L C)
  | 0, l, y, hd, hy => by
    have e : l = 32 := by omega
    subst e
    rw [rg_66_4, if_pos (show (32 : Int32) ≤ nI 32 by decide)]
    rfl
  | d + 1, l, y, hd, hy => by
    rw [rg_66_4, if_neg (show ¬ (32 : Int32) ≤ nI l from nI_ge (a := l) (b := 32) (by omega) (by decide)), lf_at (q := 20) (N := 32) rfl (by omega) (by decide), am_okb, am_vIi, rg_66_11]
    show _ = am_E 66 31 [.ref 2, .int (nI (mnd va d (l + 1) (match va l with | none => y | some a => min y a))), .int (nI 0)] [] (am_W I J T L C)
    rcases hv l (by omega) with ⟨e1, e2⟩ | ⟨a, e1, e2, e3, e4⟩
    · rw [e1]
      by_cases c : I 20 l = -1
      · rw [if_pos c, nI_1]
        exact fm_l I J T L C va hv d (l + 1) y (by omega) hy
      · rw [if_neg c, lf_at (q := 19) (N := 32) rfl (by omega) (by decide), am_okb, am_vIi, rg_66_18, if_neg (e2.resolve_left c), nI_1]
        exact fm_l I J T L C va hv d (l + 1) y (by omega) hy
    · rw [e1, e2, if_neg (nI_nm1 e3), lf_at (q := 19) (N := 32) rfl (by omega) (by decide), am_okb, am_vIi, rg_66_18, if_pos e4, lf_at (q := 20) (N := 32) rfl (by omega) (by decide), am_okb, am_vIi, rg_66_25, e2, mn_ok I J T L C (by omega) (by omega), am_okb, am_vIi, rg_66_26, nI_1]
      exact fm_l I J T L C va hv d (l + 1) (min y a) (by omega) (by omega)
theorem fm_s (I : Nat → Nat → Int32) (J : Nat → Nat → Int64) (T : Nat → Nat → Nat) (L : Nat) (C : Nat × Nat) (va : Nat → Option Nat) (hv : ∀ l, l < 16 → VA (I 21 l) (am_bt (I 6 9) l = false) (va l)) : ∀ (d l y : Nat), l + d = 16 → y ≤ 700 → am_E 66 31 [.ref 2, .int (nI y), .int (nI l)] [] (am_W I J T L C) = (if mnd va d l y = 700 then some (.int 1, (am_W I J T L C)) else some (.int 0, am_W (flt I 6 (mnd va d l y)) J T L C))
  | 0, l, y, hd, hy => by
    have e : l = 16 := by omega
    subst e
    show _ = (if y = 700 then some (Value.int 1, (am_W I J T L C)) else some (Value.int 0, am_W (flt I 6 y) J T L C))
    rw [rg_66_31, if_pos (show (16 : Int32) ≤ nI 16 by decide)]
    by_cases c : y = 700
    · rw [if_pos (show nI y = 700 by rw [c]; rfl), if_pos c]
    · rw [if_neg (show ¬ nI y = 700 from fun e => c ((nI_eq (a := y) (b := 700) (by omega) (by decide)).mp e)), if_neg c]
      show Option.bind (am_E 46 0 [.ref 2, .int (nI 6), .int (nI y)] [] _) _ = _
      rw [cl_failAt, am_okb, am_vIi, rg_66_63, if_pos rfl]
  | d + 1, l, y, hd, hy => by
    rw [rg_66_31, if_neg (show ¬ (16 : Int32) ≤ nI l from nI_ge (a := l) (b := 16) (by omega) (by decide)), lf_at (q := 21) (N := 16) rfl (by omega) (by decide), am_okb, am_vIi, rg_66_38]
    show _ = (if mnd va d (l + 1) (match va l with | none => y | some a => min y a) = 700 then some (Value.int 1, (am_W I J T L C)) else some (Value.int 0, am_W (flt I 6 (mnd va d (l + 1) (match va l with | none => y | some a => min y a))) J T L C))
    rcases hv l (by omega) with ⟨e1, e2⟩ | ⟨a, e1, e2, e3, e4⟩
    · rw [e1]
      by_cases c : I 21 l = -1
      · rw [if_pos c, nI_1]
        exact fm_s I J T L C va hv d (l + 1) y (by omega) hy
      · have eb : am_bt (I 6 9) l = true := by
          have := e2.resolve_left c
          cases hq : am_bt (I 6 9) l with
          | true => rfl
          | false => exact absurd hq this
        rw [if_neg c, lf_isSet (by omega : l < 32), am_okb, am_vIi, rg_66_46, eb, if_neg (show ¬ am_b01 true = 0 by decide), nI_1]
        exact fm_s I J T L C va hv d (l + 1) y (by omega) hy
    · rw [e1, e2, if_neg (nI_nm1 e3), lf_isSet (by omega : l < 32), am_okb, am_vIi, rg_66_46, e4, if_pos (show am_b01 false = 0 from rfl), lf_at (q := 21) (N := 16) rfl (by omega) (by decide), am_okb, am_vIi, rg_66_52, e2, mn_ok I J T L C (by omega) (by omega), am_okb, am_vIi, rg_66_53, nI_1]
      exact fm_s I J T L C va hv d (l + 1) (min y a) (by omega) (by omega)
/-- a name of the model's row that is missing -/
def msk (I : Nat → Nat → Int32) (nm : Nat → Nat) (k : Nat) : Prop := if nm k < 32 then I 19 (nm k) = -1 else am_bt (I 6 9) (nm k - 100) = false
theorem nm_go (I : Nat → Nat → Int32) (J : Nat → Nat → Int64) (T : Nat → Nat → Nat) (L : Nat) (C : Nat × Nat) (v2 v3 : Value) (x : Int32) (h : ¬ I 49 3 = 0) : ∃ y v2' v3', am_E 129 34 [.ref 49, .int x, v2, v3] [] (am_W I J T L C) = am_E 129 86 [.ref 49, .int y, v2', v3'] [] (am_W I J T L C) := by
  refine ⟨x, v2, v3, ?_⟩
  rw [rg_129_34, if_neg h, ite_self]
/-- the model looks at one name -/
theorem nm_one (I : Nat → Nat → Int32) (J : Nat → Nat → Int64) (T : Nat → Nat → Nat) (L : Nat) (C : Nat × Nat) {D : Nat → Nat} {tx : Nat → Nat} {N h n ng d nc f k a : Nat} {Ic : Nat → Nat → Int32} {Tc : Nat → Nat → Nat} {nm : Nat → Nat} (v2 v3 : Value) (v : LV D tx N h n ng d nc f Ic Tc I) (hk : k < nc) (hnc : nc < 400) (h68 : I 68 k = nI (nm k)) (h69 : I 69 k = nI a) (hr : nm k < 32 ∨ (100 ≤ nm k ∧ nm k < 116)) : ∃ v2' v3', (msk Ic nm k → am_E 129 34 [.ref 49, .int (nI k), v2, v3] [] (am_W I J T L C) = am_E 129 34 [.ref 49, .int (nI (k + 1)), v2', v3'] [] (am_W (mfl I (nI 6) (nI a)) J T L C)) ∧ (¬ msk Ic nm k → am_E 129 34 [.ref 49, .int (nI k), v2, v3] [] (am_W I J T L C) = am_E 129 34 [.ref 49, .int (nI (k + 1)), v2', v3'] [] (am_W I J T L C)) := by
  obtain ⟨hm, h3, h4⟩ := LV_mt v
  have hh := hm.2.1
  have h32 : I 49 32 = nI nc := v.2.2.2.2.2.2.2.2.2.1
  have clk : Int32.toNatClampNeg (nI k) = k := nI_clamp (by omega)
  have e0 : am_E 129 34 [.ref 49, .int (nI k), v2, v3] [] (am_W I J T L C) = am_E 129 74 [.ref 49, .int (nI k), .int (nI (nm k)), v3] [.int (if nm k < 32 then (if Ic 19 (nm k) = -1 then 0 else 1) else am_b01 (am_bt (Ic 6 9) (nm k - 100)))] (am_W I J T L C) := by
    rw [rg_129_34, h32, if_neg (nI_ge hk (by omega)), if_pos h3, am_inb_ok (show k < 400 by omega) (by decide), clk, h68, hm.2.2]
    rcases hr with r | ⟨r1, r2⟩
    · rw [if_neg (show ¬ (100 : Int32) ≤ nI (nm k) from nI_ge (a := nm k) (b := 100) (by omega) (by decide)), mo_32 hh, am_inb_ok (by omega) (by decide), nI_clamp (by omega), (v.2.2.2.2.2.1 (nm k) r).1, if_pos r]
      rcases (v.2.2.2.2.2.1 (nm k) r).2 with q | ⟨tt, q1, q2, q3⟩
      · rw [q, if_pos (show (-1 : Int32) < 0 by decide), if_pos rfl]
      · have hn : n ≤ 80 := v.2.2.2.1.2.2.1
        rw [q2, if_neg (show ¬ nI tt < 0 from nI_pos (by omega)), if_neg (nI_nm1 (by omega))]
    · have e16 : 16 * nI h + nI (nm k) - 100 = nI (16 * h + (nm k - 100)) := by
        rw [mo_16 hh]
        have q := nI_subl 100 (16 * h + (nm k - 100))
        rw [show 100 + (16 * h + (nm k - 100)) = 16 * h + nm k by omega] at q
        exact q
      have vs := v.2.2.2.2.2.2.1 (nm k - 100) (by omega)
      rw [if_pos (show (100 : Int32) ≤ nI (nm k) from nI_le (a := 100) (b := nm k) r1 (by omega)), e16, am_inb_ok (by omega) (by decide), nI_clamp (by omega), vs, if_neg (show ¬ nm k < 32 by omega)]
  refine ⟨.int (nI (nm k)), .int (if nm k < 32 then (if Ic 19 (nm k) = -1 then 0 else 1) else am_b01 (am_bt (Ic 6 9) (nm k - 100))), fun hms => ?_, fun hms => ?_⟩
  · have ez : (if nm k < 32 then (if Ic 19 (nm k) = -1 then (0 : Int32) else 1) else am_b01 (am_bt (Ic 6 9) (nm k - 100))) = 0 := by
      unfold msk at hms
      by_cases c : nm k < 32
      · rw [if_pos c] at hms ⊢; rw [if_pos hms]
      · rw [if_neg c] at hms ⊢; rw [hms]; rfl
    rw [e0, ez, rg_129_74, if_pos rfl, am_inb_ok (by omega) (by decide), clk, h69]
    show Option.bind (am_E 98 0 [.ref 49, .int (nI 6), .int (nI a)] [] _) _ = _
    rw [mo_fail, am_okb, rg_129_84, nI_1]
  · have ez : ¬ (if nm k < 32 then (if Ic 19 (nm k) = -1 then (0 : Int32) else 1) else am_b01 (am_bt (Ic 6 9) (nm k - 100))) = 0 := by
      unfold msk at hms
      by_cases c : nm k < 32
      · rw [if_pos c] at hms ⊢; rw [if_neg hms]; decide
      · rw [if_neg c] at hms ⊢
        cases hb : am_bt (Ic 6 9) (nm k - 100) with
        | true => decide
        | false => exact absurd hb hms
    rw [e0, rg_129_74, if_neg ez, rg_129_84, nI_1]
/-- the model looks at all of them -/
theorem nm_all (I : Nat → Nat → Int32) (J : Nat → Nat → Int64) (T : Nat → Nat → Nat) (L : Nat) (C : Nat × Nat) {D : Nat → Nat} {tx : Nat → Nat} {N h n ng d nc f : Nat} {Ic : Nat → Nat → Int32} {Tc : Nat → Nat → Nat} {nm at' : Nat → Nat} (v : LV D tx N h n ng d nc f Ic Tc I) (hnc : nc < 400) (hn : ∀ k, k < nc → I 68 k = nI (nm k) ∧ I 69 k = nI (at' k) ∧ (nm k < 32 ∨ (100 ≤ nm k ∧ nm k < 116)) ∧ at' k < f) : ∀ (e k : Nat) (v2 v3 : Value), k + e = nc → (∀ j, j < k → ¬ msk Ic nm j) → ∃ x v2' v3', ((∀ j, j < nc → ¬ msk Ic nm j) ∧ am_E 129 34 [.ref 49, .int (nI k), v2, v3] [] (am_W I J T L C) = am_E 129 86 [.ref 49, .int x, v2', v3'] [] (am_W I J T L C)) ∨ (∃ k0, k0 < nc ∧ msk Ic nm k0 ∧ (∀ j, j < k0 → ¬ msk Ic nm j) ∧ am_E 129 34 [.ref 49, .int (nI k), v2, v3] [] (am_W I J T L C) = am_E 129 86 [.ref 49, .int x, v2', v3'] [] (am_W (mfl I (nI 6) (nI (at' k0))) J T L C))
  | 0, k, v2, v3, he, hj => by
    have h32 : I 49 32 = nI nc := v.2.2.2.2.2.2.2.2.2.1
    have e : k = nc := by omega
    subst e
    refine ⟨nI k, v2, v3, Or.inl ⟨hj, ?_⟩⟩
    rw [rg_129_34, h32, if_pos (nI_le (Nat.le_refl k) (by omega))]
  | e + 1, k, v2, v3, he, hj => by
    obtain ⟨hm, h3, h4⟩ := LV_mt v
    obtain ⟨x1, x2, x3, x4⟩ := hn k (by omega)
    obtain ⟨y2, y3, a1, a2⟩ := nm_one I J T L C v2 v3 v (by omega) hnc x1 x2 x3
    by_cases c : msk Ic nm k
    · have w := WR_mfl h3 6 (at' k)
      obtain ⟨x, z2, z3, r⟩ := nm_go (mfl I (nI 6) (nI (at' k))) J T L C y2 y3 (nI (k + 1)) (WR_ne w (by decide) (by decide))
      exact ⟨x, z2, z3, Or.inr ⟨k, by omega, c, hj, (a1 c).trans r⟩⟩
    · have hj' : ∀ j, j < k + 1 → ¬ msk Ic nm j := fun j h => by
        by_cases q : j = k
        · rw [q]; exact c
        · exact hj j (by omega)
      obtain ⟨x, z2, z3, r⟩ := nm_all I J T L C v hnc hn e (k + 1) y2 y3 (by omega) hj'
      refine ⟨x, z2, z3, ?_⟩
      rcases r with ⟨r1, r2⟩ | ⟨k0, r1, r2, r3, r4⟩
      · exact Or.inl ⟨r1, (a2 c).trans r2⟩
      · exact Or.inr ⟨k0, r1, r2, r3, (a2 c).trans r4⟩
theorem va_mk {nc f id : Nat} {nm at' : Nat → Nat} {x : Int32} (ms : Prop) (hat : ∀ k, k < nc → at' k < 700) (h : NF nc nm at' id x) : ∃ o, VA x ms o ∧ (∀ a, o = some a → ms ∧ ∃ k, k < nc ∧ nm k = id ∧ a = at' k ∧ ∀ j, j < k → nm j ≠ id) ∧ (o = none → (∀ k, k < nc → nm k ≠ id) ∨ ¬ ms) := by
  by_cases hm : ms
  · rcases h with ⟨e1, e2⟩ | ⟨k, k1, k2, k3, k4⟩
    · exact ⟨none, Or.inl ⟨rfl, Or.inl e1⟩, (fun a e => by cases e), fun _ => Or.inl e2⟩
    · refine ⟨some (at' k), Or.inr ⟨at' k, rfl, k3, hat k k1, hm⟩, fun a e => ⟨hm, k, k1, k2, (Option.some.inj e).symm, k4⟩, fun e => by cases e⟩
  · exact ⟨none, Or.inl ⟨rfl, Or.inr hm⟩, (fun a e => by cases e), fun _ => Or.inr hm⟩
/-- the same in both: the first name that is missing -/
theorem fm_both {L : Nat} {C : Nat × Nat} {Lm : Nat} {Cm : Nat × Nat} {Tm : Nat → Nat → Nat} {J : Nat → Nat → Int64} {J' : Nat → Nat → Int64} {D : Nat → Nat} {tx : Nat → Nat} {N h n ng d nc : Nat} {I : Nat → Nat → Int32} {T : Nat → Nat → Nat} {I' : Nat → Nat → Int32} (v2 v3 : Value) (v : LV D tx N h n ng d nc N I T I') (hnc : nc < 400) : (∃ p x y2 y3, p < 700 ∧ am_E 66 0 [.ref 2, .null, .null] [] (am_W I J T L C) = some (.int 0, am_W (flt I 6 p) J T L C) ∧ am_E 129 34 [.ref 49, .int 0, v2, v3] [] (am_W I' J' Tm Lm Cm) = am_E 129 86 [.ref 49, .int x, y2, y3] [] (am_W (mfl I' (nI 6) (nI p)) J' Tm Lm Cm)) ∨ (∃ x y2 y3, am_E 66 0 [.ref 2, .null, .null] [] (am_W I J T L C) = some (.int 1, (am_W I J T L C)) ∧ am_E 129 34 [.ref 49, .int 0, v2, v3] [] (am_W I' J' Tm Lm Cm) = am_E 129 86 [.ref 49, .int x, y2, y3] [] (am_W I' J' Tm Lm Cm) ∧ (∀ l, l < 32 → I 20 l ≠ -1 → I 19 l ≠ -1)) := by
  obtain ⟨hm, h3, h4⟩ := LV_mt v
  have hN := hm.1.2.1
  obtain ⟨n1, nm, at', n2, n3, n4, n5⟩ := v.2.2.2.2.2.2.2.2.2
  have hat : ∀ k, k < nc → at' k < 700 := fun k hk => by have := (n2 k hk).2.2.2; omega
  have L1 : ∀ l, ∃ o, l < 32 → (VA (I 20 l) (I 19 l = -1) o ∧ (∀ a, o = some a → I 19 l = -1 ∧ ∃ k, k < nc ∧ nm k = l ∧ a = at' k ∧ ∀ j, j < k → nm j ≠ l) ∧ (o = none → (∀ k, k < nc → nm k ≠ l) ∨ ¬ I 19 l = -1)) := by
    intro l
    by_cases c : l < 32
    · obtain ⟨o, ho⟩ := va_mk (f := N) (I 19 l = -1) hat (n4 l c)
      exact ⟨o, fun _ => ho⟩
    · exact ⟨none, fun q => absurd q c⟩
  have L2 : ∀ s, ∃ o, s < 16 → (VA (I 21 s) (am_bt (I 6 9) s = false) o ∧ (∀ a, o = some a → am_bt (I 6 9) s = false ∧ ∃ k, k < nc ∧ nm k = 100 + s ∧ a = at' k ∧ ∀ j, j < k → nm j ≠ 100 + s) ∧ (o = none → (∀ k, k < nc → nm k ≠ 100 + s) ∨ ¬ am_bt (I 6 9) s = false)) := by
    intro s
    by_cases c : s < 16
    · obtain ⟨o, ho⟩ := va_mk (f := N) (am_bt (I 6 9) s = false) hat (n5 s c)
      exact ⟨o, fun _ => ho⟩
    · exact ⟨none, fun q => absurd q c⟩
  obtain ⟨va, hva⟩ := Classical.axiomOfChoice L1
  obtain ⟨vb, hvb⟩ := Classical.axiomOfChoice L2
  have c1 := fm_l I J T L C va (fun l hl => (hva l hl).1) 32 0 700 rfl (Nat.le_refl 700)
  obtain ⟨p1, p2, p3⟩ := mnd_p va 32 0 700
  have c2 := fm_s I J T L C vb (fun l hl => (hvb l hl).1) 16 0 (mnd va 32 0 700) rfl p1
  obtain ⟨q1, q2, q3⟩ := mnd_p vb 16 0 (mnd va 32 0 700)
  have ec : am_E 66 0 [.ref 2, .null, .null] [] (am_W I J T L C) = (if mnd vb 16 0 (mnd va 32 0 700) = 700 then some (.int 1, (am_W I J T L C)) else some (.int 0, am_W (flt I 6 (mnd vb 16 0 (mnd va 32 0 700))) J T L C)) := by
    rw [rg_66_0]
    exact c1.trans c2
  obtain ⟨x, y2, y3, r⟩ := nm_all I' J' Tm Lm Cm v hnc n2 nc 0 v2 v3 (by omega) (fun j hj => absurd hj (by omega))
  have r0 : (∃ k0, k0 < nc ∧ msk I nm k0 ∧ ∀ j, j < k0 → ¬ msk I nm j) → ∀ k0, k0 < nc → msk I nm k0 → (∀ j, j < k0 → ¬ msk I nm j) → mnd vb 16 0 (mnd va 32 0 700) = at' k0 := by
    intro _ k0 h1 h2 h3
    generalize hR : mnd vb 16 0 (mnd va 32 0 700) = R at *
    generalize hY : mnd va 32 0 700 = Y at *
    -- at most
    have up : R ≤ at' k0 := by
      rcases (n2 k0 h1).2.2.1 with c | ⟨ca, cb⟩
      · have hms : I 19 (nm k0) = -1 := by unfold msk at h2; rw [if_pos c] at h2; exact h2
        obtain ⟨z1, z2, z3⟩ := hva (nm k0) c
        cases hv : va (nm k0) with
        | none =>
          rcases z3 hv with q | q
          · exact absurd rfl (q k0 h1)
          · exact absurd hms q
        | some a =>
          obtain ⟨_, k, k1, k2, k3, k4⟩ := z2 a hv
          have hk : k = k0 := by
            rcases Nat.lt_trichotomy k k0 with q | q | q
            · refine absurd ?_ (h3 k q)
              unfold msk; rw [k2, if_pos c]; exact hms
            · exact q
            · exact absurd rfl (k4 k0 q)
          have := p3 (nm k0) a (Nat.zero_le _) (by omega) hv
          rw [k3, hk] at this
          omega
      · have hms : am_bt (I 6 9) (nm k0 - 100) = false := by unfold msk at h2; rw [if_neg (by omega)] at h2; exact h2
        obtain ⟨z1, z2, z3⟩ := hvb (nm k0 - 100) (by omega)
        have e100 : 100 + (nm k0 - 100) = nm k0 := by omega
        rw [e100] at z2 z3
        cases hv : vb (nm k0 - 100) with
        | none =>
          rcases z3 hv with q | q
          · exact absurd rfl (q k0 h1)
          · exact absurd hms q
        | some a =>
          obtain ⟨_, k, k1, k2, k3, k4⟩ := z2 a hv
          have hk : k = k0 := by
            rcases Nat.lt_trichotomy k k0 with q | q | q
            · refine absurd ?_ (h3 k q)
              unfold msk; rw [k2, if_neg (by omega)]; exact hms
            · exact q
            · exact absurd rfl (k4 k0 q)
          have := q3 (nm k0 - 100) a (Nat.zero_le _) (by omega) hv
          rw [k3, hk] at this
          exact this
    have first : ∀ k, k < nc → msk I nm k → at' k0 ≤ at' k := by
      intro k hk hmk
      rcases Nat.lt_trichotomy k k0 with q | q | q
      · exact absurd hmk (h3 k q)
      · rw [q]; exact Nat.le_refl _
      · exact Nat.le_of_lt (n3 k0 k q hk)
    have dn : at' k0 ≤ R := by
      have hk0 := hat k0 h1
      rcases q2 with q | ⟨i, i1, i2, i3⟩
      · rw [q]
        rcases p2 with s | ⟨i, i1, i2, i3⟩
        · rw [s]; omega
        · obtain ⟨m1, k, k1, k2, k3, k4⟩ := (hva i (by omega)).2.1 Y i3
          rw [k3]
          refine first k k1 ?_
          unfold msk; rw [k2, if_pos (by omega)]; exact m1
      · obtain ⟨m1, k, k1, k2, k3, k4⟩ := (hvb i (by omega)).2.1 R i3
        rw [k3]
        refine first k k1 ?_
        unfold msk; rw [k2, if_neg (by omega), Nat.add_sub_cancel_left]; exact m1
    omega
  rcases r with ⟨r1, r2⟩ | ⟨k0, r1, r2, r3, r4⟩
  · refine Or.inr ⟨x, y2, y3, ?_, r2, ?_⟩
    · have none1 : ∀ l, l < 32 → va l = none := by
        intro l hl
        cases hv : va l with
        | none => rfl
        | some a =>
          obtain ⟨m1, k, k1, k2, k3, k4⟩ := (hva l hl).2.1 a hv
          refine absurd ?_ (r1 k k1)
          unfold msk; rw [k2, if_pos hl]; exact m1
      have none2 : ∀ l, l < 16 → vb l = none := by
        intro l hl
        cases hv : vb l with
        | none => rfl
        | some a =>
          obtain ⟨m1, k, k1, k2, k3, k4⟩ := (hvb l hl).2.1 a hv
          refine absurd ?_ (r1 k k1)
          unfold msk; rw [k2, if_neg (by omega), Nat.add_sub_cancel_left]; exact m1
      have e1 : mnd va 32 0 700 = 700 := by
        rcases p2 with s | ⟨i, i1, i2, i3⟩
        · exact s
        · rw [none1 i (by omega)] at i3; cases i3
      have e2 : mnd vb 16 0 (mnd va 32 0 700) = 700 := by
        rcases q2 with s | ⟨i, i1, i2, i3⟩
        · rw [s, e1]
        · rw [none2 i (by omega)] at i3; cases i3
      rw [ec, if_pos e2]
    · intro l hl h20 h19
      rcases n4 l hl with ⟨e1, e2⟩ | ⟨k, k1, k2, k3, k4⟩
      · exact h20 e1
      · refine r1 k k1 ?_
        unfold msk; rw [k2, if_pos hl]; exact h19
  · have eR := r0 ⟨k0, r1, r2, r3⟩ k0 r1 r2 r3
    have hk0 := hat k0 r1
    refine Or.inl ⟨at' k0, x, y2, y3, hk0, ?_, r4⟩
    rw [ec, eR, if_neg (by omega)]

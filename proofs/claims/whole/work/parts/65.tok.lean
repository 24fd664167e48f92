/-! TOKENS in both. -/
def skp (tx : Nat → Nat) : Nat → Nat → Nat
  | 0, i => i
  | d + 1, i => if tx i ≤ 32 then skp tx d (i + 1) else i
def wen (tx : Nat → Nat) : Nat → Nat → Nat
  | 0, i => i
  | d + 1, i => if tx i ≤ 32 then i else if tx i = 59 then i else wen tx d (i + 1)
def fgs (tx : Nat → Nat) (f : Nat) : Nat → Nat
  | 0 => f
  | d + 1 => if isD (tx (f + d)) = true then fgs tx f d else f + d + 1
def tkf (tx : Nat → Nat) (N p : Nat) : Nat := skp tx (N - p) p
def tkt (tx : Nat → Nat) (N f : Nat) : Nat := if f < N ∧ tx f = 59 then f + 1 else wen tx (N - f) f
def tkk (tx : Nat → Nat) (N f : Nat) : Nat := if f < N then (if tx f = 59 then 1 else 2) else 0
def tkg (tx : Nat → Nat) (f t : Nat) : Nat := fgs tx f (t - f)
theorem skp_p (tx : Nat → Nat) : ∀ (d i : Nat), i ≤ skp tx d i ∧ skp tx d i ≤ i + d ∧ (skp tx d i < i + d → 32 < tx (skp tx d i)) := by
  intro d
  induction d with
  | zero => intro i; exact ⟨Nat.le_refl _, Nat.le_refl _, fun h => absurd h (by show ¬ i < i + 0; omega)⟩
  | succ d ih =>
    intro i
    show i ≤ (if tx i ≤ 32 then skp tx d (i + 1) else i) ∧ (if tx i ≤ 32 then skp tx d (i + 1) else i) ≤ _ ∧ ((if tx i ≤ 32 then skp tx d (i + 1) else i) < _ → 32 < tx (if tx i ≤ 32 then skp tx d (i + 1) else i))
    by_cases c : tx i ≤ 32
    · rw [if_pos c]
      obtain ⟨a, b, e⟩ := ih (i + 1)
      exact ⟨by omega, by omega, fun h => e (by omega)⟩
    · rw [if_neg c]
      exact ⟨Nat.le_refl _, by omega, fun _ => by omega⟩
theorem wen_p (tx : Nat → Nat) : ∀ (d i : Nat), i ≤ wen tx d i ∧ wen tx d i ≤ i + d ∧ (∀ j, i ≤ j → j < wen tx d i → 32 < tx j ∧ tx j ≠ 59) ∧ (wen tx d i < i + d → tx (wen tx d i) ≤ 32 ∨ tx (wen tx d i) = 59) := by
  intro d
  induction d with
  | zero => intro i; exact ⟨Nat.le_refl _, Nat.le_refl _, fun j h1 h2 => absurd h2 (by show ¬ j < i; omega), fun h => absurd h (by show ¬ i < i + 0; omega)⟩
  | succ d ih =>
    intro i
    have e : wen tx (d + 1) i = if tx i ≤ 32 then i else if tx i = 59 then i else wen tx d (i + 1) := rfl
    rw [e]
    by_cases c : tx i ≤ 32
    · rw [if_pos c]
      exact ⟨Nat.le_refl _, by omega, fun j h1 h2 => absurd h2 (by omega), fun _ => Or.inl c⟩
    · rw [if_neg c]
      by_cases c2 : tx i = 59
      · rw [if_pos c2]
        exact ⟨Nat.le_refl _, by omega, fun j h1 h2 => absurd h2 (by omega), fun _ => Or.inr c2⟩
      · rw [if_neg c2]
        obtain ⟨a1, a2, a3, a4⟩ := ih (i + 1)
        refine ⟨by omega, by omega, fun j h1 h2 => ?_, fun h => a4 (by omega)⟩
        by_cases hj : j = i
        · subst hj; exact ⟨by omega, c2⟩
        · exact a3 j (by omega) h2
theorem fgs_p (tx : Nat → Nat) (f : Nat) : ∀ d, f ≤ fgs tx f d ∧ fgs tx f d ≤ f + d ∧ (∀ j, fgs tx f d ≤ j → j < f + d → isD (tx j) = true) ∧ (f < fgs tx f d → isD (tx (fgs tx f d - 1)) = false) := by
  intro d
  induction d with
  | zero => exact ⟨Nat.le_refl _, Nat.le_refl _, fun j h1 h2 => absurd h2 (by show ¬ j < f + 0; have : fgs tx f 0 = f := rfl; omega), fun h => absurd h (by show ¬ f < f; omega)⟩
  | succ d ih =>
    have e : fgs tx f (d + 1) = if isD (tx (f + d)) = true then fgs tx f d else f + d + 1 := rfl
    rw [e]
    cases c : isD (tx (f + d)) with
    | true =>
      rw [if_pos rfl]
      obtain ⟨a1, a2, a3, a4⟩ := ih
      refine ⟨a1, by omega, fun j h1 h2 => ?_, a4⟩
      by_cases hj : j = f + d
      · rw [hj]; exact c
      · exact a3 j h1 (by omega)
    | false =>
      rw [if_neg (by decide)]
      refine ⟨by omega, by omega, fun j h1 h2 => absurd h2 (by omega), fun _ => ?_⟩
      rw [show f + d + 1 - 1 = f + d by omega]; exact c
/-- what is known of a token -/
theorem tkf_p {tx : Nat → Nat} {N p : Nat} (h : p ≤ N) : p ≤ tkf tx N p ∧ tkf tx N p ≤ N ∧ (tkf tx N p < N → 32 < tx (tkf tx N p)) := by
  obtain ⟨a, b, e⟩ := skp_p tx (N - p) p
  unfold tkf
  exact ⟨a, by omega, fun h2 => e (by omega)⟩
theorem tkt_w {tx : Nat → Nat} {N f : Nat} (h : f < N) (h2 : 32 < tx f) (h3 : tx f ≠ 59) : f < tkt tx N f ∧ tkt tx N f ≤ N ∧ (∀ j, f ≤ j → j < tkt tx N f → 32 < tx j ∧ tx j ≠ 59) ∧ (tkt tx N f < N → tx (tkt tx N f) ≤ 32 ∨ tx (tkt tx N f) = 59) := by
  unfold tkt
  rw [if_neg (fun e => h3 e.2)]
  obtain ⟨a1, a2, a3, a4⟩ := wen_p tx (N - f) f
  refine ⟨?_, by omega, a3, fun h => a4 (by omega)⟩
  obtain ⟨d, hd⟩ : ∃ d, N - f = d + 1 := ⟨N - f - 1, by omega⟩
  rw [hd]
  have e : wen tx (d + 1) f = if tx f ≤ 32 then f else if tx f = 59 then f else wen tx d (f + 1) := rfl
  rw [e, if_neg (by omega), if_neg h3]
  have := (wen_p tx d (f + 1)).1
  omega
theorem tkt_l {tx : Nat → Nat} {N f : Nat} (h : f < N) (h3 : tx f = 59) : tkt tx N f = f + 1 := by
  unfold tkt
  rw [if_pos ⟨h, h3⟩]
theorem tkt_e {tx : Nat → Nat} {N : Nat} : tkt tx N N = N := by
  unfold tkt
  rw [if_neg (by omega), Nat.sub_self]
  rfl
theorem am_up_up {α : Type} (f : Nat → Nat → α) (q k : Nat) (u v : α) : am_up (am_up f q k u) q k v = am_up f q k v := by
  funext a b
  rw [am_up_at, am_up_at, am_up_at]
  split <;> rfl
theorem ad_4 (J : Nat → Nat → Int64) (T : Nat → Nat → Nat) (L : Nat) (C : Nat × Nat) {tx : Nat → Nat} {N : Nat} : ∀ (d i : Nat) (I : Nat → Nat → Int32), TX I 4 3 1 tx N → i + d = N → I 2 5 = nI i → am_E 47 4 [.ref 2] [] (am_W I J T L C) = am_E 47 24 [.ref 2] [] (am_W (am_up I 2 5 (nI (skp tx d i))) J T L C) := by
  intro d
  induction d with
  | zero =>
    intro i I h hi h5
    have hN := h.2.1
    have e : am_up I 2 5 (nI (skp tx 0 i)) = I := by
      show am_up I 2 5 (nI i) = I
      rw [← h5, am_up_same]
    rw [rg_47_4, h5, h.1, if_pos (nI_le (by omega) (by omega)), e]
  | succ d ih =>
    intro i I h hi h5
    have hN := h.2.1
    have hx := (h.2.2 i (by omega)).2
    have eb : bya tx N i = tx i := if_pos (by omega)
    rw [rg_47_4, h5, h.1, if_neg (nI_ge (by omega) (by omega)), by_at _ _ _ _ _ h (by omega), am_okb, am_vIi, rg_47_15, eb]
    have e : skp tx (d + 1) i = if tx i ≤ 32 then skp tx d (i + 1) else i := rfl
    rw [e]
    by_cases c : tx i ≤ 32
    · rw [if_pos c, if_neg (show ¬ (32 : Int32) < nI (tx i) from nI_nlt (a := 32) (b := tx i) c (by decide)), h5, nI_1, ih (i + 1) (am_up I 2 5 (nI (i + 1))) h (by omega) rfl, am_up_up]
    · rw [if_neg c, if_pos (show (32 : Int32) < nI (tx i) from nI_lt (a := 32) (b := tx i) (by omega) (by omega))]
      rw [← h5, am_up_same]
theorem ad_28 (J : Nat → Nat → Int64) (T : Nat → Nat → Nat) (L : Nat) (C : Nat × Nat) {tx : Nat → Nat} {N : Nat} : ∀ (d i : Nat) (I : Nat → Nat → Int32), TX I 4 3 1 tx N → i + d = N → I 2 6 = nI i → am_E 47 28 [.ref 2] [] (am_W I J T L C) = am_E 47 55 [.ref 2] [] (am_W (am_up I 2 6 (nI (wen tx d i))) J T L C) := by
  intro d
  induction d with
  | zero =>
    intro i I h hi h5
    have hN := h.2.1
    have e : am_up I 2 6 (nI (wen tx 0 i)) = I := by
      show am_up I 2 6 (nI i) = I
      rw [← h5, am_up_same]
    rw [rg_47_28, h5, h.1, if_pos (nI_le (by omega) (by omega)), e]
  | succ d ih =>
    intro i I h hi h5
    have hN := h.2.1
    have hx := (h.2.2 i (by omega)).2
    have eb : bya tx N i = tx i := if_pos (by omega)
    rw [rg_47_28, h5, h.1, if_neg (nI_ge (by omega) (by omega)), by_at _ _ _ _ _ h (by omega), am_okb, am_vIi, rg_47_39, eb]
    have e : wen tx (d + 1) i = if tx i ≤ 32 then i else if tx i = 59 then i else wen tx d (i + 1) := rfl
    rw [e]
    by_cases c : tx i ≤ 32
    · rw [if_pos c, if_pos (show nI (tx i) ≤ 32 from nI_le (a := tx i) (b := 32) c (by decide)), ← h5, am_up_same]
    · rw [if_neg c, if_neg (show ¬ nI (tx i) ≤ 32 from nI_ge (a := 32) (b := tx i) (by omega) (by omega)), h5, by_at _ _ _ _ _ h (by omega), am_okb, am_vIi, rg_47_46, eb]
      by_cases c2 : tx i = 59
      · rw [if_pos c2, if_pos (show nI (tx i) = 59 by rw [c2]; rfl), ← h5, am_up_same]
      · rw [if_neg c2, if_neg (show ¬ nI (tx i) = 59 from fun e => c2 ((nI_eq (a := tx i) (b := 59) (by omega) (by decide)).mp e)), h5, nI_1, ih (i + 1) (am_up I 2 6 (nI (i + 1))) h (by omega) rfl, am_up_up]
theorem nI_m1 {n : Nat} (h : 0 < n) : nI n - 1 = nI (n - 1) := by
  obtain ⟨k, rfl⟩ : ∃ k, n = k + 1 := ⟨n - 1, by omega⟩
  exact nI_pred k
theorem ad_87 (J : Nat → Nat → Int64) (T : Nat → Nat → Nat) (L : Nat) (C : Nat × Nat) {tx : Nat → Nat} {N f : Nat} : ∀ (d : Nat) (I : Nat → Nat → Int32), TX I 4 3 1 tx N → f + d ≤ N → I 2 5 = nI f → I 2 7 = nI (f + d) → am_E 47 87 [.ref 2] [] (am_W I J T L C) = some (.null, am_W (am_up I 2 7 (nI (fgs tx f d))) J T L C) := by
  intro d
  induction d with
  | zero =>
    intro I h hi h5 h7
    have hN := h.2.1
    have e : am_up I 2 7 (nI (fgs tx f 0)) = I := by
      show am_up I 2 7 (nI (f + 0)) = I
      rw [← h7, am_up_same]
    rw [rg_47_87, h5, h7, if_pos (nI_le (by omega) (by omega)), e]
  | succ d ih =>
    intro I h hi h5 h7
    have hN := h.2.1
    have hx := (h.2.2 (f + d) (by omega)).2
    have eb : bya tx N (f + d) = tx (f + d) := if_pos (by omega)
    have e1 : nI (f + (d + 1)) - 1 = nI (f + d) := nI_m1 (by omega)
    rw [rg_47_87, h5, h7, if_neg (nI_ge (by omega) (by omega)), e1, by_at _ _ _ _ _ h (by omega), am_okb, am_vIi, rg_47_99, h7, e1, eb]
    have e : fgs tx f (d + 1) = if isD (tx (f + d)) = true then fgs tx f d else f + d + 1 := rfl
    rw [e]
    have stop : am_up I 2 7 (nI (f + d + 1)) = I := by
      show am_up I 2 7 (nI (f + (d + 1))) = I
      rw [← h7, am_up_same]
    by_cases c1 : 48 ≤ tx (f + d)
    · rw [if_neg (show ¬ nI (tx (f + d)) < 48 from nI_nlt (a := tx (f + d)) (b := 48) c1 (by omega)), by_at _ _ _ _ _ h (by omega), am_okb, am_vIi, rg_47_108, h7, e1, eb]
      by_cases c2 : tx (f + d) ≤ 57
      · have c3 : isD (tx (f + d)) = true := by unfold isD; rw [decide_eq_true c1, decide_eq_true c2]; rfl
        rw [if_pos c3, if_neg (show ¬ (57 : Int32) < nI (tx (f + d)) from nI_nlt (a := 57) (b := tx (f + d)) c2 (by decide)), ih (am_up I 2 7 (nI (f + d))) h (by omega) h5 rfl, am_up_up]
      · have c3 : isD (tx (f + d)) = false := by unfold isD; rw [decide_eq_false c2, Bool.and_false]
        rw [c3, if_pos (show (57 : Int32) < nI (tx (f + d)) from nI_lt (a := 57) (b := tx (f + d)) (by omega) (by omega)), if_neg (by decide), stop]
    · have c3 : isD (tx (f + d)) = false := by unfold isD; rw [decide_eq_false c1, Bool.false_and]
      rw [if_pos (show nI (tx (f + d)) < 48 from nI_lt (a := tx (f + d)) (b := 48) (by omega) (by decide)), c3, if_neg (by decide), stop]
/-- the class's token -/
def CK (I : Nat → Nat → Int32) (k f t g : Nat) : Prop := I 2 4 = nI k ∧ I 2 5 = nI f ∧ I 2 6 = nI t ∧ I 2 7 = nI g
def FT (I I1 : Nat → Nat → Int32) : Prop := ∀ q k, ¬ (q = 2 ∧ 4 ≤ k ∧ k ≤ 7) → I1 q k = I q k
theorem ad_ok (I : Nat → Nat → Int32) (J : Nat → Nat → Int64) (T : Nat → Nat → Nat) (L : Nat) (C : Nat × Nat) {tx : Nat → Nat} {N p : Nat} (h : TX I 4 3 1 tx N) (hp : p ≤ N) (h6 : I 2 6 = nI p) : ∃ I1, am_E 47 0 [.ref 2] [] (am_W I J T L C) = some (.null, am_W I1 J T L C) ∧ CK I1 (tkk tx N (tkf tx N p)) (tkf tx N p) (tkt tx N (tkf tx N p)) (tkg tx (tkf tx N p) (tkt tx N (tkf tx N p))) ∧ FT I I1 := by
  have hN := h.2.1
  obtain ⟨t1, t2, t3⟩ := tkf_p (tx := tx) hp
  rw [rg_47_0, h6, ad_4 J T L C (N - p) p (am_up I 2 5 (nI p)) h (by omega) rfl, rg_47_24]
  show ∃ I1, am_E 47 28 [.ref 2] [] (am_W (am_up (am_up (am_up I 2 5 (nI p)) 2 5 (nI (tkf tx N p))) 2 6 (nI (tkf tx N p))) J T L C) = _ ∧ _
  generalize tkf tx N p = f at *
  rw [am_up_up, ad_28 J T L C (N - f) f (am_up (am_up I 2 5 (nI f)) 2 6 (nI f)) h (by omega) rfl, am_up_up, rg_47_55]
  obtain ⟨w1, w2, w3, w4⟩ := wen_p tx (N - f) f
  have e1 : am_up (am_up I 2 5 (nI f)) 2 6 (nI (wen tx (N - f) f)) 2 6 = nI (wen tx (N - f) f) := rfl
  have e2 : am_up (am_up I 2 5 (nI f)) 2 6 (nI (wen tx (N - f) f)) 2 5 = nI f := rfl
  have e3 : am_up (am_up I 2 5 (nI f)) 2 6 (nI (wen tx (N - f) f)) 3 1 = nI N := h.1
  rw [e1, e2, e3]
  have fin : ∀ (k t : Nat) (I2 : Nat → Nat → Int32), TX I2 4 3 1 tx N → f ≤ t → t ≤ N → I2 2 4 = nI k → I2 2 5 = nI f → I2 2 6 = nI t → FT I I2 → k = tkk tx N f → t = tkt tx N f → ∃ I1, am_E 47 83 [.ref 2] [] (am_W I2 J T L C) = some (.null, am_W I1 J T L C) ∧ CK I1 (tkk tx N f) f (tkt tx N f) (tkg tx f (tkt tx N f)) ∧ FT I I1 := by
    intro k t I2 hT hf ht h4 h5 h6 hF ek et
    rw [← ek, ← et]
    refine ⟨am_up (am_up I2 2 7 (nI t)) 2 7 (nI (fgs tx f (t - f))), ?_, ⟨h4, h5, h6, rfl⟩, ?_⟩
    · rw [rg_47_83, h6]
      exact ad_87 J T L C (t - f) (am_up I2 2 7 (nI t)) hT (by omega) h5 (by show nI t = _; rw [show f + (t - f) = t by omega])
    · intro q k' hq
      rw [am_up_ne (by omega), am_up_ne (by omega)]
      exact hF q k' hq
  have FT3 : ∀ u v w, FT I (am_up (am_up (am_up I 2 5 u) 2 6 v) 2 4 w) := by
    intro u v w q k' hq
    rw [am_up_ne (by omega), am_up_ne (by omega), am_up_ne (by omega)]
  by_cases c : f < N
  · have hx := (h.2.2 f (by omega)).2
    by_cases c59 : tx f = 59
    · have ew : wen tx (N - f) f = f := by
        obtain ⟨d, hd⟩ : ∃ d, N - f = d + 1 := ⟨N - f - 1, by omega⟩
        rw [hd]
        have e : wen tx (d + 1) f = if tx f ≤ 32 then f else if tx f = 59 then f else wen tx d (f + 1) := rfl
        rw [e, if_neg (by omega), if_pos c59]
      rw [ew, if_pos (nI_le (Nat.le_refl _) (by omega)), if_neg (nI_ge c (by omega)), nI_1]
      refine fin 1 (f + 1) _ h (by omega) (by omega) rfl rfl rfl ?_ ?_ (tkt_l c c59).symm
      · intro q k' hq
        rw [am_up_ne (by omega)]
        exact FT3 _ _ _ q k' hq
      · unfold tkk; rw [if_pos c, if_pos c59]
    · obtain ⟨b1, b2, b3, b4⟩ := tkt_w c (t3 c) c59
      have et : wen tx (N - f) f = tkt tx N f := by unfold tkt; rw [if_neg (fun e => c59 e.2)]
      rw [et, if_neg (nI_ge b1 (by omega))]
      exact fin 2 _ _ h (by omega) b2 rfl rfl rfl (FT3 _ _ _) (by unfold tkk; rw [if_pos c, if_neg c59]) rfl
  · have ef : f = N := by omega
    have ew : wen tx (N - f) f = N := by rw [ef, Nat.sub_self]; rfl
    rw [ew, ef, if_pos (nI_le (Nat.le_refl _) (by omega)), if_pos (nI_le (Nat.le_refl _) (by omega))]
    rw [ef] at fin
    exact fin 0 N _ h (Nat.le_refl _) (Nat.le_refl _) rfl rfl rfl (FT3 _ _ _) (by unfold tkk; rw [if_neg (by omega)]) tkt_e.symm
theorem nx_4 (J : Nat → Nat → Int64) (T : Nat → Nat → Nat) (L : Nat) (C : Nat × Nat) {tx : Nat → Nat} {N : Nat} : ∀ (d i : Nat) (I : Nat → Nat → Int32), TX I 50 49 2 tx N → i + d = N → I 49 24 = nI i → am_E 99 4 [.ref 49] [] (am_W I J T L C) = am_E 99 23 [.ref 49] [] (am_W (am_up I 49 24 (nI (skp tx d i))) J T L C) := by
  intro d
  induction d with
  | zero =>
    intro i I h hi h5
    have hN := h.2.1
    have e : am_up I 49 24 (nI (skp tx 0 i)) = I := by
      show am_up I 49 24 (nI i) = I
      rw [← h5, am_up_same]
    rw [rg_99_4, h5, h.1, if_pos (nI_le (by omega) (by omega)), e]
  | succ d ih =>
    intro i I h hi h5
    have hN := h.2.1
    obtain ⟨h50, hx⟩ := h.2.2 i (by omega)
    rw [rg_99_4, h5, h.1, if_neg (nI_ge (by omega) (by omega)), am_inb_ok (by omega) (by decide), nI_clamp (by omega), h50]
    have e : skp tx (d + 1) i = if tx i ≤ 32 then skp tx d (i + 1) else i := rfl
    rw [e]
    by_cases c : tx i ≤ 32
    · rw [if_pos c, if_neg (show ¬ (32 : Int32) < nI (tx i) from nI_nlt (a := 32) (b := tx i) c (by decide)), nI_1, ih (i + 1) (am_up I 49 24 (nI (i + 1))) h (by omega) rfl, am_up_up]
    · rw [if_neg c, if_pos (show (32 : Int32) < nI (tx i) from nI_lt (a := 32) (b := tx i) (by omega) (by omega))]
      rw [← h5, am_up_same]
theorem nx_50 (J : Nat → Nat → Int64) (T : Nat → Nat → Nat) (L : Nat) (C : Nat × Nat) {tx : Nat → Nat} {N : Nat} : ∀ (d i : Nat) (I : Nat → Nat → Int32), TX I 50 49 2 tx N → i + d = N → I 49 26 = nI i → am_E 99 50 [.ref 49] [] (am_W I J T L C) = some (.null, am_W (am_up I 49 26 (nI (wen tx d i))) J T L C) := by
  intro d
  induction d with
  | zero =>
    intro i I h hi h5
    have hN := h.2.1
    have e : am_up I 49 26 (nI (wen tx 0 i)) = I := by
      show am_up I 49 26 (nI i) = I
      rw [← h5, am_up_same]
    rw [rg_99_50, h5, h.1, if_pos (nI_le (by omega) (by omega)), e]
  | succ d ih =>
    intro i I h hi h5
    have hN := h.2.1
    obtain ⟨h50, hx⟩ := h.2.2 i (by omega)
    rw [rg_99_50, h5, h.1, if_neg (nI_ge (by omega) (by omega)), am_inb_ok (by omega) (by decide), nI_clamp (by omega), h50]
    have e : wen tx (d + 1) i = if tx i ≤ 32 then i else if tx i = 59 then i else wen tx d (i + 1) := rfl
    rw [e]
    by_cases c : tx i ≤ 32
    · rw [if_pos c, if_pos (show nI (tx i) ≤ 32 from nI_le (a := tx i) (b := 32) c (by decide)), ← h5, am_up_same]
    · rw [if_neg c, if_neg (show ¬ nI (tx i) ≤ 32 from nI_ge (a := 32) (b := tx i) (by omega) (by omega)), am_inb_ok (by omega) (by decide)]
      by_cases c2 : tx i = 59
      · rw [if_pos c2, if_pos (show nI (tx i) = 59 by rw [c2]; rfl), ← h5, am_up_same]
      · rw [if_neg c2, if_neg (show ¬ nI (tx i) = 59 from fun e => c2 ((nI_eq (a := tx i) (b := 59) (by omega) (by decide)).mp e)), nI_1, ih (i + 1) (am_up I 49 26 (nI (i + 1))) h (by omega) rfl, am_up_up]
def FX (I I1 : Nat → Nat → Int32) : Prop := ∀ q k, ¬ (q = 49 ∧ 24 ≤ k ∧ k ≤ 26) → I1 q k = I q k
theorem nx_ok (I : Nat → Nat → Int32) (J : Nat → Nat → Int64) (T : Nat → Nat → Nat) (L : Nat) (C : Nat × Nat) {tx : Nat → Nat} {N p : Nat} (h : TX I 50 49 2 tx N) (hp : p ≤ N) (h6 : I 49 26 = nI p) : ∃ I1, am_E 99 0 [.ref 49] [] (am_W I J T L C) = some (.null, am_W I1 J T L C) ∧ I1 49 25 = nI (tkf tx N p) ∧ I1 49 26 = nI (tkt tx N (tkf tx N p)) ∧ FX I I1 := by
  have hN := h.2.1
  obtain ⟨t1, t2, t3⟩ := tkf_p (tx := tx) hp
  rw [rg_99_0, h6, nx_4 J T L C (N - p) p (am_up I 49 24 (nI p)) h (by omega) rfl, am_up_up]
  show ∃ I1, am_E 99 23 [.ref 49] [] (am_W (am_up I 49 24 (nI (tkf tx N p))) J T L C) = _ ∧ _
  generalize tkf tx N p = f at *
  have e1 : am_up I 49 24 (nI f) 49 24 = nI f := rfl
  have e3 : am_up I 49 24 (nI f) 49 2 = nI N := h.1
  have fr : ∀ u v w, FX I (am_up (am_up (am_up I 49 24 u) 49 25 v) 49 26 w) := by
    intro u v w q k hq
    rw [am_up_ne (by omega), am_up_ne (by omega), am_up_ne (by omega)]
  rw [rg_99_23, e1, e3]
  by_cases c : f < N
  · obtain ⟨h50, hx⟩ := h.2.2 f (by omega)
    rw [if_neg (nI_ge c (by omega)), am_inb_ok (by omega) (by decide), nI_clamp (by omega)]
    show ∃ I1, (if I 50 f = 59 then _ else _) = _ ∧ _
    rw [h50]
    by_cases c59 : tx f = 59
    · refine ⟨_, ?_, ?_, ?_, fr (nI f) (nI f) (nI (f + 1))⟩
      · rw [if_pos (show nI (tx f) = 59 by rw [c59]; rfl), am_up_up, nI_1]
      · rfl
      · rw [tkt_l c c59]; rfl
    · rw [if_neg (show ¬ nI (tx f) = 59 from fun e => c59 ((nI_eq (a := tx f) (b := 59) (by omega) (by decide)).mp e))]
      refine ⟨_, nx_50 J T L C (N - f) f _ h (by omega) rfl, rfl, ?_, ?_⟩
      · rw [show tkt tx N f = wen tx (N - f) f by unfold tkt; rw [if_neg (fun e => c59 e.2)]]
        rfl
      · intro q k hq
        rw [am_up_ne (by omega)]
        exact fr _ _ _ q k hq
  · have ef : f = N := by omega
    subst ef
    rw [if_pos (nI_le (Nat.le_refl _) (by omega))]
    refine ⟨_, nx_50 J T L C (f - f) f _ h (by omega) rfl, rfl, ?_, ?_⟩
    · rw [tkt_e, Nat.sub_self]
      rfl
    · intro q k hq
      rw [am_up_ne (by omega)]
      exact fr _ _ _ q k hq

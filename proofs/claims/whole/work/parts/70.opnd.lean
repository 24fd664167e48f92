/-! AN OPERAND in the model's view and in the class's: pure. -/
def OM (only may : Int32) : Prop := ∀ kd, kd < 12 → am_bt only kd = if kd = 7 ∨ kd = 8 then false else am_bt may (cmk kd)
theorem OM_all : OM 3711 1023 := by
  unfold OM
  decide +kernel
theorem OM_st : OM 70 28 := by
  unfold OM
  decide +kernel
theorem OM_bit : OM 6 12 := by
  unfold OM
  decide +kernel
def wof (its : Nat) : Nat := if its = 6 ∨ its = 8 then 2 else 1
def mst (its : Nat) : Nat := if its < 5 then 31 else if its < 9 then 7 else 15
def mns (c : Nat) : Nat := if c = 45 then 1 else 0
def mny (tx : Nat → Nat) (f t c : Nat) : Int64 := if c = 45 then -(lN (cnv tx (f + mns c) t)) else lN (cnv tx (f + mns c) t)
/-- the model's fault with an operand -/
def mof (tx : Nat → Nat) (f t : Nat) (may : Int32) : Nat := if 0 < cki (bya tx t f) (bya tx t (f + 1)) then (if am_bt may (cki (bya tx t f) (bya tx t (f + 1))) = true then smf tx (f + wof (cki (bya tx t f) (bya tx t (f + 1)))) t (mst (cki (bya tx t f) (bya tx t (f + 1)))) else 1) else (if am_bt may 0 = true ∧ (numv (sl tx (f + mns (bya tx t f)) t)).isSome = true then (if rgo (mny tx f t (bya tx t f)) = true then 2 else 0) else 1)
/-- and its value -/
def mov (tx : Nat → Nat) (f t : Nat) : Int32 := if 0 < cki (bya tx t f) (bya tx t (f + 1)) then nI (smv tx (f + wof (cki (bya tx t f) (bya tx t (f + 1)))) t) else Int64.toInt32 (mny tx f t (bya tx t f))
theorem figs_g {tx : Nat → Nat} {N k f t g w : Nat} (h : TK tx N k f t g) (hw : 0 < w) (ht : f + w ≤ t) (hd : isD (tx (f + w - 1)) = false) : (numv (sl tx (f + w) t)).isSome = true ↔ (g = f + w ∧ g ≠ t) := by
  have hg := TK_g h
  by_cases c : f + w < t
  · rw [g_iff hg (by omega) c (Or.inr hd)]
    exact ⟨fun e => ⟨e, by omega⟩, fun e => e.1⟩
  · rw [sl_nil (by omega)]
    have gt : g = t := by
      apply Nat.le_antisymm hg.2.1
      apply Nat.le_of_not_lt
      intro hlt
      rw [hg.2.2.1 (f + w - 1) (by omega) (by omega)] at hd
      exact absurd hd (by decide)
    exact ⟨fun e => absurd e (by decide), fun e => absurd gt e.2⟩
theorem isD_g {tx : Nat → Nat} {N k f t g : Nat} (h : TK tx N k f t g) (hft : f < t) (hd : isD (tx f) = false) : g ≠ f := by
  intro e
  have hg := TK_g h
  rw [hg.2.2.1 f (by omega) hft] at hd
  exact absurd hd (by decide)
theorem some_iff {o : Option Nat} : o.isSome = true ↔ ∃ v, o = some v := by cases o <;> simp
theorem sl2 {tx : Nat → Nat} {f g a b : Nat} (h : sl tx f g = [a, b]) : g = f + 2 ∧ tx f = a ∧ tx (f + 1) = b := by
  have hl := sl_len tx f g
  rw [h] at hl
  have hl2 : 2 = g - f := hl
  have e1 := sl_get tx (f := f) (t := g) (k := 0) (by omega)
  have e2 := sl_get tx (f := f) (t := g) (k := 1) (by omega)
  rw [h] at e1 e2
  exact ⟨by omega, e1.symm, e2.symm⟩
/-- a cell with letters -/
theorem pl_let {tx : Nat → Nat} {N k f t g its kd w most : Nat} {only may : Int32} (h : TK tx N k f t g) (om : OM only may) (hw : 0 < w) (ht : f + w ≤ t) (hd : isD (tx (f + w - 1)) = false) (hkd : kd < 11) (h78 : kd ≠ 7 ∧ kd ≠ 8) (hr : rng kd = most + 1) (hc : cmk kd = its) (h1 : g = f + w → g ≠ t → kow tx k f t g = some kd) (h2 : ¬ (g = f + w ∧ g ≠ t) → kow tx k f t g = none) : (if am_bt may its = true then smf tx (f + w) t most else 1) = crf tx k f t g only ∧ (crf tx k f t g only = 0 → crk tx k f t g = kd ∧ crv tx k f t g = nI (smv tx (f + w) t)) := by
  have hf := figs_g h hw ht hd
  have hom := om kd (by omega)
  rw [if_neg (by omega), hc] at hom
  by_cases c : g = f + w ∧ g ≠ t
  · obtain ⟨v, hv⟩ := some_iff.mp (hf.mpr c)
    have hk := h1 c.1 c.2
    have hcn : cnv tx g t = v := by unfold cnv; rw [c.1, hv]; rfl
    have hs : smv tx (f + w) t = v := by unfold smv; rw [hv]; rfl
    have e1 : crf tx k f t g only = if am_bt only kd = true then cfk kd f t g (cnv tx g t) else 1 := by unfold crf; rw [hk]
    have e2 : smf tx (f + w) t most = cfk kd f t g (cnv tx g t) := by
      unfold smf cfk
      rw [hv, if_neg (by omega), hcn, hr, c.1]
      show (if 2 < t - (f + w) ∨ most < v then 2 else 0) = _
      by_cases d : 2 < t - (f + w) ∨ most < v
      · rw [if_pos d, if_pos (by omega)]
      · rw [if_neg d, if_neg (by omega)]
    refine ⟨by rw [e1, e2, hom], fun _ => ?_⟩
    have e3 : crk tx k f t g = kd := by unfold crk; rw [hk]; rfl
    refine ⟨e3, ?_⟩
    unfold crv cry
    rw [e3, if_neg (fun e => by omega), hcn, hs, lN_i]
  · have hk := h2 c
    have e1 : crf tx k f t g only = 1 := by unfold crf; rw [hk]
    have e2 : smf tx (f + w) t most = 1 := by
      unfold smf
      cases hv : numv (sl tx (f + w) t) with
      | none => rfl
      | some v => exact absurd (hf.mp (by rw [hv]; rfl)) c
    rw [e1, e2]
    refine ⟨by split <;> rfl, fun e => absurd e (by decide)⟩
theorem kow_2 {tx : Nat → Nat} {f t g : Nat} (h1 : g ≠ t) (h2 : g ≠ f) (h3 : g - f ≠ 1) : kow tx 2 f t g = if sl tx f g = wd 42 then some 9 else if sl tx f g = wd 43 then some 10 else none := by
  unfold kow
  rw [if_pos rfl, if_neg h1, if_neg h2, if_neg h3]
theorem kow_1 {tx : Nat → Nat} {f t g : Nat} (h1 : g ≠ t) (h3 : g = f + 1) : kow tx 2 f t g = if tx f = 45 then some 11 else ltr (tx f) := by
  unfold kow
  rw [if_pos rfl, if_neg h1, if_neg (by omega), if_pos (by omega)]
theorem kow_t {tx : Nat → Nat} {k f t : Nat} : kow tx k f t t = none := by
  unfold kow
  split
  · rw [if_pos rfl]
  · rfl
theorem wd42 : wd 42 = [84, 69] := by decide +kernel
theorem wd43 : wd 43 = [67, 86] := by decide +kernel
theorem ltr_in : ∀ c, c < 256 → (c = 73 ∨ c = 81 ∨ c = 77 ∨ c = 88 ∨ c = 84 ∨ c = 67 ∨ c = 87 ∨ ltr c = none ∨ ltr c = some 7 ∨ ltr c = some 8) := by decide +kernel
/-- one letter: kind kd, when figures follow at once; nothing else may be met -/
theorem k1_some {tx : Nat → Nat} {k f t g kd : Nat} (hk : k = 2) (h45 : tx f ≠ 45) (hl : ltr (tx f) = some kd) : g = f + 1 → g ≠ t → kow tx k f t g = some kd := by
  intro e e2
  rw [hk, kow_1 e2 e, if_neg h45, hl]
theorem k1_none {tx : Nat → Nat} {N k f t g : Nat} (h : TK tx N k f t g) (hk : k = 2) (hft : f < t) (hd : isD (tx f) = false) (h84 : tx f = 84 → tx (f + 1) ≠ 69 ∨ t ≤ f + 1) (h67 : tx f = 67 → tx (f + 1) ≠ 86 ∨ t ≤ f + 1) : ¬ (g = f + 1 ∧ g ≠ t) → kow tx k f t g = none := by
  intro c
  have hg := TK_g h
  have gf := isD_g h hft hd
  by_cases e : g = t
  · rw [e]; exact kow_t
  · rw [hk, kow_2 e gf (by omega), wd42, wd43]
    have n1 : sl tx f g ≠ [84, 69] := fun e2 => by
      obtain ⟨a1, a2, a3⟩ := sl2 e2
      rcases h84 a2 with x | x
      · exact x a3
      · omega
    have n2 : sl tx f g ≠ [67, 86] := fun e2 => by
      obtain ⟨a1, a2, a3⟩ := sl2 e2
      rcases h67 a2 with x | x
      · exact x a3
      · omega
    rw [if_neg n1, if_neg n2]
theorem k2_some {tx : Nat → Nat} {f t g a b kd : Nat} (ha : tx f = a) (hb : tx (f + 1) = b) (h : kd = 9 ∧ a = 84 ∧ b = 69 ∨ kd = 10 ∧ a = 67 ∧ b = 86) : g = f + 2 → g ≠ t → kow tx 2 f t g = some kd := by
  intro e e2
  have es : sl tx f g = [a, b] := by
    rw [e, ← ha, ← hb]
    unfold sl
    rw [show f + 2 - f = 2 by omega]
    rfl
  rw [kow_2 e2 (by omega) (by omega), es, wd42, wd43]
  rcases h with ⟨h1, h2, h3⟩ | ⟨h1, h2, h3⟩
  · rw [h1, h2, h3]; rfl
  · rw [h1, h2, h3]; rfl
theorem k2_none {tx : Nat → Nat} {N k f t g : Nat} (h : TK tx N k f t g) (hk : k = 2) (hft : f + 1 < t) (hd : isD (tx f) = false) (hd2 : isD (tx (f + 1)) = false) : ¬ (g = f + 2 ∧ g ≠ t) → kow tx k f t g = none := by
  intro c
  have hg := TK_g h
  have gf := isD_g h (by omega) hd
  by_cases e : g = t
  · rw [e]; exact kow_t
  · have g1 : g ≠ f + 1 := fun e1 => by
      rw [hg.2.2.1 (f + 1) (by omega) hft] at hd2
      exact absurd hd2 (by decide)
    have n : ∀ a b, sl tx f g ≠ [a, b] := fun a b e2 => by
      have := (sl2 e2).1
      omega
    rw [hk, kow_2 e gf (by omega), wd42, wd43, if_neg (n 84 69), if_neg (n 67 86)]
/-- the two views agree -/
theorem pl_all {tx : Nat → Nat} {N k f t g : Nat} {only may : Int32} (h : TK tx N k f t g) (hN : N ≤ 700) (hx : ∀ i, i < 700 → tx i < 256) (om : OM only may) : mof tx f t may = crf tx k f t g only ∧ (crf tx k f t g only = 0 → nI (cmk (crk tx k f t g)) = nI (cki (bya tx t f) (bya tx t (f + 1))) ∧ crv tx k f t g = mov tx f t) := by
  have hl := TK_le h
  unfold mof mov
  rcases TK_p h with ⟨hk, hft, _, _, _⟩ | ⟨hk, ht, hfN, h59⟩ | ⟨hk, hf, ht⟩
  · have ec : bya tx t f = tx f := if_pos hft
    rw [ec]
    have fin : ∀ its kd w most : Nat, cki (tx f) (bya tx t (f + 1)) = its → 0 < its → wof its = w → mst its = most → 0 < w → f + w ≤ t → isD (tx (f + w - 1)) = false → kd < 11 → (kd ≠ 7 ∧ kd ≠ 8) → rng kd = most + 1 → cmk kd = its → (g = f + w → g ≠ t → kow tx k f t g = some kd) → (¬ (g = f + w ∧ g ≠ t) → kow tx k f t g = none) → (if 0 < cki (tx f) (bya tx t (f + 1)) then (if am_bt may (cki (tx f) (bya tx t (f + 1))) = true then smf tx (f + wof (cki (tx f) (bya tx t (f + 1)))) t (mst (cki (tx f) (bya tx t (f + 1)))) else 1) else (if am_bt may 0 = true ∧ (numv (sl tx (f + mns (tx f)) t)).isSome = true then (if rgo (mny tx f t (tx f)) = true then 2 else 0) else 1)) = crf tx k f t g only ∧ (crf tx k f t g only = 0 → nI (cmk (crk tx k f t g)) = nI (cki (tx f) (bya tx t (f + 1))) ∧ crv tx k f t g = if 0 < cki (tx f) (bya tx t (f + 1)) then nI (smv tx (f + wof (cki (tx f) (bya tx t (f + 1)))) t) else Int64.toInt32 (mny tx f t (tx f))) := by
      intro its kd w most e0 e1 e2 e3 e4 e5 e6 e7 e8 e9 e10 e11 e12
      have q := pl_let h om e4 e5 e6 e7 e8 e9 e10 e11 e12
      rw [e0, if_pos e1, if_pos e1, e2, e3]
      refine ⟨q.1, fun hz => ?_⟩
      obtain ⟨q1, q2⟩ := q.2 hz
      exact ⟨by rw [q1, e10], q2⟩
    have hx0 := hx f (by omega)
    by_cases t84 : tx f = 84
    · have dD : isD (tx f) = false := by rw [t84]; decide
      by_cases e69 : bya tx t (f + 1) = 69
      · have hf1 : f + 1 < t := by
          apply Nat.lt_of_not_le
          intro c
          unfold bya at e69
          rw [if_neg (by omega)] at e69
          omega
        have e69' : tx (f + 1) = 69 := by unfold bya at e69; rw [if_pos hf1] at e69; exact e69
        have d2 : isD (tx (f + 1)) = false := by rw [e69']; decide
        exact fin 6 9 2 7 (by rw [t84, e69]; rfl) (by decide) rfl rfl (by decide) (by omega) d2 (by decide) (by decide) rfl rfl (by rw [hk]; exact k2_some t84 e69' (Or.inl ⟨rfl, rfl, rfl⟩)) (k2_none h hk hf1 dD d2)
      · have i5 : cki (tx f) (bya tx t (f + 1)) = 5 := by unfold cki; rw [if_pos t84, if_neg e69]
        exact fin 5 4 1 7 i5 (by decide) rfl rfl (by decide) (by omega) dD (by decide) (by decide) rfl rfl (k1_some hk (by omega) (by rw [t84]; decide +kernel)) (k1_none h hk hft dD (fun _ => by
          by_cases c : f + 1 < t
          · unfold bya at e69; rw [if_pos c] at e69; exact Or.inl e69
          · exact Or.inr (by omega)) (fun e => by omega))
    by_cases t67 : tx f = 67
    · have dD : isD (tx f) = false := by rw [t67]; decide
      by_cases e86 : bya tx t (f + 1) = 86
      · have hf1 : f + 1 < t := by
          apply Nat.lt_of_not_le
          intro c
          unfold bya at e86
          rw [if_neg (by omega)] at e86
          omega
        have e86' : tx (f + 1) = 86 := by unfold bya at e86; rw [if_pos hf1] at e86; exact e86
        have d2 : isD (tx (f + 1)) = false := by rw [e86']; decide
        exact fin 8 10 2 7 (by rw [t67, e86]; rfl) (by decide) rfl rfl (by decide) (by omega) d2 (by decide) (by decide) rfl rfl (by rw [hk]; exact k2_some t67 e86' (Or.inr ⟨rfl, rfl, rfl⟩)) (k2_none h hk hf1 dD d2)
      · have i7 : cki (tx f) (bya tx t (f + 1)) = 7 := by unfold cki; rw [if_neg t84, if_pos t67, if_neg e86]
        exact fin 7 5 1 7 i7 (by decide) rfl rfl (by decide) (by omega) dD (by decide) (by decide) rfl rfl (k1_some hk (by omega) (by rw [t67]; decide +kernel)) (k1_none h hk hft dD (fun e => by omega) (fun _ => by
          by_cases c : f + 1 < t
          · unfold bya at e86; rw [if_pos c] at e86; exact Or.inl e86
          · exact Or.inr (by omega)))
    by_cases t73 : tx f = 73
    · have dD : isD (tx f) = false := by rw [t73]; decide
      have ii : cki (tx f) (bya tx t (f + 1)) = 1 := by unfold cki; rw [if_neg t84, if_neg t67, if_pos t73]
      exact fin 1 0 1 31 ii (by decide) rfl rfl (by decide) (by omega) dD (by decide) (by decide) rfl rfl (k1_some hk (by omega) (by rw [t73]; decide +kernel)) (k1_none h hk hft dD (fun e => by omega) (fun e => by omega))
    by_cases t81 : tx f = 81
    · have dD : isD (tx f) = false := by rw [t81]; decide
      have ii : cki (tx f) (bya tx t (f + 1)) = 2 := by unfold cki; rw [if_neg t84, if_neg t67, if_neg t73, if_pos t81]
      exact fin 2 1 1 31 ii (by decide) rfl rfl (by decide) (by omega) dD (by decide) (by decide) rfl rfl (k1_some hk (by omega) (by rw [t81]; decide +kernel)) (k1_none h hk hft dD (fun e => by omega) (fun e => by omega))
    by_cases t77 : tx f = 77
    · have dD : isD (tx f) = false := by rw [t77]; decide
      have ii : cki (tx f) (bya tx t (f + 1)) = 3 := by unfold cki; rw [if_neg t84, if_neg t67, if_neg t73, if_neg t81, if_pos t77]
      exact fin 3 2 1 31 ii (by decide) rfl rfl (by decide) (by omega) dD (by decide) (by decide) rfl rfl (k1_some hk (by omega) (by rw [t77]; decide +kernel)) (k1_none h hk hft dD (fun e => by omega) (fun e => by omega))
    by_cases t87 : tx f = 87
    · have dD : isD (tx f) = false := by rw [t87]; decide
      have ii : cki (tx f) (bya tx t (f + 1)) = 4 := by unfold cki; rw [if_neg t84, if_neg t67, if_neg t73, if_neg t81, if_neg t77, if_pos t87]
      exact fin 4 6 1 31 ii (by decide) rfl rfl (by decide) (by omega) dD (by decide) (by decide) rfl rfl (k1_some hk (by omega) (by rw [t87]; decide +kernel)) (k1_none h hk hft dD (fun e => by omega) (fun e => by omega))
    by_cases t88 : tx f = 88
    · have dD : isD (tx f) = false := by rw [t88]; decide
      have ii : cki (tx f) (bya tx t (f + 1)) = 9 := by unfold cki; rw [if_neg t84, if_neg t67, if_neg t73, if_neg t81, if_neg t77, if_neg t87, if_pos t88]
      exact fin 9 3 1 15 ii (by decide) rfl rfl (by decide) (by omega) dD (by decide) (by decide) rfl rfl (k1_some hk (by omega) (by rw [t88]; decide +kernel)) (k1_none h hk hft dD (fun e => by omega) (fun e => by omega))
    have i0 : cki (tx f) (bya tx t (f + 1)) = 0 := by unfold cki; rw [if_neg t84, if_neg t67, if_neg t73, if_neg t81, if_neg t77, if_neg t87, if_neg t88]
    rw [i0, if_neg (Nat.lt_irrefl 0), if_neg (Nat.lt_irrefl 0)]
    have o11 := om 11 (by decide)
    rw [if_neg (by decide), show cmk 11 = 0 from rfl] at o11
    have hg := TK_g h
    by_cases t45 : tx f = 45
    · have dD : isD (tx f) = false := by rw [t45]; decide
      have hf := figs_g h (w := 1) (by decide) (by omega) dD
      have em : mns (tx f) = 1 := by unfold mns; rw [if_pos t45]
      rw [em]
      by_cases c : g = f + 1 ∧ g ≠ t
      · obtain ⟨v, hv⟩ := some_iff.mp (hf.mpr c)
        have hk2 : kow tx k f t g = some 11 := by rw [hk, kow_1 c.2 c.1, if_pos t45]
        have hck : crk tx k f t g = 11 := by unfold crk; rw [hk2]; rfl
        have ey : cry 11 f g (cnv tx g t) = mny tx f t (tx f) := by
          unfold cry mny
          rw [if_pos ⟨rfl, by omega⟩, if_pos t45, em, c.1]
        have e1 : crf tx k f t g only = if am_bt only 11 = true then cfk 11 f t g (cnv tx g t) else 1 := by unfold crf; rw [hk2]
        have e2 : cfk 11 f t g (cnv tx g t) = if rgo (mny tx f t (tx f)) = true then 2 else 0 := by unfold cfk; rw [if_pos rfl, ey]
        refine ⟨?_, fun _ => ⟨by rw [hck]; rfl, by unfold crv; rw [hck, ey]⟩⟩
        rw [e1, e2, o11]
        by_cases b : am_bt may 0 = true
        · rw [if_pos ⟨b, by rw [hv]; rfl⟩, if_pos b]
        · rw [if_neg (fun e => b e.1), if_neg b]
      · have hk2 : kow tx k f t g = none := k1_none h hk hft dD (fun e => by omega) (fun e => by omega) c
        have e1 : crf tx k f t g only = 1 := by unfold crf; rw [hk2]
        rw [e1]
        exact ⟨if_neg (fun e => c (hf.mp e.2)), fun e => absurd e (by decide)⟩
    · have em : mns (tx f) = 0 := by unfold mns; rw [if_neg t45]
      rw [em]
      have hf := g_iff hg (Nat.le_refl f) hft (Or.inl rfl)
      by_cases c : g = f
      · obtain ⟨v, hv⟩ := some_iff.mp (hf.mpr c)
        have hk2 : kow tx k f t g = some 11 := by
          unfold kow
          rw [if_pos hk, if_neg (by omega), if_pos c]
        have hck : crk tx k f t g = 11 := by unfold crk; rw [hk2]; rfl
        have ey : cry 11 f g (cnv tx g t) = mny tx f t (tx f) := by
          unfold cry mny
          rw [if_neg (fun e => by omega), if_neg t45, em, c]
          rfl
        have e1 : crf tx k f t g only = if am_bt only 11 = true then cfk 11 f t g (cnv tx g t) else 1 := by unfold crf; rw [hk2]
        have e2 : cfk 11 f t g (cnv tx g t) = if rgo (mny tx f t (tx f)) = true then 2 else 0 := by unfold cfk; rw [if_pos rfl, ey]
        refine ⟨?_, fun _ => ⟨by rw [hck]; rfl, by unfold crv; rw [hck, ey]⟩⟩
        rw [e1, e2, o11]
        by_cases b : am_bt may 0 = true
        · rw [if_pos ⟨b, by show (numv (sl tx f t)).isSome = true; rw [hv]; rfl⟩, if_pos b]
        · rw [if_neg (fun e => b e.1), if_neg b]
      · have e1 : crf tx k f t g only = 1 := by
          by_cases gt : g = t
          · unfold crf; rw [gt, kow_t]
          · by_cases g1 : g = f + 1
            · have hk2 : kow tx k f t g = ltr (tx f) := by rw [hk, kow_1 gt g1, if_neg t45]
              unfold crf
              rw [hk2]
              rcases ltr_in (tx f) hx0 with e | e | e | e | e | e | e | e | e | e
              · exact absurd e t73
              · exact absurd e t81
              · exact absurd e t77
              · exact absurd e t88
              · exact absurd e t84
              · exact absurd e t67
              · exact absurd e t87
              · rw [e]
              · rw [e]
                show (if am_bt only 7 = true then _ else 1) = 1
                rw [om 7 (by decide), if_pos (Or.inl rfl)]; rfl
              · rw [e]
                show (if am_bt only 8 = true then _ else 1) = 1
                rw [om 8 (by decide), if_pos (Or.inr rfl)]; rfl
            · have hk2 : kow tx k f t g = none := by
                rw [hk, kow_2 gt c (by omega), wd42, wd43, if_neg (fun e => t84 (sl2 e).2.1), if_neg (fun e => t67 (sl2 e).2.1)]
              unfold crf; rw [hk2]
        rw [e1]
        exact ⟨if_neg (fun e => c (hf.mp e.2)), fun e => absurd e (by decide)⟩
  · have ec : bya tx t f = 59 := by unfold bya; rw [if_pos (by omega), h59]
    have i0 : cki (bya tx t f) (bya tx t (f + 1)) = 0 := by rw [ec]; rfl
    have hk2 : kow tx k f t g = none := by unfold kow; rw [if_neg (by omega)]
    have e1 : crf tx k f t g only = 1 := by unfold crf; rw [hk2]
    rw [i0, if_neg (Nat.lt_irrefl 0), if_neg (Nat.lt_irrefl 0), e1, ec]
    refine ⟨if_neg (fun e => ?_), fun e => absurd e (by decide)⟩
    have e2 := e.2
    rw [show mns 59 = 0 from rfl, ht] at e2
    rw [show f + 0 = f from rfl, sl_one, h59] at e2
    exact absurd e2 (by decide)
  · have ec : bya tx t f = 0 := by unfold bya; rw [if_neg (by omega)]
    have i0 : cki (bya tx t f) (bya tx t (f + 1)) = 0 := by rw [ec]; rfl
    have hk2 : kow tx k f t g = none := by unfold kow; rw [if_neg (by omega)]
    have e1 : crf tx k f t g only = 1 := by unfold crf; rw [hk2]
    rw [i0, if_neg (Nat.lt_irrefl 0), if_neg (Nat.lt_irrefl 0), e1, ec]
    refine ⟨if_neg (fun e => ?_), fun e => absurd e (by decide)⟩
    have e2 := e.2
    rw [sl_nil (by omega)] at e2
    exact absurd e2 (by decide)

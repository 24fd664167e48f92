/-! THE CLASS READS a cell, figures. -/
/-- what is known of a token that begins at f -/
def TK (tx : Nat → Nat) (N k f t g : Nat) : Prop := f ≤ N ∧ (f < N → 32 < tx f) ∧ k = tkk tx N f ∧ t = tkt tx N f ∧ g = tkg tx f t
theorem TK_nx {tx : Nat → Nat} {N p : Nat} (h : p ≤ N) : TK tx N (tkk tx N (tkf tx N p)) (tkf tx N p) (tkt tx N (tkf tx N p)) (tkg tx (tkf tx N p) (tkt tx N (tkf tx N p))) := ⟨(tkf_p h).2.1, (tkf_p h).2.2, rfl, rfl, rfl⟩
theorem TK_p {tx : Nat → Nat} {N k f t g : Nat} (h : TK tx N k f t g) : (k = 2 ∧ f < t ∧ t ≤ N ∧ (∀ j, f ≤ j → j < t → 32 < tx j ∧ tx j ≠ 59) ∧ (t < N → tx t ≤ 32 ∨ tx t = 59)) ∨ (k = 1 ∧ t = f + 1 ∧ f < N ∧ tx f = 59) ∨ (k = 0 ∧ f = N ∧ t = N) := by
  obtain ⟨h1, h2, h3, h4, h5⟩ := h
  by_cases c : f < N
  · by_cases c59 : tx f = 59
    · refine Or.inr (Or.inl ⟨?_, ?_, c, c59⟩)
      · rw [h3]; unfold tkk; rw [if_pos c, if_pos c59]
      · rw [h4]; exact tkt_l c c59
    · obtain ⟨a1, a2, a3, a4⟩ := tkt_w c (h2 c) c59
      refine Or.inl ⟨?_, by omega, by omega, fun j x y => a3 j x (by omega), fun x => ?_⟩
      · rw [h3]; unfold tkk; rw [if_pos c, if_neg c59]
      · rw [h4]; exact a4 (by omega)
  · have e : f = N := by omega
    refine Or.inr (Or.inr ⟨?_, e, ?_⟩)
    · rw [h3]; unfold tkk; rw [if_neg c]
    · rw [h4, e]; exact tkt_e
theorem TK_le {tx : Nat → Nat} {N k f t g : Nat} (h : TK tx N k f t g) : f ≤ t ∧ t ≤ N := by
  have h0 := h.1
  rcases TK_p h with ⟨_, a, b, _⟩ | ⟨_, a, b, _⟩ | ⟨_, a, b⟩ <;> omega
theorem TK_pos {tx : Nat → Nat} {N k f t g : Nat} (h : TK tx N k f t g) : ∀ j, f ≤ j → j < t → 32 < tx j := by
  intro j h1 h2
  rcases TK_p h with ⟨_, _, _, a, _⟩ | ⟨_, a, _, b⟩ | ⟨_, a, b⟩
  · exact (a j h1 h2).1
  · have : j = f := by omega
    rw [this]; omega
  · omega
theorem TK_g {tx : Nat → Nat} {N k f t g : Nat} (h : TK tx N k f t g) : f ≤ g ∧ g ≤ t ∧ (∀ j, g ≤ j → j < t → isD (tx j) = true) ∧ (f < g → isD (tx (g - 1)) = false) := by
  have hl := TK_le h
  obtain ⟨_, _, _, _, h5⟩ := h
  obtain ⟨a1, a2, a3, a4⟩ := fgs_p tx f (t - f)
  rw [h5]
  unfold tkg
  exact ⟨a1, by omega, fun j x y => a3 j x (by omega), a4⟩
/-- figures from a on: just when the last row of figures begins there -/
theorem g_iff {tx : Nat → Nat} {f t g a : Nat} (hg : f ≤ g ∧ g ≤ t ∧ (∀ j, g ≤ j → j < t → isD (tx j) = true) ∧ (f < g → isD (tx (g - 1)) = false)) (hf : f ≤ a) (ha : a < t) (hn : a = f ∨ isD (tx (a - 1)) = false) : (numv (sl tx a t)).isSome = true ↔ g = a := by
  obtain ⟨g1, g2, g3, g4⟩ := hg
  have ne : sl tx a t ≠ [] := fun e0 => by
    have := sl_len tx a t
    rw [e0] at this
    exact absurd this (by simp; omega)
  have all : (numv (sl tx a t)).isSome = true ↔ ∀ j, a ≤ j → j < t → isD (tx j) = true := by
    unfold numv
    rw [if_neg ne, nv_some, List.all_eq_true]
    constructor
    · intro h j h1 h2
      refine h (tx j) ?_
      unfold sl
      exact List.mem_map.mpr ⟨j - a, List.mem_range.mpr (by omega), by rw [show a + (j - a) = j by omega]⟩
    · intro h c hc
      obtain ⟨i, h1, h2, e⟩ := sl_mem hc
      rw [e]; exact h i h1 h2
  rw [all]
  constructor
  · intro h
    have le : g ≤ a := by
      apply Nat.le_of_not_lt
      intro hlt
      have := g4 (by omega)
      rw [h (g - 1) (by omega) (by omega)] at this
      exact absurd this (by decide)
    rcases hn with e | e
    · omega
    · apply Nat.le_antisymm le
      apply Nat.le_of_not_lt
      intro hlt
      rw [g3 (a - 1) (by omega) (by omega)] at e
      exact absurd e (by decide)
  · intro h j h1 h2
    exact g3 j (by omega) h2
theorem sl_nil {tx : Nat → Nat} {a t : Nat} (h : t ≤ a) : sl tx a t = [] := List.eq_nil_of_length_eq_zero (by rw [sl_len]; omega)
theorem sl_one {tx : Nat → Nat} {f : Nat} : sl tx f (f + 1) = [tx f] := by
  unfold sl
  rw [show f + 1 - f = 1 by omega]
  rfl
theorem wd_ne : ∀ s, s < 48 → wd s ≠ [] ∧ wd s ≠ [59] := by decide +kernel
theorem sw_word {tx : Nat → Nat} {N k f t g s : Nat} (h : TK tx N k f t g) (hs : s < 48) (hk : k ≠ 2) : sl tx f t ≠ wd s := by
  rcases TK_p h with ⟨a, _⟩ | ⟨_, a, _, b⟩ | ⟨_, a, b⟩
  · exact absurd a hk
  · rw [a, sl_one, b]; exact fun e => (wd_ne s hs).2 e.symm
  · rw [sl_nil (by omega)]; exact fun e => (wd_ne s hs).1 e.symm
theorem is_word (I : Nat → Nat → Int32) (J : Nat → Nat → Int64) (T : Nat → Nat → Nat) (L : Nat) (C : Nat × Nat) {tx : Nat → Nat} {N k f t g s : Nat} (h : TX I 4 3 1 tx N) (hc : CK I k f t g) (hk : TK tx N k f t g) (hs : s < 48) : am_E 48 0 [.ref 2, .ref (2001 + s)] [] (am_W I J T L C) = some (.int (am_b01 (decide (sl tx f t = wd s))), (am_W I J T L C)) := by
  obtain ⟨c1, c2, c3, c4⟩ := hc
  have hl := TK_le hk
  rw [rg_48_0, c1]
  by_cases e : k = 2
  · rw [if_pos (show nI k = 2 by rw [e]; rfl), c2, c3, sp_ok _ _ _ _ _ h hs hl.1 hl.2, am_okb, am_vIi, rg_48_12]
    cases decide (sl tx f t = wd s) with
    | true => rw [if_neg (show ¬ am_b01 true = 0 by decide)]; rfl
    | false => rw [if_pos (show am_b01 false = 0 from rfl)]; rfl
  · have k3 : k < 3 := by rcases TK_p hk with ⟨a, _⟩ | ⟨a, _⟩ | ⟨a, _⟩ <;> omega
    rw [if_neg (show ¬ nI k = 2 from nb_ne (c := k) (n := 2) (by omega) (by decide) e), decide_eq_false (sw_word hk hs e)]
    rfl
theorem fig_some {tx : Nat → Nat} {N k f t g : Nat} (h : TK tx N k f t g) : (numv (sl tx f t)).isSome = (decide (k = 2) && decide (g = f)) := by
  rcases TK_p h with ⟨a, b, _⟩ | ⟨a, b, _, c⟩ | ⟨a, b, c⟩
  · have e := g_iff (TK_g h) (Nat.le_refl f) b (Or.inl rfl)
    rw [decide_eq_true a, Bool.true_and]
    by_cases hg : g = f
    · rw [decide_eq_true hg]; exact e.mpr hg
    · rw [decide_eq_false hg]
      cases hh : (numv (sl tx f t)).isSome with
      | false => rfl
      | true => exact absurd (e.mp hh) hg
  · rw [decide_eq_false (by omega), b, sl_one, c]; rfl
  · rw [decide_eq_false (by omega), sl_nil (by omega)]; rfl
theorem is_figs (I : Nat → Nat → Int32) (J : Nat → Nat → Int64) (T : Nat → Nat → Nat) (L : Nat) (C : Nat × Nat) {tx : Nat → Nat} {N k f t g : Nat} (hc : CK I k f t g) (hk : TK tx N k f t g) (hN : N ≤ 700) : am_E 49 0 [.ref 2] [] (am_W I J T L C) = some (.int (am_b01 (numv (sl tx f t)).isSome), (am_W I J T L C)) := by
  obtain ⟨c1, c2, c3, c4⟩ := hc
  have hl := TK_le hk
  have hg := TK_g hk
  rw [rg_49_0, c1, fig_some hk]
  have k3 : k < 3 := by rcases TK_p hk with ⟨a, _⟩ | ⟨a, _⟩ | ⟨a, _⟩ <;> omega
  by_cases e : k = 2
  · rw [if_pos (show nI k = 2 by rw [e]; rfl), c2, c4, decide_eq_true e, Bool.true_and]
    by_cases e2 : g = f
    · rw [if_pos (by rw [e2]), decide_eq_true e2]; rfl
    · rw [if_neg (fun h => e2 ((nI_eq (by omega) (by omega)).mp h)), decide_eq_false e2]; rfl
  · rw [if_neg (show ¬ nI k = 2 from nb_ne (c := k) (n := 2) (by omega) (by decide) e), decide_eq_false e]; rfl
def flt (I : Nat → Nat → Int32) (k p : Nat) : Nat → Nat → Int32 := am_up (am_up I 2 2 (nI k)) 2 3 (nI p)
theorem cl_fail (I : Nat → Nat → Int32) (J : Nat → Nat → Int64) (T : Nat → Nat → Nat) (L : Nat) (C : Nat × Nat) {k f : Nat} (h5 : I 2 5 = nI f) : am_E 45 0 [.ref 2, .int (nI k)] [] (am_W I J T L C) = some (.int 0, am_W (flt I k f) J T L C) := by
  rw [rg_45_0, h5]
  rfl
theorem cl_failAt (I : Nat → Nat → Int32) (J : Nat → Nat → Int64) (T : Nat → Nat → Nat) (L : Nat) (C : Nat × Nat) {k f : Nat} : am_E 46 0 [.ref 2, .int (nI k), .int (nI f)] [] (am_W I J T L C) = some (.int 0, am_W (flt I k f) J T L C) := rg_46_0 I J T L C (nI k) (nI f)
/-- the token behind t -/
def CN (I : Nat → Nat → Int32) (tx : Nat → Nat) (N t : Nat) : Prop := CK I (tkk tx N (tkf tx N t)) (tkf tx N t) (tkt tx N (tkf tx N t)) (tkg tx (tkf tx N t) (tkt tx N (tkf tx N t)))
def FG (I I1 : Nat → Nat → Int32) : Prop := ∀ q k, ¬ (q = 2 ∧ ((4 ≤ k ∧ k ≤ 7) ∨ k = 10 ∨ k = 11)) → I1 q k = I q k
def rff (tx : Nat → Nat) (f t mf most : Nat) : Nat := match numv (sl tx f t) with
  | none => 1
  | some v => if mf < t - f ∨ most < v then 2 else 0
theorem rd_figs (I : Nat → Nat → Int32) (J : Nat → Nat → Int64) (T : Nat → Nat → Nat) (L : Nat) (C : Nat × Nat) {tx : Nat → Nat} {N k f t g mf most : Nat} (h : TX I 4 3 1 tx N) (hc : CK I k f t g) (hk : TK tx N k f t g) (hmf : mf < 2 ^ 31) (hm : most < 2 ^ 31) : (rff tx f t mf most ≠ 0 ∧ am_E 60 0 [.ref 2, .int (nI mf), .int (nI most), .null, .null] [] (am_W I J T L C) = some (.int 0, am_W (flt I (rff tx f t mf most) f) J T L C)) ∨ (rff tx f t mf most = 0 ∧ ∃ I1, am_E 60 0 [.ref 2, .int (nI mf), .int (nI most), .null, .null] [] (am_W I J T L C) = some (.int 1, am_W I1 J T L C) ∧ I1 2 11 = nI (smv tx f t) ∧ CN I1 tx N t ∧ FG I I1) := by
  have hN := h.2.1
  have hl := TK_le hk
  have hc0 := hc
  obtain ⟨c1, c2, c3, c4⟩ := hc
  rw [rg_60_0, is_figs _ _ _ _ _ hc0 hk hN, am_okb, am_vIi, rg_60_2]
  cases hv : numv (sl tx f t) with
  | none =>
    have hs : rff tx f t mf most = 1 := by unfold rff; rw [hv]
    refine Or.inl ⟨by rw [hs]; decide, ?_⟩
    rw [if_pos (show am_b01 (none : Option Nat).isSome = 0 from rfl), hs]
    show Option.bind (am_E 45 0 [.ref 2, .int (nI 1)] [] _) _ = _
    rw [cl_fail _ _ _ _ _ c2, am_okb, am_vIi, rg_60_6]
    rfl
  | some v =>
    have hvl := numv_le hv
    have e : nI t - nI f = nI (t - f) := by
      have := nI_subl f (t - f)
      rw [show f + (t - f) = t by omega] at this
      exact this
    have t27 : rff tx f t mf most = 2 → ∀ y, am_E 60 27 [.ref 2, .int (nI mf), .int (nI most), .long y, .null] [] (am_W I J T L C) = some (.int 0, am_W (flt I (rff tx f t mf most) f) J T L C) := by
      intro hs y
      rw [rg_60_27, hs]
      show Option.bind (am_E 45 0 [.ref 2, .int (nI 2)] [] _) _ = _
      rw [cl_fail _ _ _ _ _ c2, am_okb, am_vIi, rg_60_30]
      rfl
    rw [Option.isSome_some, if_neg (show ¬ am_b01 true = 0 by decide), c2, c3, nu_ok _ _ _ _ _ h hl.2 (by omega), am_okb, am_vJl, rg_60_14, c2, c3, e, hv, nI_l hm]
    show (rff tx f t mf most ≠ 0 ∧ (if nI mf < nI (t - f) then _ else (if lg_cmp (lN v) (lN most) ≤ 0 then _ else _)) = _) ∨ (rff tx f t mf most = 0 ∧ ∃ I1, (if nI mf < nI (t - f) then _ else (if lg_cmp (lN v) (lN most) ≤ 0 then _ else _)) = _ ∧ _)
    by_cases d1 : mf < t - f
    · have hs : rff tx f t mf most = 2 := by unfold rff; rw [hv]; exact if_pos (Or.inl d1)
      refine Or.inl ⟨by rw [hs]; decide, ?_⟩
      rw [if_pos (nI_lt d1 (by omega))]
      exact t27 hs _
    · by_cases d2 : v ≤ most
      · have hs : rff tx f t mf most = 0 := by unfold rff; rw [hv]; exact if_neg (fun e => by rcases e with e | e <;> omega)
        refine Or.inr ⟨hs, ?_⟩
        have ha := ad_ok (am_up I 2 11 (nI v)) J T L C (p := t) h hl.2 c3
        obtain ⟨I1, e1, e2, e3⟩ := ha
        refine ⟨I1, ?_, ?_, e2, ?_⟩
        · rw [if_neg (nI_nlt (by omega) hmf), if_pos ((lg_cmp_le _ _).mpr ((pk_lLE (by omega) (by omega)).mpr d2))]
          show Option.bind (am_E 47 0 [.ref 2] [] (am_W (am_up I 2 11 (Int64.toInt32 (lN v))) J T L C)) _ = _
          rw [lN_i, e1, am_okb, rg_60_37]
        · rw [e3 2 11 (by omega), am_up_here]
          unfold smv
          rw [hv]
          rfl
        · intro q k' hq
          rw [e3 q k' (by omega), am_up_ne (by omega)]
      · have hs : rff tx f t mf most = 2 := by unfold rff; rw [hv]; exact if_pos (Or.inr (by omega))
        refine Or.inl ⟨by rw [hs]; decide, ?_⟩
        rw [if_neg (nI_nlt (by omega) hmf), if_neg (fun e => d2 ((pk_lLE (by omega) (by omega)).mp ((lg_cmp_le _ _).mp e)))]
        exact t27 hs _
/-- the kinds with one letter -/
def ltrd (c : Nat) : Nat → Nat → Option Nat
  | 0, _ => none
  | d + 1, k => if (wd 41).getD k 0 = c then some k else ltrd c d (k + 1)
def ltr (c : Nat) : Option Nat := ltrd c 9 0
def optI (o : Option Nat) : Int32 := match o with
  | some k => nI k
  | none => -1
theorem i8_ok : ∀ k, k < 9 → ∀ c, c < 256 → (nI ((wd 41).getD k 0) = (Int32.toInt8 (nI c)).toInt32 ↔ (wd 41).getD k 0 = c) := by decide +kernel
theorem u16_ok : ∀ c, c < 256 → (Int32.toUInt32 (nI c) % 65536).toInt32 = nI c := by decide +kernel
theorem len41 : (wd 41).length = 9 := by decide +kernel
theorem io_loop (I : Nat → Nat → Int32) (J : Nat → Nat → Int64) (T : Nat → Nat → Nat) (L : Nat) (C : Nat × Nat) {c : Nat} (hc : c < 256) : ∀ (d k : Nat), k + d = 9 → am_E 176 5 [.ref 3042, .int (nI c), .int (nI 0), .int (nI 9), .int (Int32.toInt8 (nI c)).toInt32, .int (nI k)] [] (am_W I J T L C) = some (.int (optI (ltrd c d k)), (am_W I J T L C)) := by
  intro d
  induction d with
  | zero =>
    intro k hk
    rw [rg_176_5, if_pos (nI_le (by omega) (by omega))]
    rfl
  | succ d ih =>
    intro k hk
    have e := ci_byt (s := 41) (by decide) (show k < (wd 41).length by rw [len41]; omega)
    have e' : am_cI 3042 k = nI ((wd 41).getD k 0) := e
    have s1 : am_SF L 3042 = (27, 9) := by
      have := sf_byt L (s := 41) (by decide)
      rw [len41] at this
      exact this
    rw [rg_176_5, if_neg (nI_ge (by omega) (by decide)), s1]
    show am_inb (nI k) 9 (if am_cI 3042 (nI k).toNatClampNeg = _ then _ else _) = _
    rw [am_inb_ok (by omega) (by decide), nI_clamp (by omega), e']
    have e2 : ltrd c (d + 1) k = if (wd 41).getD k 0 = c then some k else ltrd c d (k + 1) := rfl
    rw [e2]
    by_cases q : (wd 41).getD k 0 = c
    · rw [if_pos q, if_pos ((i8_ok k (by omega) c hc).mpr q)]
      rfl
    · rw [if_neg q, if_neg (fun h => q ((i8_ok k (by omega) c hc).mp h)), nI_1]
      exact ih (k + 1) (by omega)
theorem io_ok (I : Nat → Nat → Int32) (J : Nat → Nat → Int64) (T : Nat → Nat → Nat) (L : Nat) (C : Nat × Nat) {c : Nat} (hc : c < 256) : am_E 167 0 [.ref 2042, .int (nI c)] [] (am_W I J T L C) = some (.int (optI (ltr c)), (am_W I J T L C)) := by
  have s1 : am_SF L 3042 = (27, 9) := by
    have := sf_byt L (s := 41) (by decide)
    rw [len41] at this
    exact this
  have hlen : am_E 165 0 [.ref 2042] [] (am_W I J T L C) = some (.int (nI 9), (am_W I J T L C)) := by
    have := st_len I J T L C (s := 41) (by decide)
    rw [len41] at this
    exact this
  have e175 : am_E 175 0 [.ref 3042, .int (nI c), .int 0, .int (nI 9)] [] (am_W I J T L C) = some (.int (optI (ltr c)), (am_W I J T L C)) := by
    have e0 : am_E 174 0 [.int (nI c)] [] (am_W I J T L C) = some (.int 1, (am_W I J T L C)) := by
      rw [rg_174_0, if_neg (nI_pos (by omega)), if_neg (show ¬ (255 : Int32) < nI c from nI_nlt (a := 255) (b := c) (by omega) (by decide))]
    have e2 : am_E 162 0 [.int 0, .int 0] [] (am_W I J T L C) = some (.int 0, (am_W I J T L C)) := (rg_162_0 I J T L C 0 0).trans rfl
    have e3 : am_E 163 0 [.int (nI 9), .int (nI 9)] [] (am_W I J T L C) = some (.int (nI 9), (am_W I J T L C)) := (rg_163_0 I J T L C (nI 9) (nI 9)).trans rfl
    rw [rg_175_0, e0, am_okb, am_vIi, rg_175_2, if_neg (by decide +kernel), e2, am_okb, am_vIi, rg_175_8, s1]
    show Option.bind (am_E 163 0 [.int (nI 9), .int (nI 9)] [] _) _ = _
    rw [e3, am_okb, am_vIi, rg_175_13, if_pos (by decide +kernel)]
    show Option.bind (am_E 176 0 [.ref 3042, .int (nI c), .int (nI 0), .int (nI 9), .null, .null] [] _) _ = _
    rw [rg_176_0, io_loop _ _ _ _ _ hc 9 0 rfl, am_okb, am_vIi, rg_175_24]
    rfl
  have hlat : am_E 170 0 [.ref 2042] [] (am_W I J T L C) = some (.int 1, (am_W I J T L C)) := st_lat I J T L C (s := 41) (by decide)
  rw [rg_167_0, rg_168_0, hlat, am_okb, am_vIi, rg_168_2, if_neg (by decide +kernel), hlen, am_okb, am_vIi, rg_168_9]
  show Option.bind (Option.bind (am_E 175 0 [.ref 3042, .int (nI c), .int 0, .int (nI 9)] [] _) _) _ = _
  rw [e175, am_okb, am_vIi, rg_168_10, am_okb, am_vIi, rg_167_4]
/-- the kind that a word's letters tell -/
def kow (tx : Nat → Nat) (k f t g : Nat) : Option Nat := if k = 2 then (if g = t then none else if g = f then some 11 else if g - f = 1 then (if tx f = 45 then some 11 else ltr (tx f)) else if sl tx f g = wd 42 then some 9 else if sl tx f g = wd 43 then some 10 else none) else none
theorem rd_kind (I : Nat → Nat → Int32) (J : Nat → Nat → Int64) (T : Nat → Nat → Nat) (L : Nat) (C : Nat × Nat) {tx : Nat → Nat} {N k f t g : Nat} (h : TX I 4 3 1 tx N) (hc : CK I k f t g) (hk : TK tx N k f t g) : am_E 58 0 [.ref 2, .null] [] (am_W I J T L C) = some (.int (optI (kow tx k f t g)), (am_W I J T L C)) := by
  have hN := h.2.1
  obtain ⟨c1, c2, c3, c4⟩ := hc
  have hl := TK_le hk
  have hg := TK_g hk
  have k3 : k < 3 := by rcases TK_p hk with ⟨a, _⟩ | ⟨a, _⟩ | ⟨a, _⟩ <;> omega
  unfold kow
  rw [rg_58_0, c1]
  by_cases e : k = 2
  · rw [if_pos (show nI k = 2 by rw [e]; rfl), if_pos e, c4, c3, c2]
    by_cases e1 : g = t
    · rw [if_pos (by rw [e1]), if_pos e1]; rfl
    · rw [if_neg (fun h => e1 ((nI_eq (by omega) (by omega)).mp h)), if_neg e1]
      by_cases e2 : g = f
      · rw [if_pos (by rw [e2]), if_pos e2]; rfl
      · have es : nI g - nI f = nI (g - f) := by
          have := nI_subl f (g - f)
          rw [show f + (g - f) = g by omega] at this
          exact this
        rw [if_neg (fun h => e2 ((nI_eq (by omega) (by omega)).mp h)), if_neg e2, es]
        by_cases e3 : g - f = 1
        · have hx := (h.2.2 f (by omega)).2
          have eb : bya tx N f = tx f := if_pos (by omega)
          rw [if_pos (show nI (g - f) = 1 by rw [e3]; rfl), if_pos e3, by_at _ _ _ _ _ h (by omega), am_okb, am_vIi, rg_58_30, eb]
          by_cases e4 : tx f = 45
          · rw [if_pos (show nI (tx f) = 45 by rw [e4]; rfl), if_pos e4, rg_58_40]; rfl
          · rw [if_neg (show ¬ nI (tx f) = 45 from nb_ne (n := 45) hx (by decide) e4), if_neg e4, u16_ok _ hx, io_ok _ _ _ _ _ hx, am_okb, am_vIi, rg_58_40]
        · have s42 := sp_ok I J T L C (s := 42) (f := f) (t := g) h (by decide) hg.1 (by omega)
          have s43 := sp_ok I J T L C (s := 43) (f := f) (t := g) h (by decide) hg.1 (by omega)
          rw [if_neg (show ¬ nI (g - f) = 1 from fun h => e3 ((nI_eq (a := g - f) (b := 1) (by omega) (by decide)).mp h)), if_neg e3]
          show Option.bind (am_E 70 0 [.ref 3, .ref (2001 + 42), .int (nI f), .int (nI g), .null] [] _) _ = _
          rw [s42, am_okb, am_vIi, rg_58_49]
          by_cases e5 : sl tx f g = wd 42
          · rw [decide_eq_true e5, if_neg (show ¬ am_b01 true = 0 by decide), if_pos e5]; rfl
          · rw [decide_eq_false e5, if_pos (show am_b01 false = 0 from rfl), if_neg e5, c2, c4]
            show Option.bind (am_E 70 0 [.ref 3, .ref (2001 + 43), .int (nI f), .int (nI g), .null] [] _) _ = _
            rw [s43, am_okb, am_vIi, rg_58_60]
            by_cases e6 : sl tx f g = wd 43
            · rw [decide_eq_true e6, if_neg (show ¬ am_b01 true = 0 by decide), if_pos e6]; rfl
            · rw [decide_eq_false e6, if_pos (show am_b01 false = 0 from rfl), if_neg e6]; rfl
  · rw [if_neg (show ¬ nI k = 2 from nb_ne (c := k) (n := 2) (by omega) (by decide) e), if_neg e]; rfl

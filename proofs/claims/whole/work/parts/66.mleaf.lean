/-! THE MODEL'S LEAVES on the text. -/
def mfl (I : Nat → Nat → Int32) (k p : Int32) : Nat → Nat → Int32 := if I 49 3 = 0 then am_up (am_up I 49 3 k) 49 4 p else I
theorem mo_fail (I : Nat → Nat → Int32) (J : Nat → Nat → Int64) (T : Nat → Nat → Nat) (L : Nat) (C : Nat × Nat) (k p : Int32) : am_E 98 0 [.ref 49, .int k, .int p] [] (am_W I J T L C) = some (.null, am_W (mfl I k p) J T L C) := by
  rw [rg_98_0]
  unfold mfl
  by_cases h : I 49 3 = 0
  · rw [if_pos h, if_pos h]
  · rw [if_neg h, if_neg h]
theorem nv_some : ∀ (l : List Nat) (a : Nat), (nv l a).isSome = l.all isD := by
  intro l
  induction l with
  | nil => intro a; rfl
  | cons c r ih =>
    intro a
    show (if isD c = true then nv r (min (a * 10 + (c - 48)) 10000000000) else none).isSome = (isD c && r.all isD)
    cases isD c with
    | true => rw [if_pos rfl, ih]; rfl
    | false => rfl
theorem nv_le : ∀ (l : List Nat) (a v : Nat), a ≤ 10000000000 → nv l a = some v → v ≤ 10000000000 := by
  intro l
  induction l with
  | nil => intro a v h e; have := Option.some.inj e; omega
  | cons c r ih =>
    intro a v h e
    have e' : (if isD c = true then nv r (min (a * 10 + (c - 48)) 10000000000) else none) = some v := e
    cases hc : isD c with
    | true => rw [hc, if_pos rfl] at e'; exact ih _ _ (Nat.min_le_right _ _) e'
    | false => rw [hc, if_neg (by decide)] at e'; exact absurd e' (by simp)
theorem numv_le {l : List Nat} {v : Nat} (h : numv l = some v) : v ≤ 10000000000 := by
  unfold numv at h
  split at h
  · exact absurd h (by simp)
  · exact nv_le l 0 v (by decide) h
theorem mo_isF (I : Nat → Nat → Int32) (J : Nat → Nat → Int64) (T : Nat → Nat → Nat) (L : Nat) (C : Nat × Nat) {c : Nat} (h : c < 256) : am_E 103 0 [.int (nI c)] [] (am_W I J T L C) = some (.int (am_b01 (isD c)), (am_W I J T L C)) := by
  rw [rg_103_0]
  unfold isD
  by_cases c1 : 48 ≤ c
  · rw [if_neg (show ¬ nI c < 48 from nI_nlt (a := c) (b := 48) c1 (by omega)), decide_eq_true c1]
    by_cases c2 : c ≤ 57
    · rw [if_neg (show ¬ (57 : Int32) < nI c from nI_nlt (a := 57) (b := c) c2 (by decide)), decide_eq_true c2]; rfl
    · rw [if_pos (show (57 : Int32) < nI c from nI_lt (a := 57) (b := c) (by omega) (by omega)), decide_eq_false c2]; rfl
  · rw [if_pos (show nI c < 48 from nI_lt (a := c) (b := 48) (by omega) (by decide)), decide_eq_false c1]; rfl
theorem mo_figs1 (I : Nat → Nat → Int32) (J : Nat → Nat → Int64) (T : Nat → Nat → Nat) (L : Nat) (C : Nat × Nat) {tx : Nat → Nat} {N a b : Nat} (h : TX I 50 49 2 tx N) (hb : b ≤ N) : ∀ (d k : Nat) (s : Bool), k + d = b → a ≤ k → am_E 104 9 [.ref 49, .int (nI a), .int (nI b), .int (am_b01 s), .int (nI k)] [] (am_W I J T L C) = some (.int (am_b01 (s && ((sl tx a b).drop (k - a)).all isD)), (am_W I J T L C)) := by
  have hN := h.2.1
  intro d
  induction d with
  | zero =>
    intro k s hk ha
    have e1 : (sl tx a b).drop (k - a) = [] := List.drop_eq_nil_of_le (by rw [sl_len]; omega)
    rw [rg_104_9, if_pos (nI_le (by omega) (by omega)), am_b01_bit, e1]
    show some (Value.int (am_b01 s), _) = some (Value.int (am_b01 (s && true)), _)
    rw [Bool.and_true]
  | succ d ih =>
    intro k s hk ha
    obtain ⟨h50, hx⟩ := h.2.2 k (by omega)
    rw [drop_cons (l := sl tx a b) (by rw [sl_len]; omega), sl_get tx (by omega), show a + (k - a) = k by omega, show k - a + 1 = k + 1 - a by omega]
    show _ = some (Value.int (am_b01 (s && (isD (tx k) && ((sl tx a b).drop (k + 1 - a)).all isD))), _)
    rw [rg_104_9, if_neg (nI_ge (by omega) (by omega))]
    cases s with
    | false =>
      rw [if_pos (show am_b01 false = 0 from rfl), rg_104_22, nI_1]
      show am_E 104 9 [.ref 49, .int (nI a), .int (nI b), .int (am_b01 false), .int (nI (k + 1))] [] _ = _
      rw [ih (k + 1) false (by omega) (by omega)]
      rfl
    | true =>
      rw [if_neg (show ¬ am_b01 true = 0 by decide), am_inb_ok (by omega) (by decide), nI_clamp (by omega), h50, mo_isF _ _ _ _ _ hx, am_okb, am_vIi, rg_104_19]
      cases isD (tx k) with
      | false =>
        rw [if_pos (show am_b01 false = 0 from rfl), rg_104_22, nI_1]
        show am_E 104 9 [.ref 49, .int (nI a), .int (nI b), .int (am_b01 false), .int (nI (k + 1))] [] _ = _
        rw [ih (k + 1) false (by omega) (by omega)]
        rfl
      | true =>
        rw [if_neg (show ¬ am_b01 true = 0 by decide), nI_1]
        show am_E 104 9 [.ref 49, .int (nI a), .int (nI b), .int (am_b01 true), .int (nI (k + 1))] [] _ = _
        rw [ih (k + 1) true (by omega) (by omega)]
        rfl
theorem mo_figs (I : Nat → Nat → Int32) (J : Nat → Nat → Int64) (T : Nat → Nat → Nat) (L : Nat) (C : Nat × Nat) {tx : Nat → Nat} {N a b : Nat} (h : TX I 50 49 2 tx N) (hb : b ≤ N) (ha : a ≤ 2 ^ 30) : am_E 104 0 [.ref 49, .int (nI a), .int (nI b), .null, .null] [] (am_W I J T L C) = some (.int (am_b01 (numv (sl tx a b)).isSome), (am_W I J T L C)) := by
  have hN := h.2.1
  rw [rg_104_0]
  unfold numv
  by_cases c : a < b
  · have ne : sl tx a b ≠ [] := fun e0 => by
      have := sl_len tx a b
      rw [e0] at this
      exact absurd this (by simp; omega)
    rw [if_neg (nI_ge c (by omega)), if_neg ne, nv_some]
    have e := mo_figs1 I J T L C h hb (b - a) a true (by omega) (Nat.le_refl _)
    rw [Nat.sub_self] at e
    exact e
  · have e0 : sl tx a b = [] := List.eq_nil_of_length_eq_zero (by rw [sl_len]; omega)
    rw [if_pos (nI_le (by omega) (by omega)), if_pos e0, rg_104_9, if_pos (nI_le (by omega) (by omega))]
    rfl
theorem mo_val1 (I : Nat → Nat → Int32) (J : Nat → Nat → Int64) (T : Nat → Nat → Nat) (L : Nat) (C : Nat × Nat) {tx : Nat → Nat} {N a b v : Nat} (h : TX I 50 49 2 tx N) (hb : b ≤ N) : ∀ (d k u : Nat), k + d = b → a ≤ k → u ≤ 10000000000 → nv ((sl tx a b).drop (k - a)) u = some v → am_E 105 4 [.ref 49, .int (nI a), .int (nI b), .long (lN u), .null, .int (nI k)] [] (am_W I J T L C) = some (.long (lN v), (am_W I J T L C)) := by
  have hN := h.2.1
  intro d
  induction d with
  | zero =>
    intro k u hk ha hu hv
    have e1 : (sl tx a b).drop (k - a) = [] := List.drop_eq_nil_of_le (by rw [sl_len]; omega)
    rw [e1] at hv
    rw [rg_105_4, if_pos (nI_le (by omega) (by omega)), Option.some.inj hv]
  | succ d ih =>
    intro k u hk ha hu hv
    obtain ⟨h50, hx⟩ := h.2.2 k (by omega)
    rw [drop_cons (l := sl tx a b) (by rw [sl_len]; omega), sl_get tx (by omega), show a + (k - a) = k by omega, show k - a + 1 = k + 1 - a by omega] at hv
    have hv' : (if isD (tx k) = true then nv ((sl tx a b).drop (k + 1 - a)) (min (u * 10 + (tx k - 48)) 10000000000) else none) = some v := hv
    have hd : isD (tx k) = true := by
      cases c : isD (tx k) with
      | true => rfl
      | false => rw [c, if_neg (by decide)] at hv'; exact absurd hv' (by simp)
    rw [hd, if_pos rfl] at hv'
    have h48 : 48 ≤ tx k := by
      unfold isD at hd
      have := (Bool.and_eq_true _ _).mp hd
      exact of_decide_eq_true this.1
    have e10 : lN 10 * lN u + (nI (tx k)).toInt64 - lN 48 = lN (u * 10 + (tx k - 48)) := by
      rw [nI_l (by omega), lN_mul, lN_add, lN_sub (by omega)]
      congr 1
      omega
    rw [rg_105_4, if_neg (nI_ge (by omega) (by omega)), am_inb_ok (by omega) (by decide), nI_clamp (by omega), h50]
    show (if lg_cmp (lN 10 * lN u + (nI (tx k)).toInt64 - lN 48) (lN 10000000000) ≤ 0 then am_E 105 4 [.ref 49, .int (nI a), .int (nI b), .long (lN 10 * lN u + (nI (tx k)).toInt64 - lN 48), .null, .int (nI k + 1)] [] _ else am_E 105 4 [.ref 49, .int (nI a), .int (nI b), .long (lN 10000000000), .null, .int (nI k + 1)] [] _) = _
    rw [e10, nI_1]
    by_cases c : u * 10 + (tx k - 48) ≤ 10000000000
    · rw [if_pos ((lg_cmp_le _ _).mpr ((pk_lLE (by omega) (by decide)).mpr c))]
      rw [Nat.min_eq_left c] at hv'
      exact ih (k + 1) _ (by omega) (by omega) c hv'
    · rw [if_neg (fun e => c ((pk_lLE (by omega) (by decide)).mp ((lg_cmp_le _ _).mp e)))]
      rw [Nat.min_eq_right (by omega)] at hv'
      exact ih (k + 1) _ (by omega) (by omega) (Nat.le_refl _) hv'
theorem mo_val (I : Nat → Nat → Int32) (J : Nat → Nat → Int64) (T : Nat → Nat → Nat) (L : Nat) (C : Nat × Nat) {tx : Nat → Nat} {N a b v : Nat} (h : TX I 50 49 2 tx N) (hb : b ≤ N) (hv : numv (sl tx a b) = some v) : am_E 105 0 [.ref 49, .int (nI a), .int (nI b), .null, .null, .null] [] (am_W I J T L C) = some (.long (lN v), (am_W I J T L C)) := by
  unfold numv at hv
  have hab : a < b := by
    by_cases c : a < b
    · exact c
    · have e0 : sl tx a b = [] := List.eq_nil_of_length_eq_zero (by rw [sl_len]; omega)
      rw [if_pos e0] at hv
      exact absurd hv (by simp)
  split at hv
  · exact absurd hv (by simp)
  · rw [rg_105_0]
    exact mo_val1 I J T L C h hb (b - a) a 0 (by omega) (Nat.le_refl _) (by decide) (by rw [Nat.sub_self]; exact hv)
/-- a number of a cell, label or step: the fault and the value -/
def smf (tx : Nat → Nat) (a b most : Nat) : Nat := match numv (sl tx a b) with
  | none => 1
  | some v => if 2 < b - a ∨ most < v then 2 else 0
def smv (tx : Nat → Nat) (a b : Nat) : Nat := (numv (sl tx a b)).getD 0
def mfo (I : Nat → Nat → Int32) (k f : Nat) : Nat → Nat → Int32 := if k = 0 then I else mfl I (nI k) (nI f)
def mvo (k : Nat) (v : Int32) : Int32 := if k = 0 then v else -1
theorem mo_small (I : Nat → Nat → Int32) (J : Nat → Nat → Int64) (T : Nat → Nat → Nat) (L : Nat) (C : Nat × Nat) {tx : Nat → Nat} {N a b f most : Nat} (h : TX I 50 49 2 tx N) (hb : b ≤ N) (ha : a ≤ 2 ^ 30) (hf : I 49 25 = nI f) (hm : most < 2 ^ 31) : am_E 106 0 [.ref 49, .int (nI a), .int (nI b), .int (nI most)] [] (am_W I J T L C) = some (.int (mvo (smf tx a b most) (nI (smv tx a b))), am_W (mfo I (smf tx a b most) f) J T L C) := by
  have hN := h.2.1
  rw [rg_106_0, mo_figs _ _ _ _ _ h hb ha, am_okb, am_vIi, rg_106_4, hf]
  cases hv : numv (sl tx a b) with
  | none =>
    have hs : smf tx a b most = 1 := by unfold smf; rw [hv]
    rw [if_pos (show am_b01 (none : Option Nat).isSome = 0 from rfl), hs]
    show Option.bind (am_E 98 0 [.ref 49, .int (nI 1), .int (nI f)] [] _) _ = _
    rw [mo_fail, am_okb, rg_106_10]
    rfl
  | some v =>
    have hab : a < b := by
      by_cases c : a < b
      · exact c
      · have e0 : sl tx a b = [] := List.eq_nil_of_length_eq_zero (by rw [sl_len]; omega)
        rw [e0] at hv
        have hv2 : (none : Option Nat) = some v := hv
        exact absurd hv2 (by simp)
    have hvl := numv_le hv
    have e : nI b - nI a = nI (b - a) := by
      have := nI_subl a (b - a)
      rw [show a + (b - a) = b by omega] at this
      exact this
    have t25 : am_E 106 25 [.ref 49, .int (nI a), .int (nI b), .int (nI most)] [] (am_W I J T L C) = some (.int (-1), am_W (mfl I (nI 2) (nI f)) J T L C) := by
      rw [rg_106_25, hf]
      show Option.bind (am_E 98 0 [.ref 49, .int (nI 2), .int (nI f)] [] _) _ = _
      rw [mo_fail, am_okb, rg_106_30]
    have hvv : smv tx a b = v := by unfold smv; rw [hv]; rfl
    rw [Option.isSome_some, if_neg (show ¬ am_b01 true = 0 by decide), e, hvv]
    show (if nI 2 < nI (b - a) then _ else _) = _
    by_cases c1 : 2 < b - a
    · have hs : smf tx a b most = 2 := by unfold smf; rw [hv]; exact if_pos (Or.inl c1)
      rw [if_pos (nI_lt c1 (by omega)), t25, hs]
      rfl
    · rw [if_neg (nI_nlt (by omega) (by decide)), mo_val _ _ _ _ _ h hb hv, am_okb, am_vJl, rg_106_21, nI_l hm]
      by_cases c2 : v ≤ most
      · have hs : smf tx a b most = 0 := by unfold smf; rw [hv]; exact if_neg (fun e => by rcases e with e | e <;> omega)
        rw [if_pos ((lg_cmp_le _ _).mpr ((pk_lLE (by omega) (by omega)).mpr c2)), mo_val _ _ _ _ _ h hb hv, am_okb, am_vJl, rg_106_36, lN_i, hs]
        rfl
      · have hs : smf tx a b most = 2 := by unfold smf; rw [hv]; exact if_pos (Or.inr (by omega))
        rw [if_neg (fun e => c2 ((pk_lLE (by omega) (by omega)).mp ((lg_cmp_le _ _).mp e))), t25, hs]
        rfl
def grf (tx : Nat → Nat) (a b most : Nat) : Nat := match numv (sl tx a b) with
  | none => 1
  | some v => if most < v then 2 else 0
theorem mo_great (I : Nat → Nat → Int32) (J : Nat → Nat → Int64) (T : Nat → Nat → Nat) (L : Nat) (C : Nat × Nat) {tx : Nat → Nat} {N a b f most : Nat} (h : TX I 50 49 2 tx N) (hb : b ≤ N) (ha : a ≤ 2 ^ 30) (hf : I 49 25 = nI f) (ht : I 49 26 = nI b) (hm : most < 2 ^ 31) : am_E 107 0 [.ref 49, .int (nI a), .int (nI most)] [] (am_W I J T L C) = some (.int (mvo (grf tx a b most) (nI (smv tx a b))), am_W (mfo I (grf tx a b most) f) J T L C) := by
  have hN := h.2.1
  rw [rg_107_0, ht, mo_figs _ _ _ _ _ h hb ha, am_okb, am_vIi, rg_107_5, hf, ht]
  cases hv : numv (sl tx a b) with
  | none =>
    have hs : grf tx a b most = 1 := by unfold grf; rw [hv]
    rw [if_pos (show am_b01 (none : Option Nat).isSome = 0 from rfl), hs]
    show Option.bind (am_E 98 0 [.ref 49, .int (nI 1), .int (nI f)] [] _) _ = _
    rw [mo_fail, am_okb, rg_107_11]
    rfl
  | some v =>
    have hvl := numv_le hv
    have hvv : smv tx a b = v := by unfold smv; rw [hv]; rfl
    rw [Option.isSome_some, if_neg (show ¬ am_b01 true = 0 by decide), mo_val _ _ _ _ _ h hb hv, am_okb, am_vJl, rg_107_18, nI_l hm, ht, hf, hvv]
    by_cases c2 : v ≤ most
    · have hs : grf tx a b most = 0 := by unfold grf; rw [hv]; exact if_neg (by omega)
      rw [if_pos ((lg_cmp_le _ _).mpr ((pk_lLE (by omega) (by omega)).mpr c2)), mo_val _ _ _ _ _ h hb hv, am_okb, am_vJl, rg_107_34, lN_i, hs]
      rfl
    · have hs : grf tx a b most = 2 := by unfold grf; rw [hv]; exact if_pos (by omega)
      rw [if_neg (fun e => c2 ((pk_lLE (by omega) (by omega)).mp ((lg_cmp_le _ _).mp e))), hs]
      show Option.bind (am_E 98 0 [.ref 49, .int (nI 2), .int (nI f)] [] _) _ = _
      rw [mo_fail, am_okb, rg_107_27]
      rfl
theorem mo_byte (I : Nat → Nat → Int32) (J : Nat → Nat → Int64) (T : Nat → Nat → Nat) (L : Nat) (C : Nat × Nat) {tx : Nat → Nat} {N t k : Nat} (h : TX I 50 49 2 tx N) (ht : I 49 26 = nI t) (htN : t ≤ N) (hk : k < 2 ^ 31) : am_E 108 0 [.ref 49, .int (nI k)] [] (am_W I J T L C) = some (.int (nI (bya tx t k)), (am_W I J T L C)) := by
  have hN := h.2.1
  rw [rg_108_0, ht]
  unfold bya
  by_cases c : k < t
  · rw [if_neg (nI_ge c (by omega)), am_inb_ok (by omega) (by decide), nI_clamp hk, (h.2.2 k (by omega)).1, if_pos c]
  · rw [if_pos (nI_le (by omega) hk), if_neg c]
    rfl
/-- the kind that the first letters tell, in the model's numbers -/
def cki (c d : Nat) : Nat := if c = 84 then (if d = 69 then 6 else 5) else if c = 67 then (if d = 86 then 8 else 7) else if c = 73 then 1 else if c = 81 then 2 else if c = 77 then 3 else if c = 87 then 4 else if c = 88 then 9 else 0
theorem nb_ne {c n : Nat} (hc : c < 256) (hn : n < 256) (h : c ≠ n) : ¬ nI c = nI n := fun e => h ((nI_eq (by omega) (by omega)).mp e)
theorem mo_cki1 (I : Nat → Nat → Int32) (J : Nat → Nat → Int64) (T : Nat → Nat → Nat) (L : Nat) (C : Nat × Nat) (v2 : Value) {c d : Nat} (hc : c < 256) (hd : d < 256) : am_E 109 11 [.ref 49, .int (nI c), v2] [.int (nI d)] (am_W I J T L C) = some (.int (nI (cki c d)), (am_W I J T L C)) := by
  rw [rg_109_11]
  unfold cki
  by_cases c1 : c = 84
  · rw [if_pos (show nI c = 84 by rw [c1]; rfl), if_pos c1]
    by_cases d1 : d = 69
    · rw [if_pos (show nI d = 69 by rw [d1]; rfl), if_pos d1]; rfl
    · rw [if_neg (show ¬ nI d = 69 from nb_ne (n := 69) hd (by decide) d1), if_neg d1]; rfl
  rw [if_neg (show ¬ nI c = 84 from nb_ne (n := 84) hc (by decide) c1), if_neg c1]
  by_cases c2 : c = 67
  · rw [if_pos (show nI c = 67 by rw [c2]; rfl), if_pos c2]
    by_cases d1 : d = 86
    · rw [if_pos (show nI d = 86 by rw [d1]; rfl), if_pos d1]; rfl
    · rw [if_neg (show ¬ nI d = 86 from nb_ne (n := 86) hd (by decide) d1), if_neg d1]; rfl
  rw [if_neg (show ¬ nI c = 67 from nb_ne (n := 67) hc (by decide) c2), if_neg c2]
  by_cases e0 : c = 73
  · rw [if_pos (show nI c = 73 by rw [e0]; rfl), if_pos e0]; rfl
  rw [if_neg (show ¬ nI c = 73 from nb_ne (n := 73) hc (by decide) e0), if_neg e0]
  by_cases e1 : c = 81
  · rw [if_pos (show nI c = 81 by rw [e1]; rfl), if_pos e1]; rfl
  rw [if_neg (show ¬ nI c = 81 from nb_ne (n := 81) hc (by decide) e1), if_neg e1]
  by_cases e2 : c = 77
  · rw [if_pos (show nI c = 77 by rw [e2]; rfl), if_pos e2]; rfl
  rw [if_neg (show ¬ nI c = 77 from nb_ne (n := 77) hc (by decide) e2), if_neg e2]
  by_cases e3 : c = 87
  · rw [if_pos (show nI c = 87 by rw [e3]; rfl), if_pos e3]; rfl
  rw [if_neg (show ¬ nI c = 87 from nb_ne (n := 87) hc (by decide) e3), if_neg e3]
  by_cases e4 : c = 88
  · rw [if_pos (show nI c = 88 by rw [e4]; rfl), if_pos e4]; rfl
  rw [if_neg (show ¬ nI c = 88 from nb_ne (n := 88) hc (by decide) e4), if_neg e4]
  rfl
theorem bya_lt {tx : Nat → Nat} {N k : Nat} (h : ∀ i, i < 700 → tx i < 256) (hN : N ≤ 700) : bya tx N k < 256 := by
  unfold bya
  split
  · exact h k (by omega)
  · decide
theorem TX_lt {I : Nat → Nat → Int32} {q s k : Nat} {tx : Nat → Nat} {N : Nat} (h : TX I q s k tx N) : ∀ i, i < 700 → tx i < 256 := fun i hi => (h.2.2 i hi).2
theorem mo_cki (I : Nat → Nat → Int32) (J : Nat → Nat → Int64) (T : Nat → Nat → Nat) (L : Nat) (C : Nat × Nat) {tx : Nat → Nat} {N f t : Nat} (h : TX I 50 49 2 tx N) (hf : I 49 25 = nI f) (ht : I 49 26 = nI t) (htN : t ≤ N) (hft : f ≤ t) : am_E 109 0 [.ref 49, .null, .null] [] (am_W I J T L C) = some (.int (nI (cki (bya tx t f) (bya tx t (f + 1)))), (am_W I J T L C)) := by
  have hN := h.2.1
  rw [rg_109_0, hf, mo_byte _ _ _ _ _ h ht htN (by omega), am_okb, am_vIi, rg_109_4, hf, nI_1, mo_byte _ _ _ _ _ h ht htN (by omega), am_okb, am_vIi]
  exact mo_cki1 I J T L C .null (bya_lt (TX_lt h) (by omega)) (bya_lt (TX_lt h) (by omega))
/-- the bytes of a word as one number -/
def cval : List Nat → Nat
  | [] => 0
  | c :: r => c + 256 * cval r
theorem cval_lt : ∀ (l : List Nat), (∀ c, c ∈ l → c < 256) → cval l < 256 ^ l.length := by
  intro l
  induction l with
  | nil => intro _; decide
  | cons c r ih =>
    intro h
    have h1 := ih (fun x hx => h x (List.mem_cons_of_mem _ hx))
    have h2 := h c List.mem_cons_self
    show c + 256 * cval r < 256 ^ (r.length + 1)
    rw [Nat.pow_succ]
    omega
theorem cb_step {y c : Nat} (hy : y < 2 ^ 56) (hc : c < 256) : (lN y <<< (Int32.toInt64 8 &&& 63)) ||| (nI c).toInt64 = lN (c + 256 * y) := by
  have e8 : (Int32.toInt64 8 &&& 63) = 8 := by decide +kernel
  rw [e8, nI_l (by omega)]
  apply Int64.toBitVec_inj.mp
  have t : ∀ n, (lN n).toBitVec = BitVec.ofNat 64 n := fun _ => rfl
  have s8 : (8 : Int64).toBitVec.smod 64 = BitVec.ofNat 64 8 := by decide +kernel
  rw [Int64.toBitVec_or, Int64.toBitVec_shiftLeft, t, t, t, s8]
  apply BitVec.eq_of_toNat_eq
  rw [BitVec.toNat_or, BitVec.shiftLeft_eq', BitVec.toNat_shiftLeft, BitVec.toNat_ofNat, BitVec.toNat_ofNat, BitVec.toNat_ofNat, BitVec.toNat_ofNat, Nat.mod_eq_of_lt (by omega : y < 2 ^ 64), Nat.mod_eq_of_lt (by omega : c < 2 ^ 64), Nat.mod_eq_of_lt (by decide : 8 < 2 ^ 64), Nat.mod_eq_of_lt (by omega : c + 256 * y < 2 ^ 64), Nat.shiftLeft_eq, Nat.mod_eq_of_lt (by omega : y * 2 ^ 8 < 2 ^ 64), ← Nat.shiftLeft_eq, ← Nat.shiftLeft_add_eq_or_of_lt (by omega : c < 2 ^ 8), Nat.shiftLeft_eq]
  omega
def cod (tx : Nat → Nat) (f t : Nat) : Nat := if t - f ≤ 8 then cval (sl tx f t) else 0
theorem sl_mem {tx : Nat → Nat} {f t c : Nat} (h : c ∈ sl tx f t) : ∃ i, f ≤ i ∧ i < t ∧ c = tx i := by
  unfold sl at h
  obtain ⟨k, hk, e⟩ := List.mem_map.mp h
  have := List.mem_range.mp hk
  exact ⟨f + k, by omega, by omega, e.symm⟩
theorem nI_pm1 {n : Nat} (h : 0 < n) : nI n + (-1) = nI (n - 1) := by
  rw [← Int32.sub_eq_add_neg]; exact nI_m1 h
theorem nI_end {f : Nat} (h : f < 2 ^ 31) : nI f - 1 < nI f := by
  by_cases c : f = 0
  · subst c; decide +kernel
  · rw [nI_m1 (by omega)]; exact nI_lt (by omega) h
theorem mo_code1 (I : Nat → Nat → Int32) (J : Nat → Nat → Int64) (T : Nat → Nat → Nat) (L : Nat) (C : Nat × Nat) {tx : Nat → Nat} {N f t : Nat} (h : TX I 50 49 2 tx N) (hf : I 49 25 = nI f) (ht : I 49 26 = nI t) (htN : t ≤ N) (hft : f ≤ t) (h8 : t - f ≤ 8) : ∀ (d : Nat), f + d ≤ t → am_E 102 7 [.ref 49, .long (lN (cval ((sl tx f t).drop d))), .null, .int (nI (f + d) - 1)] [] (am_W I J T L C) = some (.long (lN (cval (sl tx f t))), (am_W I J T L C)) := by
  have hN := h.2.1
  intro d
  induction d with
  | zero =>
    intro hd
    rw [rg_102_7, hf, if_pos (show nI (f + 0) - 1 < nI f from nI_end (f := f) (by omega))]
    rfl
  | succ d ih =>
    intro hd
    obtain ⟨h50, hx⟩ := h.2.2 (f + d) (by omega)
    have e1 : nI (f + (d + 1)) - 1 = nI (f + d) := nI_m1 (by omega)
    have e : nI t - nI f = nI (t - f) := by
      have := nI_subl f (t - f)
      rw [show f + (t - f) = t by omega] at this
      exact this
    have hl : cval ((sl tx f t).drop (d + 1)) < 2 ^ 56 := by
      have h1 := cval_lt ((sl tx f t).drop (d + 1)) (fun c hc => by
        obtain ⟨i, _, hi, e⟩ := sl_mem (List.mem_of_mem_drop hc)
        rw [e]; exact (h.2.2 i (by omega)).2)
      rw [List.length_drop, sl_len] at h1
      have h2 : 256 ^ (t - f - (d + 1)) ≤ 256 ^ 7 := Nat.pow_le_pow_right (by decide) (by omega)
      have h3 : (256 : Nat) ^ 7 = 2 ^ 56 := by decide
      omega
    have e2 : nI (f + d) + (-1) = nI (f + d) - 1 := (Int32.sub_eq_add_neg _ _).symm
    rw [rg_102_7, hf, ht, e1, if_neg (nI_nlt (by omega) (by omega)), e, if_neg (show ¬ (8 : Int32) < nI (t - f) from nI_nlt (a := 8) (b := t - f) h8 (by decide)), am_inb_ok (by omega) (by decide), nI_clamp (by omega), h50, cb_step hl hx, e2, ← ih (by omega), drop_cons (l := sl tx f t) (k := d) (by rw [sl_len]; omega), sl_get tx (by omega)]
    rfl
theorem mo_code (I : Nat → Nat → Int32) (J : Nat → Nat → Int64) (T : Nat → Nat → Nat) (L : Nat) (C : Nat × Nat) {tx : Nat → Nat} {N f t : Nat} (h : TX I 50 49 2 tx N) (hf : I 49 25 = nI f) (ht : I 49 26 = nI t) (htN : t ≤ N) (hft : f ≤ t) : am_E 102 0 [.ref 49, .null, .null, .null] [] (am_W I J T L C) = some (.long (lN (cod tx f t)), (am_W I J T L C)) := by
  have hN := h.2.1
  unfold cod
  rw [rg_102_0, ht]
  by_cases h8 : t - f ≤ 8
  · rw [if_pos h8]
    have e := mo_code1 I J T L C h hf ht htN hft h8 (t - f) (by omega)
    rw [show f + (t - f) = t by omega, List.drop_eq_nil_of_le (by rw [sl_len]; omega)] at e
    exact e
  · have e : nI t - nI f = nI (t - f) := by
      have := nI_subl f (t - f)
      rw [show f + (t - f) = t by omega] at this
      exact this
    rw [if_neg h8, rg_102_7, hf, ht, nI_m1 (by omega), if_neg (nI_nlt (by omega) (by omega)), e, if_pos (show (8 : Int32) < nI (t - f) from nI_lt (a := 8) (b := t - f) (by omega) (by omega))]
    rfl

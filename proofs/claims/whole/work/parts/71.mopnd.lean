/-! THE MODEL READS an operand, a lettered number, a label's word. -/
theorem bt_1 : ∀ k, k < 32 → am_bt 1 k = decide (k = 0) := by decide +kernel
theorem bt_b01 (b : Bool) {k : Nat} (hk : k < 32) : am_bt (am_b01 b) k = (b && decide (k = 0)) := by
  cases b with
  | false => exact bt_0 k hk
  | true => exact bt_1 k hk
theorem and_1 (x : Int32) : x &&& 1 = am_b01 (am_bt x 0) := by
  refine bt_ext fun k hk => ?_
  rw [bt_and, bt_1 k hk, bt_b01 _ hk]
  by_cases h : k = 0
  · rw [h]
  · rw [decide_eq_false h, Bool.and_false, Bool.and_false]
theorem mfo_ne (I : Nat → Nat → Int32) (k f : Nat) {q k' : Nat} (h : ¬ (q = 49 ∧ (k' = 3 ∨ k' = 4))) : mfo I k f q k' = I q k' := by
  unfold mfo mfl
  split
  · rfl
  · split
    · rw [am_up_ne (by omega), am_up_ne (by omega)]
    · rfl
theorem mfo_up (I : Nat → Nat → Int32) (k f : Nat) (a b : Nat) (u : Int32) (hab : ¬ (a = 49 ∧ (b = 3 ∨ b = 4))) {q k' : Nat} (h : ¬ (q = a ∧ k' = b)) : mfo (am_up I a b u) k f q k' = mfo I k f q k' := by
  unfold mfo mfl
  have e3 : am_up I a b u 49 3 = I 49 3 := am_up_ne (by omega)
  by_cases c : k = 0
  · rw [if_pos c, if_pos c, am_up_ne h]
  · rw [if_neg c, if_neg c, e3]
    by_cases c3 : I 49 3 = 0
    · rw [if_pos c3, if_pos c3, am_up_at, am_up_at, am_up_ne h, am_up_at, am_up_at]
    · rw [if_neg c3, if_neg c3, am_up_ne h]
theorem mo_most (I : Nat → Nat → Int32) (J : Nat → Nat → Int64) (T : Nat → Nat → Nat) (L : Nat) (C : Nat × Nat) {its : Nat} (h : its < 30) : am_E 110 0 [.int (nI its)] [] (am_W I J T L C) = some (.int (nI (mst its)), (am_W I J T L C)) := by
  rw [rg_110_0]
  unfold mst
  by_cases c5 : its < 5
  · rw [if_neg (show ¬ (5 : Int32) ≤ nI its from nI_ge (a := its) (b := 5) c5 (by decide)), if_pos c5]; rfl
  · rw [if_pos (show (5 : Int32) ≤ nI its from nI_le (a := 5) (b := its) (by omega) (by omega)), if_neg c5]
    by_cases c9 : its < 9
    · rw [if_neg (show ¬ (9 : Int32) ≤ nI its from nI_ge (a := its) (b := 9) c9 (by decide)), if_pos c9]; rfl
    · rw [if_pos (show (9 : Int32) ≤ nI its from nI_le (a := 9) (b := its) (by omega) (by omega)), if_neg c9]; rfl
theorem cki_lt (c d : Nat) : cki c d < 10 := by
  unfold cki
  repeat' split
  all_goals decide
theorem mo_opnd (I : Nat → Nat → Int32) (J : Nat → Nat → Int64) (T : Nat → Nat → Nat) (L : Nat) (C : Nat × Nat) {tx : Nat → Nat} {N k f t g : Nat} (may : Int32) (h : TX I 50 49 2 tx N) (hf : I 49 25 = nI f) (ht : I 49 26 = nI t) (hk : TK tx N k f t g) : ∃ I1, am_E 111 0 [.ref 49, .int may, .null, .null, .null, .null, .null] [] (am_W I J T L C) = some (.null, am_W I1 J T L C) ∧ (∀ q k', ¬ (q = 49 ∧ (k' = 28 ∨ k' = 29)) → I1 q k' = mfo I (mof tx f t may) f q k') ∧ (mof tx f t may = 0 → I1 49 28 = nI (cki (bya tx t f) (bya tx t (f + 1))) ∧ I1 49 29 = mov tx f t) := by
  have hN := h.2.1
  have hl := TK_le hk
  rw [rg_111_0, mo_cki _ _ _ _ _ h hf ht hl.2 hl.1, am_okb, am_vIi, rg_111_2]
  unfold mof mov
  have hc10 := cki_lt (bya tx t f) (bya tx t (f + 1))
  have hb0 := bya_lt (k := f) (TX_lt h) (show t ≤ 700 by omega)
  generalize hits : cki (bya tx t f) (bya tx t (f + 1)) = its at *
  by_cases c0 : 0 < its
  · rw [if_neg (nI_nle c0 (by omega)), bt_sar (by omega), if_pos c0, if_pos c0]
    cases hb : am_bt may its with
    | false =>
      rw [if_pos (show am_b01 false = 0 from rfl), if_neg (by decide)]
      refine ⟨mfl (am_up I 49 28 (nI its)) (nI 1) (nI f), ?_, ?_, fun e => absurd e (by decide)⟩
      · rw [hf]
        show Option.bind (am_E 98 0 [.ref 49, .int (nI 1), .int (nI f)] [] _) _ = _
        rw [mo_fail, am_okb, rg_111_19]
      · intro q k' hq
        exact mfo_up I 1 f 49 28 (nI its) (by decide) (by omega)
    | true =>
      have t33 : ∀ w : Nat, w < 3 → am_E 111 33 [.ref 49, .int may, .int (nI its), .null, .null, .null, .null] [.int (nI w), .int (nI f), .ref 49, .ref 49] (am_W (am_up I 49 28 (nI its)) J T L C) = some (.null, am_W (am_up (mfo (am_up I 49 28 (nI its)) (smf tx (f + w) t (mst its)) f) 49 29 (mvo (smf tx (f + w) t (mst its)) (nI (smv tx (f + w) t)))) J T L C) := by
        intro w hw
        have hms : mst its < 2 ^ 31 := by unfold mst; split; decide; split <;> decide
        have e26 : am_up I 49 28 (nI its) 49 26 = nI t := ht
        rw [rg_111_33, mo_most _ _ _ _ _ (by omega), am_okb, am_vIi, rg_111_38, nI_add, e26, mo_small (am_up I 49 28 (nI its)) J T L C (f := f) h hl.2 (by omega) hf hms, am_okb, am_vIi, rg_111_39]
      have fin : ∀ w : Nat, w = wof its → ∃ I1, some (Value.null, am_W (am_up (mfo (am_up I 49 28 (nI its)) (smf tx (f + w) t (mst its)) f) 49 29 (mvo (smf tx (f + w) t (mst its)) (nI (smv tx (f + w) t)))) J T L C) = some (Value.null, am_W I1 J T L C) ∧ (∀ q k', ¬ (q = 49 ∧ (k' = 28 ∨ k' = 29)) → I1 q k' = mfo I (if true = true then smf tx (f + wof its) t (mst its) else 1) f q k') ∧ ((if true = true then smf tx (f + wof its) t (mst its) else 1) = 0 → I1 49 28 = nI its ∧ I1 49 29 = nI (smv tx (f + wof its) t)) := by
        intro w hw
        rw [← hw, if_pos rfl]
        refine ⟨_, rfl, ?_, ?_⟩
        · intro q k' hq
          rw [am_up_ne (by omega), mfo_up _ _ _ _ _ _ (by decide) (by omega)]
        · intro hz
          refine ⟨?_, ?_⟩
          · rw [am_up_ne (by decide), mfo_ne _ _ _ (by decide), am_up_here]
          · rw [am_up_here, hz]; rfl
      rw [if_neg (show ¬ am_b01 true = 0 by decide), hf]
      by_cases c6 : its = 6
      · rw [if_pos (show nI its = 6 by rw [c6]; rfl), rg_111_30]
        show ∃ I1, am_E 111 33 [.ref 49, .int may, .int (nI its), .null, .null, .null, .null] [.int (nI 2), .int (nI f), .ref 49, .ref 49] _ = _ ∧ _
        rw [t33 2 (by decide)]
        exact fin 2 (by unfold wof; rw [if_pos (Or.inl c6)])
      · rw [if_neg (show ¬ nI its = 6 from nb_ne (c := its) (n := 6) (by omega) (by decide) c6)]
        by_cases c8 : its = 8
        · rw [if_pos (show nI its = 8 by rw [c8]; rfl), rg_111_30]
          show ∃ I1, am_E 111 33 [.ref 49, .int may, .int (nI its), .null, .null, .null, .null] [.int (nI 2), .int (nI f), .ref 49, .ref 49] _ = _ ∧ _
          rw [t33 2 (by decide)]
          exact fin 2 (by unfold wof; rw [if_pos (Or.inr c8)])
        · rw [if_neg (show ¬ nI its = 8 from nb_ne (c := its) (n := 8) (by omega) (by decide) c8)]
          show ∃ I1, am_E 111 33 [.ref 49, .int may, .int (nI its), .null, .null, .null, .null] [.int (nI 1), .int (nI f), .ref 49, .ref 49] _ = _ ∧ _
          rw [t33 1 (by decide)]
          exact fin 1 (by unfold wof; rw [if_neg (by omega)])
  · have e0 : its = 0 := by omega
    subst e0
    rw [if_pos (show nI 0 ≤ (0 : Int32) by decide +kernel), if_neg c0, if_neg c0, hf, mo_byte (am_up I 49 28 (nI 0)) J T L C h ht hl.2 (by omega), am_okb, am_vIi, rg_111_45]
    generalize bya tx t f = c at *
    have t60 : ∀ (x3 : Int32) (a : Nat), a = f + mns c → (x3 = am_b01 (decide (c = 45))) → ∃ I1, am_E 111 60 [.ref 49, .int may, .int (nI 0), .int x3, .null, .null, .null] [.int (nI a)] (am_W (am_up I 49 28 (nI 0)) J T L C) = some (.null, am_W I1 J T L C) ∧ (∀ q k', ¬ (q = 49 ∧ (k' = 28 ∨ k' = 29)) → I1 q k' = mfo I (if am_bt may 0 = true ∧ (numv (sl tx (f + mns c) t)).isSome = true then (if rgo (mny tx f t c) = true then 2 else 0) else 1) f q k') ∧ ((if am_bt may 0 = true ∧ (numv (sl tx (f + mns c) t)).isSome = true then (if rgo (mny tx f t c) = true then 2 else 0) else 1) = 0 → I1 49 28 = nI 0 ∧ I1 49 29 = Int64.toInt32 (mny tx f t c)) := by
      intro x3 a ha hx3
      have ha31 : a ≤ 2 ^ 30 := by unfold mns at ha; split at ha <;> omega
      rw [← ha]
      have t71 : ∀ v5 v6, am_E 111 71 [.ref 49, .int may, .int (nI 0), .int x3, .int (nI a), v5, v6] [] (am_W (am_up I 49 28 (nI 0)) J T L C) = some (.null, am_W (mfl (am_up I 49 28 (nI 0)) (nI 1) (nI f)) J T L C) := by
        intro v5 v6
        rw [rg_111_71]
        show Option.bind (am_E 98 0 [.ref 49, .int (nI 1), .int (I 49 25)] [] _) _ = _
        rw [hf, mo_fail, am_okb, rg_111_76]
      have bad : ∃ I1, some (Value.null, am_W (mfl (am_up I 49 28 (nI 0)) (nI 1) (nI f)) J T L C) = some (Value.null, am_W I1 J T L C) ∧ (∀ q k', ¬ (q = 49 ∧ (k' = 28 ∨ k' = 29)) → I1 q k' = mfo I 1 f q k') ∧ (1 = 0 → I1 49 28 = nI 0 ∧ I1 49 29 = Int64.toInt32 (mny tx f t c)) := by
        refine ⟨_, rfl, ?_, fun e => absurd e (by decide)⟩
        intro q k' hq
        exact mfo_up I 1 f 49 28 (nI 0) (by decide) (by omega)
      rw [rg_111_60, and_1]
      cases hb : am_bt may 0 with
      | false =>
        rw [if_pos (show am_b01 false = 0 from rfl), t71, if_neg (fun e => absurd e.1 (by decide))]
        exact bad
      | true =>
        have e26 : am_up I 49 28 (nI 0) 49 26 = nI t := ht
        rw [if_neg (show ¬ am_b01 true = 0 by decide), e26, mo_figs (am_up I 49 28 (nI 0)) J T L C h hl.2 ha31, am_okb, am_vIi, rg_111_70]
        cases hv : numv (sl tx a t) with
        | none =>
          rw [if_pos (show am_b01 (none : Option Nat).isSome = 0 from rfl), t71, if_neg (fun e => absurd e.2 (by decide))]
          exact bad
        | some v =>
          have hy : mny tx f t c = if c = 45 then -(lN v) else lN v := by
            unfold mny cnv
            rw [← ha, hv]; rfl
          have t91 : ∀ y, y = mny tx f t c → ∃ I1, am_E 111 91 [.ref 49, .int may, .int (nI 0), .int x3, .int (nI a), .null, .null] [.long y] (am_W (am_up I 49 28 (nI 0)) J T L C) = some (.null, am_W I1 J T L C) ∧ (∀ q k', ¬ (q = 49 ∧ (k' = 28 ∨ k' = 29)) → I1 q k' = mfo I (if rgo (mny tx f t c) = true then 2 else 0) f q k') ∧ ((if rgo (mny tx f t c) = true then 2 else 0) = 0 → I1 49 28 = nI 0 ∧ I1 49 29 = Int64.toInt32 (mny tx f t c)) := by
            intro y hy
            rw [← hy, rg_111_91]
            unfold rgo
            have t100 : am_E 111 100 [.ref 49, .int may, .int (nI 0), .int x3, .int (nI a), .long y, .null] [] (am_W (am_up I 49 28 (nI 0)) J T L C) = some (.null, am_W (am_up (mfl (am_up I 49 28 (nI 0)) (nI 2) (nI f)) 49 29 (Int64.toInt32 y)) J T L C) := by
              rw [rg_111_100]
              show Option.bind (am_E 98 0 [.ref 49, .int (nI 2), .int (I 49 25)] [] _) _ = _
              rw [hf, mo_fail, am_okb, rg_111_105]
            have bad2 : ∃ I1, some (Value.null, am_W (am_up (mfl (am_up I 49 28 (nI 0)) (nI 2) (nI f)) 49 29 (Int64.toInt32 y)) J T L C) = some (Value.null, am_W I1 J T L C) ∧ (∀ q k', ¬ (q = 49 ∧ (k' = 28 ∨ k' = 29)) → I1 q k' = mfo I 2 f q k') ∧ (2 = 0 → I1 49 28 = nI 0 ∧ I1 49 29 = Int64.toInt32 y) := by
              refine ⟨_, rfl, ?_, fun e => absurd e (by decide)⟩
              intro q k' hq
              rw [am_up_ne (by omega)]
              exact mfo_up I 2 f 49 28 (nI 0) (by decide) (by omega)
            by_cases d1 : lg_cmp y (-2147483648) < 0
            · rw [if_pos d1, if_pos d1, if_pos rfl, t100]
              exact bad2
            · rw [if_neg d1, if_neg d1]
              by_cases d2 : lg_cmp y 2147483647 ≤ 0
              · rw [if_pos d2, if_pos d2, if_neg (by decide), rg_111_105]
                refine ⟨_, rfl, ?_, fun _ => ⟨rfl, rfl⟩⟩
                intro q k' hq
                rw [am_up_ne (by omega), am_up_ne (by omega)]
                rfl
              · rw [if_neg d2, if_neg d2, if_pos rfl, t100]
                exact bad2
          rw [Option.isSome_some, if_neg (show ¬ am_b01 true = 0 by decide), if_pos (show true = true ∧ true = true from ⟨rfl, rfl⟩), hx3, e26]
          by_cases c45 : c = 45
          · rw [decide_eq_true c45, if_neg (show ¬ am_b01 true = 0 by decide), mo_val (am_up I 49 28 (nI 0)) J T L C h hl.2 hv, am_okb, am_vJl, rg_111_84]
            rw [if_pos c45] at hy
            rw [decide_eq_true c45] at hx3
            rw [← hx3]
            exact t91 _ hy.symm
          · rw [decide_eq_false c45, if_pos (show am_b01 false = 0 from rfl), mo_val (am_up I 49 28 (nI 0)) J T L C h hl.2 hv, am_okb, am_vJl]
            rw [if_neg c45] at hy
            rw [decide_eq_false c45] at hx3
            rw [← hx3]
            exact t91 _ hy.symm
    by_cases c45 : c = 45
    · rw [if_pos (show nI c = 45 by rw [c45]; rfl), rg_111_50, if_neg (by decide +kernel)]
      show ∃ I1, am_E 111 60 [.ref 49, .int may, .int (nI 0), .int (am_b01 true), .null, .null, .null] [.int (I 49 25 + 1)] _ = _ ∧ _
      rw [hf, nI_1]
      exact t60 _ (f + 1) (by unfold mns; rw [if_pos c45]) (by rw [decide_eq_true c45])
    · rw [if_neg (show ¬ nI c = 45 from nb_ne (n := 45) hb0 (by decide) c45), rg_111_50, if_pos rfl]
      show ∃ I1, am_E 111 60 [.ref 49, .int may, .int (nI 0), .int (am_b01 false), .null, .null, .null] [.int (I 49 25)] _ = _ ∧ _
      rw [hf]
      exact t60 _ f (by unfold mns; rw [if_neg c45]; rfl) (by rw [decide_eq_false c45])
/-- a letter and a number -/
def lef (tx : Nat → Nat) (f t e letter most : Nat) : Nat := if bya tx t f = letter then smf tx (f + 1) e most else 1
theorem mo_let (I : Nat → Nat → Int32) (J : Nat → Nat → Int64) (T : Nat → Nat → Nat) (L : Nat) (C : Nat × Nat) {tx : Nat → Nat} {N k f t g letter most : Nat} (h : TX I 50 49 2 tx N) (hf : I 49 25 = nI f) (ht : I 49 26 = nI t) (hk : TK tx N k f t g) (hle : letter < 256) (hm : most < 2 ^ 31) : am_E 120 0 [.ref 49, .int (nI letter), .int (nI most)] [] (am_W I J T L C) = some (.int (mvo (lef tx f t t letter most) (nI (smv tx (f + 1) t))), am_W (mfo I (lef tx f t t letter most) f) J T L C) := by
  have hN := h.2.1
  have hl := TK_le hk
  have hb0 := bya_lt (k := f) (TX_lt h) (show t ≤ 700 by omega)
  rw [rg_120_0, hf, mo_byte _ _ _ _ _ h ht hl.2 (by omega), am_okb, am_vIi, rg_120_4, hf, ht, nI_1]
  unfold lef
  by_cases c : bya tx t f = letter
  · rw [if_pos (by rw [c]), if_pos c, mo_small _ _ _ _ _ (f := f) h hl.2 (by omega) hf hm, am_okb, am_vIi, rg_120_22]
  · rw [if_neg (nb_ne hb0 hle c), if_neg c]
    show Option.bind (am_E 98 0 [.ref 49, .int (nI 1), .int (nI f)] [] _) _ = _
    rw [mo_fail, am_okb, rg_120_11]
    rfl
theorem mo_lab (I : Nat → Nat → Int32) (J : Nat → Nat → Int64) (T : Nat → Nat → Nat) (L : Nat) (C : Nat × Nat) {tx : Nat → Nat} {N k f t g e : Nat} (h : TX I 50 49 2 tx N) (hf : I 49 25 = nI f) (ht : I 49 26 = nI t) (hk : TK tx N k f t g) (he : e ≤ t) : am_E 118 0 [.ref 49, .int (nI e)] [] (am_W I J T L C) = some (.int (mvo (lef tx f t e 76 31) (nI (smv tx (f + 1) e))), am_W (mfo I (lef tx f t e 76 31) f) J T L C) := by
  have hN := h.2.1
  have hl := TK_le hk
  have hb0 := bya_lt (k := f) (TX_lt h) (show t ≤ 700 by omega)
  rw [rg_118_0, hf, mo_byte _ _ _ _ _ h ht hl.2 (by omega), am_okb, am_vIi, rg_118_4, hf, nI_1]
  unfold lef
  by_cases c : bya tx t f = 76
  · rw [if_pos (show nI (bya tx t f) = 76 by rw [c]; rfl), if_pos c]
    show Option.bind (am_E 106 0 [.ref 49, .int (nI (f + 1)), .int (nI e), .int (nI 31)] [] _) _ = _
    rw [mo_small _ _ _ _ _ (f := f) h (by omega) (by omega) hf (by decide), am_okb, am_vIi, rg_118_21]
  · rw [if_neg (show ¬ nI (bya tx t f) = 76 from nb_ne (n := 76) hb0 (by decide) c), if_neg c]
    show Option.bind (am_E 98 0 [.ref 49, .int (nI 1), .int (nI f)] [] _) _ = _
    rw [mo_fail, am_okb, rg_118_11]
    rfl
theorem kow_inv {tx : Nat → Nat} {k f t g kd : Nat} (h : kow tx k f t g = some kd) (hk : kd < 9) : k = 2 ∧ g - f = 1 ∧ g ≠ t ∧ ltr (tx f) = some kd := by
  unfold kow at h
  by_cases e : k = 2
  · rw [if_pos e] at h
    by_cases e1 : g = t
    · rw [if_pos e1] at h; exact absurd h (by simp)
    · rw [if_neg e1] at h
      by_cases e2 : g = f
      · rw [if_pos e2] at h; have := Option.some.inj h; omega
      · rw [if_neg e2] at h
        by_cases e3 : g - f = 1
        · rw [if_pos e3] at h
          by_cases e4 : tx f = 45
          · rw [if_pos e4] at h; have := Option.some.inj h; omega
          · rw [if_neg e4] at h
            exact ⟨e, e3, e1, h⟩
        · rw [if_neg e3] at h
          by_cases e5 : sl tx f g = wd 42
          · rw [if_pos e5] at h; have := Option.some.inj h; omega
          · rw [if_neg e5] at h
            by_cases e6 : sl tx f g = wd 43
            · rw [if_pos e6] at h; have := Option.some.inj h; omega
            · rw [if_neg e6] at h; exact absurd h (by simp)
  · rw [if_neg e] at h; exact absurd h (by simp)
/-- a letter and a number in both views -/
theorem pl_one {tx : Nat → Nat} {N k f t g kd letter most : Nat} {only : Int32} (h : TK tx N k f t g) (om : ∀ j, j < 12 → am_bt only j = decide (j = kd)) (hkd : kd < 9) (hr : rng kd = most + 1) (hl : ltr letter = some kd) (hd : isD letter = false) (h45 : letter ≠ 45) (h59 : letter ≠ 59) (h0 : letter ≠ 0) (hw : (wd 41).getD kd 0 = letter) : lef tx f t t letter most = crf tx k f t g only ∧ (crf tx k f t g only = 0 → crk tx k f t g = kd ∧ crv tx k f t g = nI (smv tx (f + 1) t)) := by
  have hle := TK_le h
  have hg := TK_g h
  by_cases c : kow tx k f t g = some kd
  · obtain ⟨k2, g1, gt, hlt⟩ := kow_inv c hkd
    have etx : tx f = letter := by
      have := (ltrd_lt (tx f) 9 0 kd hlt).2
      rw [hw] at this
      exact this.symm
    have hft : f < t := by omega
    have eb : bya tx t f = letter := by unfold bya; rw [if_pos hft, etx]
    have dD : isD (tx (f + 1 - 1)) = false := by rw [show f + 1 - 1 = f by omega, etx]; exact hd
    obtain ⟨v, hv⟩ := some_iff.mp ((figs_g h (w := 1) (by decide) (by omega) dD).mpr ⟨by omega, gt⟩)
    have hcn : cnv tx g t = v := by unfold cnv; rw [show g = f + 1 by omega, hv]; rfl
    have hs : smv tx (f + 1) t = v := by unfold smv; rw [hv]; rfl
    have hck : crk tx k f t g = kd := by unfold crk; rw [c]; rfl
    have e1 : crf tx k f t g only = cfk kd f t g (cnv tx g t) := by
      unfold crf
      rw [c]
      show (if am_bt only kd = true then _ else 1) = _
      rw [om kd (by omega), decide_eq_true rfl, if_pos rfl]
    refine ⟨?_, fun _ => ⟨hck, ?_⟩⟩
    · unfold lef smf
      rw [if_pos eb, hv, e1]
      unfold cfk
      rw [if_neg (by omega), hcn, hr]
      show (if 2 < t - (f + 1) ∨ most < v then 2 else 0) = _
      by_cases d : 2 < t - (f + 1) ∨ most < v
      · rw [if_pos d, if_pos (by omega)]
      · rw [if_neg d, if_neg (by omega)]
    · unfold crv cry
      rw [hck, if_neg (fun e => by omega), hcn, hs, lN_i]
  · have e1 : crf tx k f t g only = 1 := by
      unfold crf
      cases hq : kow tx k f t g with
      | none => rfl
      | some kd' =>
        have hne : kd' ≠ kd := fun e => c (by rw [hq, e])
        show (if am_bt only kd' = true then _ else 1) = 1
        rw [om kd' (kow_p hq).1, decide_eq_false hne]
        rfl
    rw [e1]
    refine ⟨?_, fun e => absurd e (by decide)⟩
    unfold lef
    by_cases eb : bya tx t f = letter
    · rw [if_pos eb]
      have hft : f < t := by
        apply Nat.lt_of_not_le
        intro x
        unfold bya at eb
        rw [if_neg (by omega)] at eb
        exact h0 eb.symm
      have etx : tx f = letter := by unfold bya at eb; rw [if_pos hft] at eb; exact eb
      have k2 : k = 2 := by
        rcases TK_p h with ⟨a, _⟩ | ⟨_, _, _, b⟩ | ⟨_, a, b⟩
        · exact a
        · rw [b] at etx; exact absurd etx.symm h59
        · omega
      have dD : isD (tx (f + 1 - 1)) = false := by rw [show f + 1 - 1 = f by omega, etx]; exact hd
      unfold smf
      cases hv : numv (sl tx (f + 1) t) with
      | none => rfl
      | some v =>
        exfalso
        obtain ⟨a1, a2⟩ := (figs_g h (w := 1) (by decide) (by omega) dD).mp (by rw [hv]; rfl)
        exact c (k1_some k2 (by rw [etx]; exact h45) (by rw [etx]; exact hl) a1 a2)
    · rw [if_neg eb]
theorem om_one : (∀ j, j < 12 → am_bt 16 j = decide (j = 4)) ∧ (∀ j, j < 12 → am_bt 32 j = decide (j = 5)) ∧ (∀ j, j < 12 → am_bt 256 j = decide (j = 8)) ∧ (∀ j, j < 12 → am_bt 128 j = decide (j = 7)) := by decide +kernel
theorem pl_T {tx : Nat → Nat} {N k f t g : Nat} (h : TK tx N k f t g) : lef tx f t t 84 7 = crf tx k f t g 16 ∧ (crf tx k f t g 16 = 0 → crk tx k f t g = 4 ∧ crv tx k f t g = nI (smv tx (f + 1) t)) := pl_one h om_one.1 (by decide) rfl (by decide +kernel) (by decide) (by decide) (by decide) (by decide) (by decide +kernel)
theorem pl_C {tx : Nat → Nat} {N k f t g : Nat} (h : TK tx N k f t g) : lef tx f t t 67 7 = crf tx k f t g 32 ∧ (crf tx k f t g 32 = 0 → crk tx k f t g = 5 ∧ crv tx k f t g = nI (smv tx (f + 1) t)) := pl_one h om_one.2.1 (by decide) rfl (by decide +kernel) (by decide) (by decide) (by decide) (by decide) (by decide +kernel)
theorem pl_E {tx : Nat → Nat} {N k f t g : Nat} (h : TK tx N k f t g) : lef tx f t t 69 15 = crf tx k f t g 256 ∧ (crf tx k f t g 256 = 0 → crk tx k f t g = 8 ∧ crv tx k f t g = nI (smv tx (f + 1) t)) := pl_one h om_one.2.2.1 (by decide) rfl (by decide +kernel) (by decide) (by decide) (by decide) (by decide) (by decide +kernel)
theorem pl_L {tx : Nat → Nat} {N k f t g : Nat} (h : TK tx N k f t g) : lef tx f t t 76 31 = crf tx k f t g 128 ∧ (crf tx k f t g 128 = 0 → crk tx k f t g = 7 ∧ crv tx k f t g = nI (smv tx (f + 1) t)) := pl_one h om_one.2.2.2 (by decide) rfl (by decide +kernel) (by decide) (by decide) (by decide) (by decide) (by decide +kernel)

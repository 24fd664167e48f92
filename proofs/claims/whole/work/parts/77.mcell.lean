/-! THE MODEL: a word, its operand, an instruction more; isMove. -/
/-- the next word is read as an operand -/
theorem mcell (I : Nat → Nat → Int32) (J : Nat → Nat → Int64) (T : Nat → Nat → Nat) (L : Nat) (C : Nat × Nat) {tx : Nat → Nat} {N h k f t g : Nat} (may : Int32) (hm : MT tx N h I) (hf : MK I f t) (hk : TK tx N k f t g) (h3 : I 49 3 = 0) : ∃ Ia Ib, am_E 99 0 [.ref 49] [] (am_W I J T L C) = some (.null, am_W Ia J T L C) ∧ am_E 111 0 [.ref 49, .int may, .null, .null, .null, .null, .null] [] (am_W Ia J T L C) = some (.null, am_W Ib J T L C) ∧ MP h I Ib ∧ (∀ q k', ¬ (q = 49 ∧ (k' = 3 ∨ k' = 4 ∨ (24 ≤ k' ∧ k' ≤ 26) ∨ k' = 28 ∨ k' = 29)) → Ib q k' = I q k') ∧ MK Ib (tkf tx N t) (tkt tx N (tkf tx N t)) ∧ ((mof tx (tkf tx N t) (tkt tx N (tkf tx N t)) may ≠ 0 ∧ WR Ib (mof tx (tkf tx N t) (tkt tx N (tkf tx N t)) may) (tkf tx N t)) ∨ (mof tx (tkf tx N t) (tkt tx N (tkf tx N t)) may = 0 ∧ Ib 49 3 = 0 ∧ Ib 49 4 = I 49 4 ∧ Ib 49 28 = nI (cki (bya tx (tkt tx N (tkf tx N t)) (tkf tx N t)) (bya tx (tkt tx N (tkf tx N t)) (tkf tx N t + 1))) ∧ Ib 49 29 = mov tx (tkf tx N t) (tkt tx N (tkf tx N t)))) := by
  obtain ⟨Ia, a1, a2, a3⟩ := mo_next I J T L C hm.1 hf hk
  have hn := TK_n hk
  have hma : MT tx N h Ia := MT_k hm (fun q k' e => a3 q k' (by omega))
  obtain ⟨Ib, b1, b2, b3⟩ := mo_opnd Ia J T L C may hma.1 a2.1 a2.2 hn
  have a3w : Ia 49 3 = 0 := (a3 49 3 (by omega)).trans h3
  refine ⟨Ia, Ib, a1, b1, MP_op (MP_t (MP_fx a3) (MP_mfo h Ia _ _)) b2, fun q k' e => ?_, ?_, ?_⟩
  · rw [b2 q k' (by omega), mfo_ne Ia _ _ (by omega), a3 q k' (by omega)]
  · exact ⟨(b2 49 25 (by omega)).trans ((mfo_ne Ia _ _ (by omega)).trans a2.1), (b2 49 26 (by omega)).trans ((mfo_ne Ia _ _ (by omega)).trans a2.2)⟩
  · generalize mof tx (tkf tx N t) (tkt tx N (tkf tx N t)) may = m at *
    by_cases e : m = 0
    · subst e
      refine Or.inr ⟨rfl, ?_, ?_, (b3 rfl).1, (b3 rfl).2⟩
      · rw [b2 49 3 (by omega)]; exact a3w
      · rw [b2 49 4 (by omega)]; exact a3 49 4 (by omega)
    · refine Or.inl ⟨e, ?_⟩
      have w := WR_mfl a3w m (tkf tx N t)
      have em : mfo Ia m (tkf tx N t) = mfl Ia (nI m) (nI (tkf tx N t)) := if_neg e
      rw [em] at b2
      exact ⟨(b2 49 3 (by omega)).trans w.1, (b2 49 4 (by omega)).trans w.2⟩
/-- what the model makes of the words with a cell behind them -/
def cits (i : Nat) : Int32 := if i < 2 then 14 else if i < 4 then 15 else if i = 4 then 16 else if i = 5 then 17 else nI (ow (i - 6))
def cmay (i : Nat) : Int32 := if i < 2 then 1023 else if i < 4 then 28 else if i < 6 then 12 else 1023
def ctrn (i : Nat) : Int32 := if i < 6 then nI (if i = 1 ∨ i = 3 then 1 else 0) else nI (oh (i - 6))
theorem cod_wd : lN (cvl (wd 0)) = 17484 ∧ lN (cvl (wd 1)) = 5129292 ∧ lN (cvl (wd 2)) = 21587 ∧ lN (cvl (wd 3)) = 5133395 ∧ lN (cvl (wd 4)) = 83 ∧ lN (cvl (wd 5)) = 82 := by decide +kernel
theorem mv_a0 (I : Nat → Nat → Int32) (J : Nat → Nat → Int64) (T : Nat → Nat → Nat) (L : Nat) (C : Nat × Nat) : am_E 116 0 [.ref 49, .long 17484, .null, .null] [] (am_W I J T L C) = Option.bind (am_E 115 0 [.ref 49] [] (am_W I J T L C)) (fun z1 => am_vI z1.1 fun u1 => am_E 116 41 [.ref 49, .long 17484, .null, .int 14] [.int u1] z1.2) := by
  refine (rg_116_0 I J T L C 17484).trans ?_
  show am_E 116 8 [.ref 49, .long 17484, .null, .null] [] (am_W I J T L C) = _
  rw [rg_116_8]
  exact (rg_116_33 I J T L C 17484 _ 14).trans rfl
theorem mv_b0 (I : Nat → Nat → Int32) (J : Nat → Nat → Int64) (T : Nat → Nat → Nat) (L : Nat) (C : Nat × Nat) : am_E 116 44 [.ref 49, .long 17484, .null, .int 14] [] (am_W I J T L C) = Option.bind (am_E 111 0 [.ref 49, .int 1023, .null, .null, .null, .null, .null] [] (am_W I J T L C)) (fun z1 => am_E 116 57 [.ref 49, .long 17484, .null, .int 14] [] z1.2) := by
  refine (rg_116_44 I J T L C 17484 14).trans ?_
  exact rg_116_56 I J T L C 17484 14 1023
theorem mv_c0 (I : Nat → Nat → Int32) (J : Nat → Nat → Int64) (T : Nat → Nat → Nat) (L : Nat) (C : Nat × Nat) : am_E 116 57 [.ref 49, .long 17484, .null, .int 14] [] (am_W I J T L C) = Option.bind (am_E 113 0 [.ref 49, .int 14, .int 0, .int (I 49 28), .int (I 49 29), .int 0, .null] [] (am_W I J T L C)) (fun z1 => am_E 116 76 [.ref 49, .long 17484, .null, .int 14] [] z1.2) := by
  refine (rg_116_57 I J T L C 17484 14).trans ?_
  exact rg_116_70 I J T L C 17484 14 14 0
theorem mv_a1 (I : Nat → Nat → Int32) (J : Nat → Nat → Int64) (T : Nat → Nat → Nat) (L : Nat) (C : Nat × Nat) : am_E 116 0 [.ref 49, .long 5129292, .null, .null] [] (am_W I J T L C) = Option.bind (am_E 115 0 [.ref 49] [] (am_W I J T L C)) (fun z1 => am_vI z1.1 fun u1 => am_E 116 41 [.ref 49, .long 5129292, .null, .int 14] [.int u1] z1.2) := by
  refine (rg_116_0 I J T L C 5129292).trans ?_
  show am_E 116 8 [.ref 49, .long 5129292, .null, .null] [] (am_W I J T L C) = _
  rw [rg_116_8]
  exact (rg_116_33 I J T L C 5129292 _ 14).trans rfl
theorem mv_b1 (I : Nat → Nat → Int32) (J : Nat → Nat → Int64) (T : Nat → Nat → Nat) (L : Nat) (C : Nat × Nat) : am_E 116 44 [.ref 49, .long 5129292, .null, .int 14] [] (am_W I J T L C) = Option.bind (am_E 111 0 [.ref 49, .int 1023, .null, .null, .null, .null, .null] [] (am_W I J T L C)) (fun z1 => am_E 116 57 [.ref 49, .long 5129292, .null, .int 14] [] z1.2) := by
  refine (rg_116_44 I J T L C 5129292 14).trans ?_
  exact rg_116_56 I J T L C 5129292 14 1023
theorem mv_c1 (I : Nat → Nat → Int32) (J : Nat → Nat → Int64) (T : Nat → Nat → Nat) (L : Nat) (C : Nat × Nat) : am_E 116 57 [.ref 49, .long 5129292, .null, .int 14] [] (am_W I J T L C) = Option.bind (am_E 113 0 [.ref 49, .int 14, .int 1, .int (I 49 28), .int (I 49 29), .int 0, .null] [] (am_W I J T L C)) (fun z1 => am_E 116 76 [.ref 49, .long 5129292, .null, .int 14] [] z1.2) := by
  refine (rg_116_57 I J T L C 5129292 14).trans ?_
  show am_E 116 67 [.ref 49, .long 5129292, .null, .int 14] [.int 14, .ref 49] (am_W I J T L C) = _
  rw [rg_116_67]
  exact rg_116_70 I J T L C 5129292 14 14 1
theorem mv_a2 (I : Nat → Nat → Int32) (J : Nat → Nat → Int64) (T : Nat → Nat → Nat) (L : Nat) (C : Nat × Nat) : am_E 116 0 [.ref 49, .long 21587, .null, .null] [] (am_W I J T L C) = Option.bind (am_E 115 0 [.ref 49] [] (am_W I J T L C)) (fun z1 => am_vI z1.1 fun u1 => am_E 116 41 [.ref 49, .long 21587, .null, .int 15] [.int u1] z1.2) := by
  refine (rg_116_0 I J T L C 21587).trans ?_
  show am_E 116 18 [.ref 49, .long 21587, .null, .null] [] (am_W I J T L C) = _
  rw [rg_116_18]
  exact (rg_116_33 I J T L C 21587 _ 15).trans rfl
theorem mv_b2 (I : Nat → Nat → Int32) (J : Nat → Nat → Int64) (T : Nat → Nat → Nat) (L : Nat) (C : Nat × Nat) : am_E 116 44 [.ref 49, .long 21587, .null, .int 15] [] (am_W I J T L C) = Option.bind (am_E 111 0 [.ref 49, .int 28, .null, .null, .null, .null, .null] [] (am_W I J T L C)) (fun z1 => am_E 116 57 [.ref 49, .long 21587, .null, .int 15] [] z1.2) := by
  refine (rg_116_44 I J T L C 21587 15).trans ?_
  exact rg_116_56 I J T L C 21587 15 28
theorem mv_c2 (I : Nat → Nat → Int32) (J : Nat → Nat → Int64) (T : Nat → Nat → Nat) (L : Nat) (C : Nat × Nat) : am_E 116 57 [.ref 49, .long 21587, .null, .int 15] [] (am_W I J T L C) = Option.bind (am_E 113 0 [.ref 49, .int 15, .int 0, .int (I 49 28), .int (I 49 29), .int 0, .null] [] (am_W I J T L C)) (fun z1 => am_E 116 76 [.ref 49, .long 21587, .null, .int 15] [] z1.2) := by
  refine (rg_116_57 I J T L C 21587 15).trans ?_
  exact rg_116_70 I J T L C 21587 15 15 0
theorem mv_a3 (I : Nat → Nat → Int32) (J : Nat → Nat → Int64) (T : Nat → Nat → Nat) (L : Nat) (C : Nat × Nat) : am_E 116 0 [.ref 49, .long 5133395, .null, .null] [] (am_W I J T L C) = Option.bind (am_E 115 0 [.ref 49] [] (am_W I J T L C)) (fun z1 => am_vI z1.1 fun u1 => am_E 116 41 [.ref 49, .long 5133395, .null, .int 15] [.int u1] z1.2) := by
  refine (rg_116_0 I J T L C 5133395).trans ?_
  show am_E 116 18 [.ref 49, .long 5133395, .null, .null] [] (am_W I J T L C) = _
  rw [rg_116_18]
  exact (rg_116_33 I J T L C 5133395 _ 15).trans rfl
theorem mv_b3 (I : Nat → Nat → Int32) (J : Nat → Nat → Int64) (T : Nat → Nat → Nat) (L : Nat) (C : Nat × Nat) : am_E 116 44 [.ref 49, .long 5133395, .null, .int 15] [] (am_W I J T L C) = Option.bind (am_E 111 0 [.ref 49, .int 28, .null, .null, .null, .null, .null] [] (am_W I J T L C)) (fun z1 => am_E 116 57 [.ref 49, .long 5133395, .null, .int 15] [] z1.2) := by
  refine (rg_116_44 I J T L C 5133395 15).trans ?_
  exact rg_116_56 I J T L C 5133395 15 28
theorem mv_c3 (I : Nat → Nat → Int32) (J : Nat → Nat → Int64) (T : Nat → Nat → Nat) (L : Nat) (C : Nat × Nat) : am_E 116 57 [.ref 49, .long 5133395, .null, .int 15] [] (am_W I J T L C) = Option.bind (am_E 113 0 [.ref 49, .int 15, .int 1, .int (I 49 28), .int (I 49 29), .int 0, .null] [] (am_W I J T L C)) (fun z1 => am_E 116 76 [.ref 49, .long 5133395, .null, .int 15] [] z1.2) := by
  refine (rg_116_57 I J T L C 5133395 15).trans ?_
  show am_E 116 67 [.ref 49, .long 5133395, .null, .int 15] [.int 15, .ref 49] (am_W I J T L C) = _
  rw [rg_116_67]
  exact rg_116_70 I J T L C 5133395 15 15 1
theorem mv_a4 (I : Nat → Nat → Int32) (J : Nat → Nat → Int64) (T : Nat → Nat → Nat) (L : Nat) (C : Nat × Nat) : am_E 116 0 [.ref 49, .long 83, .null, .null] [] (am_W I J T L C) = Option.bind (am_E 115 0 [.ref 49] [] (am_W I J T L C)) (fun z1 => am_vI z1.1 fun u1 => am_E 116 41 [.ref 49, .long 83, .null, .int 16] [.int u1] z1.2) := by
  refine (rg_116_0 I J T L C 83).trans ?_
  exact (rg_116_33 I J T L C 83 _ 16).trans rfl
theorem mv_b4 (I : Nat → Nat → Int32) (J : Nat → Nat → Int64) (T : Nat → Nat → Nat) (L : Nat) (C : Nat × Nat) : am_E 116 44 [.ref 49, .long 83, .null, .int 16] [] (am_W I J T L C) = Option.bind (am_E 111 0 [.ref 49, .int 12, .null, .null, .null, .null, .null] [] (am_W I J T L C)) (fun z1 => am_E 116 57 [.ref 49, .long 83, .null, .int 16] [] z1.2) := by
  refine (rg_116_44 I J T L C 83 16).trans ?_
  exact rg_116_56 I J T L C 83 16 12
theorem mv_c4 (I : Nat → Nat → Int32) (J : Nat → Nat → Int64) (T : Nat → Nat → Nat) (L : Nat) (C : Nat × Nat) : am_E 116 57 [.ref 49, .long 83, .null, .int 16] [] (am_W I J T L C) = Option.bind (am_E 113 0 [.ref 49, .int 16, .int 0, .int (I 49 28), .int (I 49 29), .int 0, .null] [] (am_W I J T L C)) (fun z1 => am_E 116 76 [.ref 49, .long 83, .null, .int 16] [] z1.2) := by
  refine (rg_116_57 I J T L C 83 16).trans ?_
  exact rg_116_70 I J T L C 83 16 16 0
theorem mv_a5 (I : Nat → Nat → Int32) (J : Nat → Nat → Int64) (T : Nat → Nat → Nat) (L : Nat) (C : Nat × Nat) : am_E 116 0 [.ref 49, .long 82, .null, .null] [] (am_W I J T L C) = Option.bind (am_E 115 0 [.ref 49] [] (am_W I J T L C)) (fun z1 => am_vI z1.1 fun u1 => am_E 116 41 [.ref 49, .long 82, .null, .int 17] [.int u1] z1.2) := by
  refine (rg_116_0 I J T L C 82).trans ?_
  exact (rg_116_33 I J T L C 82 _ 17).trans rfl
theorem mv_b5 (I : Nat → Nat → Int32) (J : Nat → Nat → Int64) (T : Nat → Nat → Nat) (L : Nat) (C : Nat × Nat) : am_E 116 44 [.ref 49, .long 82, .null, .int 17] [] (am_W I J T L C) = Option.bind (am_E 111 0 [.ref 49, .int 12, .null, .null, .null, .null, .null] [] (am_W I J T L C)) (fun z1 => am_E 116 57 [.ref 49, .long 82, .null, .int 17] [] z1.2) := by
  refine (rg_116_44 I J T L C 82 17).trans ?_
  exact rg_116_56 I J T L C 82 17 12
theorem mv_c5 (I : Nat → Nat → Int32) (J : Nat → Nat → Int64) (T : Nat → Nat → Nat) (L : Nat) (C : Nat × Nat) : am_E 116 57 [.ref 49, .long 82, .null, .int 17] [] (am_W I J T L C) = Option.bind (am_E 113 0 [.ref 49, .int 17, .int 0, .int (I 49 28), .int (I 49 29), .int 0, .null] [] (am_W I J T L C)) (fun z1 => am_E 116 76 [.ref 49, .long 82, .null, .int 17] [] z1.2) := by
  refine (rg_116_57 I J T L C 82 17).trans ?_
  exact rg_116_70 I J T L C 82 17 17 0
/-- isMove, a hit -/
theorem mv_hit (I : Nat → Nat → Int32) (J : Nat → Nat → Int64) (T : Nat → Nat → Nat) (L : Nat) (C : Nat × Nat) {tx : Nat → Nat} {N h n k f t g i : Nat} (hi : i < 6) (hm : MT tx N h I) (hf : MK I f t) (hk : TK tx N k f t g) (h3 : I 49 3 = 0) (hn : n ≤ 80) (h56 : I 56 h = nI n) : (n = 80 ∧ am_E 116 0 [.ref 49, .long (lN (cvl (wd i))), .null, .null] [] (am_W I J T L C) = some (.int 1, am_W (mfl I (nI 3) (nI f)) J T L C)) ∨ (n < 80 ∧ ∀ Ia Ib, am_E 99 0 [.ref 49] [] (am_W I J T L C) = some (.null, am_W Ia J T L C) → am_E 111 0 [.ref 49, .int (cmay i), .null, .null, .null, .null, .null] [] (am_W Ia J T L C) = some (.null, am_W Ib J T L C) → Ib 49 23 = nI h → Ib 56 h = nI n → am_E 116 0 [.ref 49, .long (lN (cvl (wd i))), .null, .null] [] (am_W I J T L C) = some (.int 1, am_W (MADD Ib h n (cits i) (ctrn i) (Ib 49 28) (Ib 49 29) 0) J T L C)) := by
  obtain ⟨w0, w1, w2, w3, w4, w5⟩ := cod_wd
  rcases mo_may I J T L C hm.2.1 hn hm.2.2 h56 hf.1 h3 with ⟨e, m⟩ | ⟨e, m⟩
  · refine Or.inl ⟨e, ?_⟩
    rcases (show i = 0 ∨ i = 1 ∨ i = 2 ∨ i = 3 ∨ i = 4 ∨ i = 5 by omega) with rfl | rfl | rfl | rfl | rfl | rfl
    · rw [w0, mv_a0, m, am_okb, am_vIi, rg_116_41, if_pos rfl, rg_116_76]
    · rw [w1, mv_a1, m, am_okb, am_vIi, rg_116_41, if_pos rfl, rg_116_76]
    · rw [w2, mv_a2, m, am_okb, am_vIi, rg_116_41, if_pos rfl, rg_116_76]
    · rw [w3, mv_a3, m, am_okb, am_vIi, rg_116_41, if_pos rfl, rg_116_76]
    · rw [w4, mv_a4, m, am_okb, am_vIi, rg_116_41, if_pos rfl, rg_116_76]
    · rw [w5, mv_a5, m, am_okb, am_vIi, rg_116_41, if_pos rfl, rg_116_76]
  · refine Or.inr ⟨e, fun Ia Ib a1 b1 b2 b3 => ?_⟩
    rcases (show i = 0 ∨ i = 1 ∨ i = 2 ∨ i = 3 ∨ i = 4 ∨ i = 5 by omega) with rfl | rfl | rfl | rfl | rfl | rfl
    · change am_E 111 0 [.ref 49, .int 1023, .null, .null, .null, .null, .null] [] (am_W Ia J T L C) = _ at b1
      rw [w0, mv_a0, m, am_okb, am_vIi, rg_116_41, if_neg (by decide), a1, am_okb, mv_b0, b1, am_okb, mv_c0, mo_add Ib J T L C 14 0 _ _ 0 hm.2.1 e b2 b3, am_okb, rg_116_76]
      rfl
    · change am_E 111 0 [.ref 49, .int 1023, .null, .null, .null, .null, .null] [] (am_W Ia J T L C) = _ at b1
      rw [w1, mv_a1, m, am_okb, am_vIi, rg_116_41, if_neg (by decide), a1, am_okb, mv_b1, b1, am_okb, mv_c1, mo_add Ib J T L C 14 1 _ _ 0 hm.2.1 e b2 b3, am_okb, rg_116_76]
      rfl
    · change am_E 111 0 [.ref 49, .int 28, .null, .null, .null, .null, .null] [] (am_W Ia J T L C) = _ at b1
      rw [w2, mv_a2, m, am_okb, am_vIi, rg_116_41, if_neg (by decide), a1, am_okb, mv_b2, b1, am_okb, mv_c2, mo_add Ib J T L C 15 0 _ _ 0 hm.2.1 e b2 b3, am_okb, rg_116_76]
      rfl
    · change am_E 111 0 [.ref 49, .int 28, .null, .null, .null, .null, .null] [] (am_W Ia J T L C) = _ at b1
      rw [w3, mv_a3, m, am_okb, am_vIi, rg_116_41, if_neg (by decide), a1, am_okb, mv_b3, b1, am_okb, mv_c3, mo_add Ib J T L C 15 1 _ _ 0 hm.2.1 e b2 b3, am_okb, rg_116_76]
      rfl
    · change am_E 111 0 [.ref 49, .int 12, .null, .null, .null, .null, .null] [] (am_W Ia J T L C) = _ at b1
      rw [w4, mv_a4, m, am_okb, am_vIi, rg_116_41, if_neg (by decide), a1, am_okb, mv_b4, b1, am_okb, mv_c4, mo_add Ib J T L C 16 0 _ _ 0 hm.2.1 e b2 b3, am_okb, rg_116_76]
      rfl
    · change am_E 111 0 [.ref 49, .int 12, .null, .null, .null, .null, .null] [] (am_W Ia J T L C) = _ at b1
      rw [w5, mv_a5, m, am_okb, am_vIi, rg_116_41, if_neg (by decide), a1, am_okb, mv_b5, b1, am_okb, mv_c5, mo_add Ib J T L C 17 0 _ _ 0 hm.2.1 e b2 b3, am_okb, rg_116_76]
      rfl
/-- isMove, a miss -/
theorem mv_miss (I : Nat → Nat → Int32) (J : Nat → Nat → Int64) (T : Nat → Nat → Nat) (L : Nat) (C : Nat × Nat) {l : List Nat} (hl : ∀ c, c ∈ l → 0 < c ∧ c < 256) (h : ∀ j, j < 6 → l ≠ wd j) : am_E 116 0 [.ref 49, .long (lN (cvl l)), .null, .null] [] (am_W I J T L C) = some (.int 0, (am_W I J T L C)) := by
  obtain ⟨w0, w1, w2, w3, w4, w5⟩ := cod_wd
  have c0 : ¬ lg_cmp (lN (cvl l)) 17484 = 0 := fun e => h 0 (by decide) ((ct (W := wd 0) (y := 17484) (by decide +kernel) hl (by decide +kernel)).mp e)
  have c1 : ¬ lg_cmp (lN (cvl l)) 5129292 = 0 := fun e => h 1 (by decide) ((ct (W := wd 1) (y := 5129292) (by decide +kernel) hl (by decide +kernel)).mp e)
  have c2 : ¬ lg_cmp (lN (cvl l)) 21587 = 0 := fun e => h 2 (by decide) ((ct (W := wd 2) (y := 21587) (by decide +kernel) hl (by decide +kernel)).mp e)
  have c3 : ¬ lg_cmp (lN (cvl l)) 5133395 = 0 := fun e => h 3 (by decide) ((ct (W := wd 3) (y := 5133395) (by decide +kernel) hl (by decide +kernel)).mp e)
  have c4 : ¬ lg_cmp (lN (cvl l)) 83 = 0 := fun e => h 4 (by decide) ((ct (W := wd 4) (y := 83) (by decide +kernel) hl (by decide +kernel)).mp e)
  have c5 : ¬ lg_cmp (lN (cvl l)) 82 = 0 := fun e => h 5 (by decide) ((ct (W := wd 5) (y := 82) (by decide +kernel) hl (by decide +kernel)).mp e)
  rw [rg_116_0, if_neg c0, if_neg c1, if_neg c2, if_neg c3, if_neg c4, if_neg c5, rg_116_33, if_pos rfl]

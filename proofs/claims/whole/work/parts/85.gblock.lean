/-! TIMERS, COUNTERS, CLR AND EDGES in both readers. -/
def ble (i : Nat) : Nat := if i < 34 then 84 else if i < 37 then 67 else 69
def bmo (i : Nat) : Nat := if i < 37 then 7 else 15
def bki (i : Nat) : Nat := if i < 34 then 4 else if i < 37 then 5 else 8
theorem bk_62 (I : Nat → Nat → Int32) (J : Nat → Nat → Int64) (T : Nat → Nat → Nat) (L : Nat) (C : Nat × Nat) {i : Nat} (h1 : 31 ≤ i) (h2 : i ≤ 38) {u : Int32} {I1 : Nat → Nat → Int32} (e : am_E 120 0 [.ref 49, .int (nI (ble i)), .int (nI (bmo i))] [] (am_W I J T L C) = some (.int u, am_W I1 J T L C)) : am_E 121 62 [.ref 49, .long (lN (cvl (wd i))), .null, .int (mts i), .null, .null] [] (am_W I J T L C) = am_E 121 82 [.ref 49, .long (lN (cvl (wd i))), .null, .int (mts i), .null, .null] [.int u] (am_W I1 J T L C) := by
  rcases (show i = 31 ∨ i = 32 ∨ i = 33 ∨ i = 34 ∨ i = 35 ∨ i = 36 ∨ i = 37 ∨ i = 38 by omega) with rfl | rfl | rfl | rfl | rfl | rfl | rfl | rfl
  · rw [show lN (cvl (wd 31)) = 5132116 by decide +kernel]
    change am_E 120 0 [.ref 49, .int 84, .int 7] [] _ = _ at e
    refine (rg_121_62 I J T L C 5132116 22 _ _).trans ?_
    show Option.bind (am_E 120 0 [.ref 49, .int 84, .int 7] [] (am_W I J T L C)) _ = _
    rw [e, am_okb, am_vIi, rg_121_69]
    rfl
  · rw [show lN (cvl (wd 32)) = 4607828 by decide +kernel]
    change am_E 120 0 [.ref 49, .int 84, .int 7] [] _ = _ at e
    refine (rg_121_62 I J T L C 4607828 23 _ _).trans ?_
    show Option.bind (am_E 120 0 [.ref 49, .int 84, .int 7] [] (am_W I J T L C)) _ = _
    rw [e, am_okb, am_vIi, rg_121_69]
    rfl
  · rw [show lN (cvl (wd 33)) = 20564 by decide +kernel]
    change am_E 120 0 [.ref 49, .int 84, .int 7] [] _ = _ at e
    refine (rg_121_62 I J T L C 20564 24 _ _).trans ?_
    show Option.bind (am_E 120 0 [.ref 49, .int 84, .int 7] [] (am_W I J T L C)) _ = _
    rw [e, am_okb, am_vIi, rg_121_69]
    rfl
  · rw [show lN (cvl (wd 34)) = 5592131 by decide +kernel]
    change am_E 120 0 [.ref 49, .int 67, .int 7] [] _ = _ at e
    refine (rg_121_62 I J T L C 5592131 25 _ _).trans ?_
    show Option.bind (am_E 120 0 [.ref 49, .int 67, .int 7] [] (am_W I J T L C)) _ = _
    rw [e, am_okb, am_vIi, rg_121_77]
    rfl
  · rw [show lN (cvl (wd 35)) = 4478019 by decide +kernel]
    change am_E 120 0 [.ref 49, .int 67, .int 7] [] _ = _ at e
    refine (rg_121_62 I J T L C 4478019 26 _ _).trans ?_
    show Option.bind (am_E 120 0 [.ref 49, .int 67, .int 7] [] (am_W I J T L C)) _ = _
    rw [e, am_okb, am_vIi, rg_121_77]
    rfl
  · rw [show lN (cvl (wd 36)) = 5393475 by decide +kernel]
    change am_E 120 0 [.ref 49, .int 67, .int 7] [] _ = _ at e
    refine (rg_121_62 I J T L C 5393475 27 _ _).trans ?_
    show Option.bind (am_E 120 0 [.ref 49, .int 67, .int 7] [] (am_W I J T L C)) _ = _
    rw [e, am_okb, am_vIi, rg_121_77]
    rfl
  · rw [show lN (cvl (wd 37)) = 1163086162 by decide +kernel]
    change am_E 120 0 [.ref 49, .int 69, .int 15] [] _ = _ at e
    refine (rg_121_62 I J T L C 1163086162 28 _ _).trans ?_
    show Option.bind (am_E 120 0 [.ref 49, .int 69, .int 15] [] (am_W I J T L C)) _ = _
    rw [e, am_okb, am_vIi]
    rfl
  · rw [show lN (cvl (wd 38)) = 1280065862 by decide +kernel]
    change am_E 120 0 [.ref 49, .int 69, .int 15] [] _ = _ at e
    refine (rg_121_62 I J T L C 1280065862 29 _ _).trans ?_
    show Option.bind (am_E 120 0 [.ref 49, .int 69, .int 15] [] (am_W I J T L C)) _ = _
    rw [e, am_okb, am_vIi]
    rfl
theorem bk_82a (I : Nat → Nat → Int32) (J : Nat → Nat → Int64) (T : Nat → Nat → Nat) (L : Nat) (C : Nat × Nat) {i : Nat} (h1 : 36 ≤ i) (h2 : i ≤ 38) (u : Int32) : am_E 121 82 [.ref 49, .long (lN (cvl (wd i))), .null, .int (mts i), .null, .null] [.int u] (am_W I J T L C) = am_E 121 104 [.ref 49, .long (lN (cvl (wd i))), .null, .int (mts i), .int u, .int 0] [] (am_W I J T L C) := by
  rcases (show i = 36 ∨ i = 37 ∨ i = 38 by omega) with rfl | rfl | rfl
  · rw [show lN (cvl (wd 36)) = 5393475 by decide +kernel]
    exact (rg_121_82 I J T L C 5393475 27 _ _ u).trans rfl
  · rw [show lN (cvl (wd 37)) = 1163086162 by decide +kernel]
    exact (rg_121_82 I J T L C 1163086162 28 _ _ u).trans rfl
  · rw [show lN (cvl (wd 38)) = 1280065862 by decide +kernel]
    exact (rg_121_82 I J T L C 1280065862 29 _ _ u).trans rfl
theorem bk_82w (I : Nat → Nat → Int32) (J : Nat → Nat → Int64) (T : Nat → Nat → Nat) (L : Nat) (C : Nat × Nat) {i : Nat} (h1 : 31 ≤ i) (h2 : i ≤ 35) (u : Int32) (w : ¬ I 49 3 = 0) : am_E 121 82 [.ref 49, .long (lN (cvl (wd i))), .null, .int (mts i), .null, .null] [.int u] (am_W I J T L C) = am_E 121 104 [.ref 49, .long (lN (cvl (wd i))), .null, .int (mts i), .int u, .int 0] [] (am_W I J T L C) := by
  rcases (show i = 31 ∨ i = 32 ∨ i = 33 ∨ i = 34 ∨ i = 35 by omega) with rfl | rfl | rfl | rfl | rfl
  · rw [show lN (cvl (wd 31)) = 5132116 by decide +kernel]
    refine (rg_121_82 I J T L C 5132116 22 _ _ u).trans ?_
    rw [if_neg (show ¬ (27 : Int32) ≤ 22 by decide), if_neg w]
    rfl
  · rw [show lN (cvl (wd 32)) = 4607828 by decide +kernel]
    refine (rg_121_82 I J T L C 4607828 23 _ _ u).trans ?_
    rw [if_neg (show ¬ (27 : Int32) ≤ 23 by decide), if_neg w]
    rfl
  · rw [show lN (cvl (wd 33)) = 20564 by decide +kernel]
    refine (rg_121_82 I J T L C 20564 24 _ _ u).trans ?_
    rw [if_neg (show ¬ (27 : Int32) ≤ 24 by decide), if_neg w]
    rfl
  · rw [show lN (cvl (wd 34)) = 5592131 by decide +kernel]
    refine (rg_121_82 I J T L C 5592131 25 _ _ u).trans ?_
    rw [if_neg (show ¬ (27 : Int32) ≤ 25 by decide), if_neg w]
    rfl
  · rw [show lN (cvl (wd 35)) = 4478019 by decide +kernel]
    refine (rg_121_82 I J T L C 4478019 26 _ _ u).trans ?_
    rw [if_neg (show ¬ (27 : Int32) ≤ 26 by decide), if_neg w]
    rfl
theorem bk_82o (I : Nat → Nat → Int32) (J : Nat → Nat → Int64) (T : Nat → Nat → Nat) (L : Nat) (C : Nat × Nat) {i : Nat} (h1 : 31 ≤ i) (h2 : i ≤ 35) (u : Int32) (w : I 49 3 = 0) {Ia : Nat → Nat → Int32} (e : am_E 99 0 [.ref 49] [] (am_W I J T L C) = some (.null, am_W Ia J T L C)) : am_E 121 82 [.ref 49, .long (lN (cvl (wd i))), .null, .int (mts i), .null, .null] [.int u] (am_W I J T L C) = am_E 121 93 [.ref 49, .long (lN (cvl (wd i))), .null, .int (mts i), .int u, .int 0] [] (am_W Ia J T L C) := by
  rcases (show i = 31 ∨ i = 32 ∨ i = 33 ∨ i = 34 ∨ i = 35 by omega) with rfl | rfl | rfl | rfl | rfl
  · rw [show lN (cvl (wd 31)) = 5132116 by decide +kernel]
    refine (rg_121_82 I J T L C 5132116 22 _ _ u).trans ?_
    rw [if_neg (show ¬ (27 : Int32) ≤ 22 by decide), if_pos w, e, am_okb]
    rfl
  · rw [show lN (cvl (wd 32)) = 4607828 by decide +kernel]
    refine (rg_121_82 I J T L C 4607828 23 _ _ u).trans ?_
    rw [if_neg (show ¬ (27 : Int32) ≤ 23 by decide), if_pos w, e, am_okb]
    rfl
  · rw [show lN (cvl (wd 33)) = 20564 by decide +kernel]
    refine (rg_121_82 I J T L C 20564 24 _ _ u).trans ?_
    rw [if_neg (show ¬ (27 : Int32) ≤ 24 by decide), if_pos w, e, am_okb]
    rfl
  · rw [show lN (cvl (wd 34)) = 5592131 by decide +kernel]
    refine (rg_121_82 I J T L C 5592131 25 _ _ u).trans ?_
    rw [if_neg (show ¬ (27 : Int32) ≤ 25 by decide), if_pos w, e, am_okb]
    rfl
  · rw [show lN (cvl (wd 35)) = 4478019 by decide +kernel]
    refine (rg_121_82 I J T L C 4478019 26 _ _ u).trans ?_
    rw [if_neg (show ¬ (27 : Int32) ≤ 26 by decide), if_pos w, e, am_okb]
    rfl
theorem bk_93 (I : Nat → Nat → Int32) (J : Nat → Nat → Int64) (T : Nat → Nat → Nat) (L : Nat) (C : Nat × Nat) {i : Nat} (h1 : 31 ≤ i) (h2 : i ≤ 35) (u : Int32) {v : Int32} {I1 : Nat → Nat → Int32} (e : am_E 107 0 [.ref 49, .int (I 49 25), .int (nI (lim (frm i)))] [] (am_W I J T L C) = some (.int v, am_W I1 J T L C)) : am_E 121 93 [.ref 49, .long (lN (cvl (wd i))), .null, .int (mts i), .int u, .int 0] [] (am_W I J T L C) = am_E 121 104 [.ref 49, .long (lN (cvl (wd i))), .null, .int (mts i), .int u, .int v] [] (am_W I1 J T L C) := by
  rcases (show i = 31 ∨ i = 32 ∨ i = 33 ∨ i = 34 ∨ i = 35 by omega) with rfl | rfl | rfl | rfl | rfl
  · rw [show lN (cvl (wd 31)) = 5132116 by decide +kernel]
    change am_E 107 0 [.ref 49, .int (I 49 25), .int 1000000] [] _ = _ at e
    refine (rg_121_93 I J T L C 5132116 22 u 0).trans ?_
    show am_E 121 102 [.ref 49, .long 5132116, .null, .int 22, .int u, .int 0] [.int 1000000, .int (I 49 25), .ref 49] (am_W I J T L C) = _
    rw [rg_121_102, e, am_okb, am_vIi, rg_121_103]
    rfl
  · rw [show lN (cvl (wd 32)) = 4607828 by decide +kernel]
    change am_E 107 0 [.ref 49, .int (I 49 25), .int 1000000] [] _ = _ at e
    refine (rg_121_93 I J T L C 4607828 23 u 0).trans ?_
    show am_E 121 102 [.ref 49, .long 4607828, .null, .int 23, .int u, .int 0] [.int 1000000, .int (I 49 25), .ref 49] (am_W I J T L C) = _
    rw [rg_121_102, e, am_okb, am_vIi, rg_121_103]
    rfl
  · rw [show lN (cvl (wd 33)) = 20564 by decide +kernel]
    change am_E 107 0 [.ref 49, .int (I 49 25), .int 1000000] [] _ = _ at e
    refine (rg_121_93 I J T L C 20564 24 u 0).trans ?_
    show am_E 121 102 [.ref 49, .long 20564, .null, .int 24, .int u, .int 0] [.int 1000000, .int (I 49 25), .ref 49] (am_W I J T L C) = _
    rw [rg_121_102, e, am_okb, am_vIi, rg_121_103]
    rfl
  · rw [show lN (cvl (wd 34)) = 5592131 by decide +kernel]
    change am_E 107 0 [.ref 49, .int (I 49 25), .int 32767] [] _ = _ at e
    refine (rg_121_93 I J T L C 5592131 25 u 0).trans ?_
    show am_E 121 102 [.ref 49, .long 5592131, .null, .int 25, .int u, .int 0] [.int 32767, .int (I 49 25), .ref 49] (am_W I J T L C) = _
    rw [rg_121_102, e, am_okb, am_vIi, rg_121_103]
    rfl
  · rw [show lN (cvl (wd 35)) = 4478019 by decide +kernel]
    change am_E 107 0 [.ref 49, .int (I 49 25), .int 32767] [] _ = _ at e
    refine (rg_121_93 I J T L C 4478019 26 u 0).trans ?_
    show am_E 121 102 [.ref 49, .long 4478019, .null, .int 26, .int u, .int 0] [.int 32767, .int (I 49 25), .ref 49] (am_W I J T L C) = _
    rw [rg_121_102, e, am_okb, am_vIi, rg_121_103]
    rfl
theorem bk_104 (I : Nat → Nat → Int32) (J : Nat → Nat → Int64) (T : Nat → Nat → Nat) (L : Nat) (C : Nat × Nat) {h n : Nat} (y : Int64) (a b c : Int32) (hh : h < 2) (hn : n < 80) (h23 : I 49 23 = nI h) (h56 : I 56 h = nI n) : am_E 121 104 [.ref 49, .long y, .null, .int a, .int b, .int c] [] (am_W I J T L C) = some (.int 1, am_W (MADD I h n a 0 0 b c) J T L C) := by
  rw [rg_121_104, mo_add I J T L C a 0 0 b c hh hn h23 h56, am_okb, rg_121_111]
theorem ble_lt (i : Nat) : ble i < 256 ∧ bmo i < 2 ^ 31 := by
  unfold ble bmo
  refine ⟨?_, ?_⟩
  · split
    · decide
    · split <;> decide
  · split <;> decide
/-- the model's block: no second word -/
theorem mo_blk1 (I : Nat → Nat → Int32) (J : Nat → Nat → Int64) (T : Nat → Nat → Nat) (L : Nat) (C : Nat × Nat) {tx : Nat → Nat} {N h n i f t g : Nat} (h1 : 31 ≤ i) (h2 : i ≤ 38) (hm : MT tx N h I) (hf : MK I f t) (hk : TK tx N 2 f t g) (h3 : I 49 3 = 0) (hn : n < 80) (h56 : I 56 h = nI n) (hq : 36 ≤ i ∨ (lef tx (tkf tx N t) (tkt tx N (tkf tx N t)) (tkt tx N (tkf tx N t)) (ble i) (bmo i) ≠ 0 ∧ lef tx (tkf tx N t) (tkt tx N (tkf tx N t)) (tkt tx N (tkf tx N t)) (ble i) (bmo i) < 7)) : ∃ Ia, FX I Ia ∧ MK Ia (tkf tx N t) (tkt tx N (tkf tx N t)) ∧ am_E 121 0 [.ref 49, .long (lN (cvl (wd i))), .null, .null, .null, .null] [] (am_W I J T L C) = some (.int 1, am_W (MADD (mfo Ia (lef tx (tkf tx N t) (tkt tx N (tkf tx N t)) (tkt tx N (tkf tx N t)) (ble i) (bmo i)) (tkf tx N t)) h n (mts i) 0 0 (mvo (lef tx (tkf tx N t) (tkt tx N (tkf tx N t)) (tkt tx N (tkf tx N t)) (ble i) (bmo i)) (nI (smv tx ((tkf tx N t) + 1) (tkt tx N (tkf tx N t))))) 0) J T L C) := by
  obtain ⟨Ia, a1, a2, a3⟩ := mo_next I J T L C hm.1 hf hk
  have hk2 := TK_n hk
  have hma : MT tx N h Ia := MT_k hm (fun q k' e => a3 q k' (by omega))
  refine ⟨Ia, a3, a2, ?_⟩
  rw [bk_hit I J T L C h1 h2, mo_may1 I J T L C hm.2.1 hn hm.2.2 h56 hf.1 h3, am_okb, am_vIi, rg_121_57, if_neg (show ¬ (1 : Int32) = 0 by decide), a1, am_okb]
  generalize hk' : tkk tx N (tkf tx N t) = k' at *
  generalize hf' : tkf tx N t = f' at *
  generalize ht' : tkt tx N f' = t' at *
  generalize hg' : tkg tx f' t' = g' at *
  rw [bk_62 Ia J T L C h1 h2 (mo_let Ia J T L C hma.1 a2.1 a2.2 hk2 (ble_lt i).1 (ble_lt i).2)]
  have g23 : mfo Ia (lef tx f' t' t' (ble i) (bmo i)) f' 49 23 = nI h := (mfo_ne Ia _ _ (by omega)).trans hma.2.2
  have g56 : mfo Ia (lef tx f' t' t' (ble i) (bmo i)) f' 56 h = nI n := (mfo_ne Ia _ _ (by omega)).trans ((a3 56 h (by omega)).trans h56)
  by_cases c : 36 ≤ i
  · rw [bk_82a _ J T L C c h2, bk_104 _ J T L C _ _ _ _ hm.2.1 hn g23 g56]
  · obtain ⟨q1, q2⟩ := hq.resolve_left c
    have w : ¬ mfo Ia (lef tx f' t' t' (ble i) (bmo i)) f' 49 3 = 0 := by
      unfold mfo
      rw [if_neg q1]
      exact WR_ne (WR_mfl ((a3 49 3 (by omega)).trans h3) _ f') (by omega) q2
    rw [bk_82w _ J T L C h1 (by omega) _ w, bk_104 _ J T L C _ _ _ _ hm.2.1 hn g23 g56]
/-- the model's block: a second word -/
theorem mo_blk2 (I : Nat → Nat → Int32) (J : Nat → Nat → Int64) (T : Nat → Nat → Nat) (L : Nat) (C : Nat × Nat) {tx : Nat → Nat} {N h n i f t g : Nat} (h1 : 31 ≤ i) (h2 : i ≤ 35) (hm : MT tx N h I) (hf : MK I f t) (hk : TK tx N 2 f t g) (h3 : I 49 3 = 0) (hn : n < 80) (h56 : I 56 h = nI n) (hq : lef tx (tkf tx N t) (tkt tx N (tkf tx N t)) (tkt tx N (tkf tx N t)) (ble i) (bmo i) = 0) : ∃ Ic, FX I Ic ∧ MK Ic (tkf tx N (tkt tx N (tkf tx N t))) (tkt tx N (tkf tx N (tkt tx N (tkf tx N t)))) ∧ am_E 121 0 [.ref 49, .long (lN (cvl (wd i))), .null, .null, .null, .null] [] (am_W I J T L C) = some (.int 1, am_W (MADD (mfo Ic (grf tx (tkf tx N (tkt tx N (tkf tx N t))) (tkt tx N (tkf tx N (tkt tx N (tkf tx N t)))) (lim (frm i))) (tkf tx N (tkt tx N (tkf tx N t)))) h n (mts i) 0 0 (nI (smv tx ((tkf tx N t) + 1) (tkt tx N (tkf tx N t)))) (mvo (grf tx (tkf tx N (tkt tx N (tkf tx N t))) (tkt tx N (tkf tx N (tkt tx N (tkf tx N t)))) (lim (frm i))) (nI (smv tx (tkf tx N (tkt tx N (tkf tx N t))) (tkt tx N (tkf tx N (tkt tx N (tkf tx N t)))))))) J T L C) := by
  obtain ⟨Ia, a1, a2, a3⟩ := mo_next I J T L C hm.1 hf hk
  have hk2 := TK_n hk
  have hma : MT tx N h Ia := MT_k hm (fun q k' e => a3 q k' (by omega))
  obtain ⟨Ic, c1, c2, c3⟩ := mo_next Ia J T L C hma.1 a2 hk2
  have hk3 := TK_n hk2
  have hmc : MT tx N h Ic := MT_k hma (fun q k' e => c3 q k' (by omega))
  have hl : lim (frm i) < 2 ^ 31 := by unfold lim; split <;> decide
  refine ⟨Ic, fun q k e => (c3 q k e).trans (a3 q k e), c2, ?_⟩
  rw [bk_hit I J T L C h1 (by omega), mo_may1 I J T L C hm.2.1 hn hm.2.2 h56 hf.1 h3, am_okb, am_vIi, rg_121_57, if_neg (show ¬ (1 : Int32) = 0 by decide), a1, am_okb]
  generalize hk' : tkk tx N (tkf tx N t) = k' at *
  generalize hf' : tkf tx N t = f' at *
  generalize ht' : tkt tx N f' = t' at *
  generalize hg' : tkg tx f' t' = g' at *
  generalize hk2' : tkk tx N (tkf tx N t') = k2 at *
  generalize hf2' : tkf tx N t' = f2 at *
  generalize ht2' : tkt tx N f2 = t2 at *
  generalize hg2' : tkg tx f2 t2 = g2 at *
  have el := mo_let Ia J T L C hma.1 a2.1 a2.2 hk2 (ble_lt i).1 (ble_lt i).2
  rw [hq] at el
  rw [bk_62 Ia J T L C h1 (by omega) el]
  have eg := mo_great Ic J T L C (a := f2) (b := t2) hmc.1 (TK_le hk3).2 (by have := TK_le hk3; have := hm.1.2.1; omega) c2.1 c2.2 hl
  rw [← c2.1] at eg
  change am_E 121 82 [.ref 49, .long (lN (cvl (wd i))), .null, .int (mts i), .null, .null] [.int (nI (smv tx (f' + 1) t'))] (am_W Ia J T L C) = _
  rw [bk_82o Ia J T L C h1 h2 _ ((a3 49 3 (by omega)).trans h3) c1, bk_93 Ic J T L C h1 h2 _ eg, bk_104 _ J T L C _ _ _ _ hm.2.1 hn ((mfo_ne Ic _ _ (by omega)).trans hmc.2.2) ((mfo_ne Ic _ _ (by omega)).trans ((c3 56 h (by omega)).trans ((a3 56 h (by omega)).trans h56)))]
theorem pl_bk {tx : Nat → Nat} {N k f t g i : Nat} (h1 : 31 ≤ i) (h2 : i ≤ 38) (h : TK tx N k f t g) : lef tx f t t (ble i) (bmo i) = crf tx k f t g (onl (frm i)) ∧ (crf tx k f t g (onl (frm i)) = 0 → crk tx k f t g = bki i ∧ crv tx k f t g = nI (smv tx (f + 1) t)) := by
  rcases (show i = 31 ∨ i = 32 ∨ i = 33 ∨ i = 34 ∨ i = 35 ∨ i = 36 ∨ i = 37 ∨ i = 38 by omega) with rfl | rfl | rfl | rfl | rfl | rfl | rfl | rfl
  · exact pl_T h
  · exact pl_T h
  · exact pl_T h
  · exact pl_C h
  · exact pl_C h
  · exact pl_C h
  · exact pl_E h
  · exact pl_E h
theorem fr_blk : ∀ i, 31 ≤ i → i ≤ 38 → onl (frm i) ≠ 0 ∧ frm i ≠ 12 ∧ frm i ≠ 13 ∧ frm i ≠ 4 ∧ frm i ≠ 6 ∧ (i < 36 → frm i = 8 ∨ frm i = 9) ∧ (36 ≤ i → frm i ≠ 8 ∧ frm i ≠ 9) ∧ (∀ d, alw false (frm i) d = true) := by
  intro i h1 h2
  rcases (show i = 31 ∨ i = 32 ∨ i = 33 ∨ i = 34 ∨ i = 35 ∨ i = 36 ∨ i = 37 ∨ i = 38 by omega) with rfl | rfl | rfl | rfl | rfl | rfl | rfl | rfl
  · exact ⟨by decide, by decide, by decide, by decide, by decide, by decide, by decide, fun _ => rfl⟩
  · exact ⟨by decide, by decide, by decide, by decide, by decide, by decide, by decide, fun _ => rfl⟩
  · exact ⟨by decide, by decide, by decide, by decide, by decide, by decide, by decide, fun _ => rfl⟩
  · exact ⟨by decide, by decide, by decide, by decide, by decide, by decide, by decide, fun _ => rfl⟩
  · exact ⟨by decide, by decide, by decide, by decide, by decide, by decide, by decide, fun _ => rfl⟩
  · exact ⟨by decide, by decide, by decide, by decide, by decide, by decide, by decide, fun _ => rfl⟩
  · exact ⟨by decide, by decide, by decide, by decide, by decide, by decide, by decide, fun _ => rfl⟩
  · exact ⟨by decide, by decide, by decide, by decide, by decide, by decide, by decide, fun _ => rfl⟩
theorem grf_rff {tx : Nat → Nat} {f t m : Nat} (h : t - f ≤ 700) : rff tx f t 700 m = grf tx f t m := by
  unfold rff grf
  cases numv (sl tx f t) with
  | none => rfl
  | some v =>
    show (if 700 < t - f ∨ m < v then 2 else 0) = (if m < v then 2 else 0)
    by_cases c : m < v
    · rw [if_pos (Or.inr c), if_pos c]
    · rw [if_neg (fun e => by rcases e with e | e <;> omega), if_neg c]
theorem grf_lt (tx : Nat → Nat) (f t m : Nat) : grf tx f t m < 7 := by
  unfold grf
  split
  · decide
  · split <;> decide
theorem grf_k {tx : Nat → Nat} {N k f t g m : Nat} (hk : TK tx N k f t g) (e : grf tx f t m = 0) : k = 2 := by
  unfold grf at e
  have fs := fig_some hk
  cases hv : numv (sl tx f t) with
  | none => rw [hv] at e; exact absurd e (show ¬ (1 : Nat) = 0 by decide)
  | some v =>
    rw [hv] at fs
    by_cases c : k = 2
    · exact c
    · rw [decide_eq_false c, Bool.false_and] at fs; exact absurd fs (show ¬ true = false by decide)
theorem pv_blk {i j : Nat} {k c : Int32} (l : Int32) (h1 : 31 ≤ i) (h2 : i ≤ 38) (hj : j < 8 ∨ (37 ≤ i ∧ j < 16)) (d0 : Nat) : PV (1001 + i) k (nI j) l (mts i) 0 c (nI j) l d0 d0 := by
  have em : mts i = nI (i - 9) := by unfold mts; rw [if_neg (by omega), if_neg (by omega), if_neg (by omega), if_neg (by omega)]
  rw [em]
  rcases (show i < 34 ∨ (34 ≤ i ∧ i < 36) ∨ i = 36 ∨ 37 ≤ i by omega) with e | e | e | e
  · exact Or.inr (Or.inr (Or.inr (Or.inr (Or.inr (Or.inr (Or.inr (Or.inl ⟨i - 31, j, by omega, by omega, by congr 1; omega, rfl, by omega, rfl, rfl, rfl⟩)))))))
  · exact Or.inr (Or.inr (Or.inr (Or.inr (Or.inr (Or.inr (Or.inr (Or.inr (Or.inl ⟨i - 34, j, by omega, by omega, by congr 1; omega, rfl, by omega, rfl, rfl, rfl⟩))))))))
  · exact Or.inr (Or.inr (Or.inr (Or.inr (Or.inr (Or.inr (Or.inr (Or.inr (Or.inr (Or.inl ⟨j, by omega, by rw [e]; rfl, rfl, by omega, rfl, rfl⟩)))))))))
  · exact Or.inr (Or.inr (Or.inr (Or.inr (Or.inr (Or.inr (Or.inr (Or.inr (Or.inr (Or.inr ⟨i - 37, j, by omega, by omega, by congr 1; omega, rfl, by omega, rfl, rfl⟩)))))))))
theorem bki_p {i : Nat} : bki i ≠ 11 ∧ bki i < 11 ∧ rng (bki i) = if i < 37 then 8 else 16 := by
  unfold bki
  by_cases a : i < 34
  · rw [if_pos a, if_pos (by omega)]; exact ⟨by decide, by decide, rfl⟩
  · rw [if_neg a]
    by_cases b : i < 37
    · rw [if_pos b, if_pos b]; exact ⟨by decide, by decide, rfl⟩
    · rw [if_neg b, if_neg b]; exact ⟨by decide, by decide, rfl⟩
theorem gp_blk {L : Nat} {C : Nat × Nat} {Lm : Nat} {Cm : Nat × Nat} {Tm : Nat → Nat → Nat} {J : Nat → Nat → Int64} {J' : Nat → Nat → Int64} {D : Nat → Nat} {tx : Nat → Nat} {N h n ng d nc f t g : Nat} {I : Nat → Nat → Int32} {T : Nat → Nat → Nat} {I' : Nat → Nat → Int32} (x1 xm : Int32) (v2 v3 u2 u3 : Value) (p : PRE D tx N h n ng d nc f t g I T I') {i : Nat} (hn : n < 80) (h1 : 31 ≤ i) (h2 : i ≤ 38) (hw : sl tx f t = wd i) : OF N h L C Lm Cm Tm J J' I T I' (am_E 44 42 [.ref 2, .int x1, v2, v3] [.int 1] (am_W I J T L C)) (am_E 127 75 [.ref 49, .int xm, u2, u3] [.long (lN (cod tx f t))] (am_W I' J' Tm Lm Cm)) ∨ OG tx N h f I T I' (am_E 44 42 [.ref 2, .int x1, v2, v3] [.int 1] (am_W I J T L C)) (am_E 127 75 [.ref 49, .int xm, u2, u3] [.long (lN (cod tx f t))] (am_W I' J' Tm Lm Cm)) (fcl L C J x1 (1001 + i)) (fmo Lm Cm Tm J' xm (lN (cvl (sl tx f t)))) := by
  have p' := p
  obtain ⟨v, c, k, mk, nb, hD⟩ := p'
  obtain ⟨hm, h3, h4⟩ := LV_mt v
  have hN := hm.1.2.1
  obtain ⟨hft, htN, hl⟩ := TK_wl (TX_lt hm.1) hN k
  have w := v.2.2.2.1
  have h56 : I' 56 h = nI n := w.2.2.2.2.1
  have hd8 : d ≤ 8 := w.2.2.2.2.2.2.2.2.1
  obtain ⟨b1, b2, b3⟩ := bix_w (by omega : i < 41) hft hw
  have ne : ∀ j, j < 41 → j ≠ i → sl tx f t ≠ wd j := fun j hj hne => by rw [hw]; exact wd_inj i (by omega) j hj (Ne.symm hne)
  have sm := is_signm I' J' Tm Lm Cm hm.1 mk k (fun a ha => by rw [b3]; exact ne (6 + a) (by omega) (by omega))
  obtain ⟨o1, o2, o3, o4, o5, o6, o7, o8⟩ := fr_blk i h1 h2
  have go : ∀ I2, am_E 121 0 [.ref 49, .long (lN (cvl (wd i))), .null, .null, .null, .null] [] (am_W I' J' Tm Lm Cm) = some (.int 1, am_W I2 J' Tm Lm Cm) → (am_E 127 75 [.ref 49, .int xm, u2, u3] [.long (lN (cod tx f t))] (am_W I' J' Tm Lm Cm)) = am_E 127 110 [.ref 49, .int xm, .long (lN (cvl (sl tx f t))), .null] [] (am_W I2 J' Tm Lm Cm) := by
    intro I2 e
    rw [← hw] at e
    have mo := ds_4 I' J' Tm Lm Cm xm u2 u3 hl (ne 39 (by decide) (by omega)) (ne 40 (by decide) (by omega)) (fun j hj => ne j (by omega) (by omega)) sm (fun j hj q1 q2 => ne j hj (by omega)) e
    rw [cod_cvl]; exact mo
  have hr : rof false i n ng d = 0 := rof_ok (by omega) (fun e => absurd e (by decide)) hn o3 (o8 d)
  have cc := cl_cell (J := J) (L := L) (C := C) x1 v2 v3 p (i := i) (by omega) o2 o3 hw o1 hr o4
  have hk2 := TK_n k
  have nb2 := NB_n k nb (by decide)
  have pl := pl_bk h1 h2 hk2
  have B1 := mo_blk1 I' J' Tm Lm Cm h1 h2 hm mk k h3 hn h56
  have B2 := fun e : i ≤ 35 => mo_blk2 I' J' Tm Lm Cm h1 e hm mk k h3 hn h56
  generalize hk' : tkk tx N (tkf tx N t) = k' at *
  generalize hf' : tkf tx N t = f' at *
  generalize ht' : tkt tx N f' = t' at *
  generalize hg' : tkg tx f' t' = g' at *
  rw [pl.1] at B1 B2
  obtain ⟨z1, z2, z3⟩ := bki_p (i := i)
  rcases cc with ⟨c1, c7, Ix, c2, c3⟩ | ⟨c1, c2, c3, I3, c4, c5, c6, c8, c9, c10, c11, c12⟩
  · refine Or.inl ?_
    obtain ⟨Ia, a1, a2, a3⟩ := B1 (Or.inr ⟨c1, c7⟩)
    have mo := go _ a3
    generalize crf tx k' f' t' g' (onl (frm i)) = K at *
    have w1 : WR (mfo Ia K f') K f' := by
      unfold mfo
      rw [if_neg c1]
      exact WR_mfl ((a1 49 3 (by omega)).trans h3) _ _
    generalize mvo K (nI (smv tx (f' + 1) t')) = V at *
    have mp : MP h I' (MADD (mfo Ia K f') h n (mts i) 0 0 V 0) := MP_t (MP_t (MP_fx a1) (MP_mfo h Ia _ _)) (MP_add hn _ _ _ _ _ _)
    obtain ⟨I2, m1, m2, ⟨t2, m3, m4⟩, m5⟩ := mt_110 (MADD (mfo Ia K f') h n (mts i) 0 0 V 0) J' Tm Lm Cm (k := K) (p := f') xm (lN (cvl (sl tx f t))) (MT_p hm mp).1 ((MADD_ne (by omega)).trans ((mfo_ne Ia _ _ (by omega)).trans a2.2)) (TK_le hk2).2 ⟨(MADD_ne (by omega)).trans w1.1, (MADD_ne (by omega)).trans w1.2⟩ (by omega) c7
    exact OF_mk (by omega) c7 (by have := (TK_le hk2); omega) c2 (mo.trans m1) m5 m3 m4 c3 (CPt_r T) (MP_t mp (MP_fx m2))
  · obtain ⟨p3, p4⟩ := pl.2 c1
    have hcv := crv_n c3 (by rw [p3]; exact z2)
    have hx : cnv tx g' t' < (if i < 37 then 8 else 16) := num_lt c1 c2 c3 (by rw [p3]; exact z1) (by rw [p3]; exact z3)
    have hx2 : cnv tx g' t' < 8 ∨ (37 ≤ i ∧ cnv tx g' t' < 16) := by
      by_cases q : i < 37
      · rw [if_pos q] at hx; exact Or.inl hx
      · rw [if_neg q] at hx; exact Or.inr ⟨by omega, hx⟩
    have ek : k' = 2 := (kow_p c3).2.1
    have em : nI (smv tx (f' + 1) t') = nI (cnv tx g' t') := p4.symm.trans hcv
    rw [c1, em] at B1
    rw [em] at B2
    subst ek
    have nb3 := NB_n hk2 nb2.1 (by decide)
    have hk3 := TK_n hk2
    by_cases h36 : 36 ≤ i
    · refine Or.inr ?_
      obtain ⟨Ia, a1, a2, a3⟩ := B1 (Or.inl h36)
      have ef : mfo Ia 0 f' = Ia := if_pos rfl
      rw [ef] at a3
      have mo := go _ a3
      have mp : MP h I' (MADD Ia h n (mts i) 0 0 (nI (cnv tx g' t')) 0) := MP_t (MP_fx a1) (MP_add hn _ _ _ _ _ _)
      obtain ⟨I2, m1, m2, m3⟩ := mt_ok (MADD Ia h n (mts i) 0 0 (nI (cnv tx g' t')) 0) J' Tm Lm Cm xm (lN (cvl (sl tx f t))) (MT_p hm mp).1 ⟨(MADD_ne (by omega)).trans a2.1, (MADD_ne (by omega)).trans a2.2⟩ hk2
      have vv : LV D tx N h n ng d nc f I3 T Ia := LV_keep c10 (fun _ => rfl) (fun q k hq => a1 q k (fun e => hq.2.2 ⟨e.1, by omega⟩)) v
      have lv := fin_add hn hd8 vv (q := 1001 + i) (k := I3 2 10) (m := nI (cnv tx g' t')) (l := 0) (a := mts i) (b := 0) (c := 0) (dd := nI (cnv tx g' t')) (e := 0) (Or.inl (PA_of (by have := pv_blk (k := I3 2 10) (c := 0) 0 h1 h2 hx2 (D n); rw [hD] at this ⊢; exact this))) (f' := tkf tx N t') (by omega) m3
      refine ⟨_, n + 1, ng, d, nc, _, _, _, _, _, _, I2, ?_, mo.trans m1, lv, ?_, hk3, m2, nb3.1, if_pos rfl, by omega, ?_, CPt_u T _ _, MP_t mp (MP_fx m3)⟩
      · rw [c4, ro_28 I3 J T L C _ _ (by omega : i < 41) hn c9 ⟨(o7 h36).1, (o7 h36).2, o5⟩, am_okb, am_vIi, t73_1, c6, hcv]
        rfl
      · exact ⟨(ADD_ne (by omega)).trans c8.1, (ADD_ne (by omega)).trans c8.2.1, (ADD_ne (by omega)).trans c8.2.2.1, (ADD_ne (by omega)).trans c8.2.2.2⟩
      · exact CPf_t c11 (CPf_add _ n _ _ _)
    · obtain ⟨Ic, a1, a2, a3⟩ := B2 (by omega) c1
      have mo := go _ a3
      have rt := ro_time I3 J T L C (nI f') (onl (frm i)) (by omega : i < 41) hn c9 (o6 (by omega)) c12 c8 hk3
      generalize hk2' : tkk tx N (tkf tx N t') = k2 at *
      generalize hf2' : tkf tx N t' = f2 at *
      generalize ht2' : tkt tx N f2 = t2 at *
      generalize hg2' : tkg tx f2 t2 = g2 at *
      have h700 : t2 - f2 ≤ 700 := by have := TK_le hk3; omega
      rw [grf_rff h700] at rt
      have gl := grf_lt tx f2 t2 (lim (frm i))
      have hgz : grf tx f2 t2 (lim (frm i)) = 0 → k2 = 2 := fun e => grf_k hk3 e
      generalize grf tx f2 t2 (lim (frm i)) = K at *
      rcases rt with ⟨r1, r2⟩ | ⟨r1, I4, r2, r3, r4⟩
      · refine Or.inl ?_
        have w1 : WR (mfo Ic K f2) K f2 := by
          unfold mfo
          rw [if_neg r1]
          exact WR_mfl ((a1 49 3 (by omega)).trans h3) _ _
        generalize mvo K (nI (smv tx f2 t2)) = V at *
        have mp : MP h I' (MADD (mfo Ic K f2) h n (mts i) 0 0 (nI (cnv tx g' t')) V) := MP_t (MP_t (MP_fx a1) (MP_mfo h Ic _ _)) (MP_add hn _ _ _ _ _ _)
        obtain ⟨I2, m1, m2, ⟨t3, m3, m4⟩, m5⟩ := mt_110 (MADD (mfo Ic K f2) h n (mts i) 0 0 (nI (cnv tx g' t')) V) J' Tm Lm Cm (k := K) (p := f2) xm (lN (cvl (sl tx f t))) (MT_p hm mp).1 ((MADD_ne (by omega)).trans ((mfo_ne Ic _ _ (by omega)).trans a2.2)) (TK_le hk3).2 ⟨(MADD_ne (by omega)).trans w1.1, (MADD_ne (by omega)).trans w1.2⟩ (by omega) gl
        exact OF_mk (by omega) gl (by have := (TK_le hk3); omega) (by rw [c4, r2, am_okb, am_vIi, t73_0]) (mo.trans m1) m5 m3 m4 c11 (CPt_r T) (MP_t mp (MP_fx m2))
      · refine Or.inr ?_
        subst r1
        have ef : mfo Ic 0 f2 = Ic := if_pos rfl
        rw [ef] at mo
        have ev : mvo 0 (nI (smv tx f2 t2)) = nI (smv tx f2 t2) := rfl
        rw [ev] at mo
        have k20 : k2 ≠ 0 := by rw [hgz rfl]; decide
        have mp : MP h I' (MADD Ic h n (mts i) 0 0 (nI (cnv tx g' t')) (nI (smv tx f2 t2))) := MP_t (MP_fx a1) (MP_add hn _ _ _ _ _ _)
        obtain ⟨I2, m1, m2, m3⟩ := mt_ok (MADD Ic h n (mts i) 0 0 (nI (cnv tx g' t')) (nI (smv tx f2 t2))) J' Tm Lm Cm xm (lN (cvl (sl tx f t))) (MT_p hm mp).1 ⟨(MADD_ne (by omega)).trans a2.1, (MADD_ne (by omega)).trans a2.2⟩ hk3
        have vv : LV D tx N h n ng d nc f I4 T Ic := LV_keep (fun q k hq => (r4 q k (fun e => hq.2.2 ⟨e.1, by omega⟩)).trans (c10 q k hq)) (fun _ => rfl) (fun q k hq => a1 q k (fun e => hq.2.2 ⟨e.1, by omega⟩)) v
        have nb4 := NB_n hk3 nb3.1 k20
        have hk4 := TK_n hk3
        have lv := fin_add hn hd8 vv (q := 1001 + i) (k := I3 2 10) (m := nI (cnv tx g' t')) (l := nI (smv tx f2 t2)) (a := mts i) (b := 0) (c := 0) (dd := nI (cnv tx g' t')) (e := nI (smv tx f2 t2)) (Or.inl (PA_of (by have := pv_blk (k := I3 2 10) (c := 0) (nI (smv tx f2 t2)) h1 h2 hx2 (D n); rw [hD] at this ⊢; exact this))) (f' := tkf tx N t2) (by omega) m3
        refine ⟨_, n + 1, ng, d, nc, _, _, _, _, _, _, I2, ?_, mo.trans m1, lv, ?_, hk4, m2, nb4.1, if_pos rfl, by omega, ?_, CPt_u T _ _, MP_t mp (MP_fx m3)⟩
        · rw [c4, r2, am_okb, am_vIi, t73_1, c6, hcv]
          rfl
        · exact ⟨(ADD_ne (by omega)).trans r3.1, (ADD_ne (by omega)).trans r3.2.1, (ADD_ne (by omega)).trans r3.2.2.1, (ADD_ne (by omega)).trans r3.2.2.2⟩
        · exact CPf_t (CPf_t c11 (CPf_fg r4)) (CPf_add _ n _ _ _)

/-! BRACKETS opened and closed, in both. -/
theorem so_open {L : Nat} {C : Nat × Nat} {Lm : Nat} {Cm : Nat × Nat} {Tm : Nat → Nat → Nat} {I : Nat → Nat → Int32} {J : Nat → Nat → Int64} {T : Nat → Nat → Nat} {I' : Nat → Nat → Int32} {J' : Nat → Nat → Int64} {p i d a : Nat} (hp : p < 80) (hi : i < 160) (ha : a < 17) (hT : T 44 p = 1007 + a) (e51 : I' 51 i = nI (ow a)) (e52 : I' 52 i = nI (oh a + 2)) (hk : I 45 p = 12) (hd : d < 8) (R : R_run I J I' J') (s0 : I 22 3 = 0) (rl : R_list I T I' d) : SO L C Lm Cm Tm p i (d + 1) I J T I' J' := by
  obtain ⟨r1, r2, r3, r4, r5⟩ := rl
  have hc : in_cl L C (T 44 p) p (am_up I 22 8 (nI (p + 1))) J T (am_up (am_up (am_up (am_up I 22 8 (nI (p + 1))) 32 d (I 22 7)) 22 9 (nI (d + 1))) 22 7 0) J (am_up T 33 d (1007 + a)) := by
    rw [hT]
    exact in_perf (sf_sg L ha) (by omega) (op_blk_sg _ J T L C ha) (pf_op (am_up I 22 8 (nI (p + 1))) J T L C ha hp hk hd r2)
  have h14 : ¬ (14 : Int32) ≤ I' 51 i := by
    rw [e51]
    show ¬ nI 14 ≤ nI (ow a)
    exact nI_ge (ow_lt ha) (by decide)
  have hm : am_E 146 0 [.ref 49, .int (nI i), .null, .null] [] (am_W I' J' Tm Lm Cm) = some (.int 0, am_W (am_up (am_up (am_up (am_up I' 90 d (I' 49 60)) 91 d (nI i)) 49 59 (nI (d + 1))) 49 60 0) J' Tm Lm Cm) := by
    refine mo_act_sign I' J' Tm Lm Cm hi h14 (mo_aside I' J' Tm Lm Cm hi ?_ hd r3)
    rw [e52]
    show ¬ nI (oh a + 2) < nI 2
    exact nI_nlt (by omega) (by have := oh_lt a; omega)
  obtain ⟨⟨c0, c1, c2, c3, c4, c5, c6, c7, c8, c9⟩, ⟨p0, p1, p2, p3, p4, p5, p6, p7, p8⟩, k⟩ := R
  refine ⟨0, _, J, _, _, J', hc, hm, ⟨⟨c0, c1, c2, c3, c4, c5, c6, c7, c8, c9⟩, ⟨p0, p1, p2, p3, p4, p5, p6, p7, p8⟩, k⟩, ⟨s0, Or.inl rfl⟩, fun _ => ⟨⟨rfl, rfl, rfl, hd, ?_⟩, rfl⟩, ⟨?_, fun _ _ _ => rfl, ?_⟩, ⟨?_, fun _ _ _ => rfl⟩⟩
  · intro e he
    by_cases h : e = d
    · subst h
      refine ⟨a, i, ha, hi, am_up_here _ _ _ _, ?_, ?_, e51, e52⟩
      · show am_up I' 90 e (I' 49 60) 90 e = am_up (am_up I 22 8 (nI (p + 1))) 32 e (I 22 7) 32 e
        rw [am_up_here, am_up_here, r1]
      · show am_up (am_up I' 90 e (I' 49 60)) 91 e (nI i) 91 e = nI i
        rw [am_up_here]
    · obtain ⟨a', i', h1, h2, h3, h4, h5, h6, h7⟩ := r5 e (by omega)
      refine ⟨a', i', h1, h2, ?_, ?_, ?_, h6, h7⟩
      · rw [am_up_ne (by omega)]; exact h3
      · show am_up I' 90 d (I' 49 60) 90 e = am_up (am_up I 22 8 (nI (p + 1))) 32 d (I 22 7) 32 e
        rw [am_up_ne (by omega), am_up_ne (by omega)]; exact h4
      · show am_up (am_up I' 90 d (I' 49 60)) 91 d (nI i) 91 e = nI i'
        rw [am_up_ne (by omega), am_up_ne (by omega)]; exact h5
  · intro q k h
    rw [am_up_ne (by omega), am_up_ne (by omega), am_up_ne (by omega), am_up_ne (by omega)]
  · intro q k h
    rw [am_up_ne (by omega)]
  · intro q k h
    rw [am_up_ne (by omega), am_up_ne (by omega), am_up_ne (by omega), am_up_ne (by omega)]
theorem mo_clo_if (a : Nat) (v : Int32) : (if nI (oh a + 2) = 3 then op_not v else v) = jn_op a v := by
  unfold jn_op
  by_cases h : oh a = 1
  · rw [h, if_pos (by decide +kernel), if_pos rfl]
  · have h0 : oh a = 0 := by have := oh_lt a; omega
    rw [h0, if_neg (by decide +kernel), if_neg (by decide)]
theorem so_close {L : Nat} {C : Nat × Nat} {Lm : Nat} {Cm : Nat × Nat} {Tm : Nat → Nat → Nat} {I : Nat → Nat → Int32} {J : Nat → Nat → Int64} {T : Nat → Nat → Nat} {I' : Nat → Nat → Int32} {J' : Nat → Nat → Int64} {p i d : Nat} (hp : p < 80) (hi : i < 160) (hT : T 44 p = 1024) (e51 : I' 51 i = 18) (R : R_run I J I' J') (s0 : I 22 3 = 0) (rl : R_list I T I' (d + 1)) : SO L C Lm Cm Tm p i d I J T I' J' := by
  obtain ⟨r1, r2, r3, r4, r5⟩ := rl
  obtain ⟨a, b, ha, hb, t33, e90, e91, b51, b52⟩ := r5 d (by omega)
  have hd : d < 8 := by omega
  have hc : in_cl L C (T 44 p) p (am_up I 22 8 (nI (p + 1))) J T (am_up (clc (am_up (am_up I 22 8 (nI (p + 1))) 22 9 (nI d)) (I 32 d) (cal a (I 32 d) (I 22 7))).2 22 7 (clc (am_up (am_up I 22 8 (nI (p + 1))) 22 9 (nI d)) (I 32 d) (cal a (I 32 d) (I 22 7))).1) J T := by
    rw [hT]
    refine in_perf rfl (by decide) (op_blk_23 _ J T L C) ?_
    have e18 := ma_take (am_up I 22 8 (nI (p + 1))) J T L C hd r2 t33 (sf_sg L ha) (by omega)
    have ecal := op_cal (am_up (am_up I 22 8 (nI (p + 1))) 22 9 (nI d)) J T L C ha (I 32 d) (I 22 7)
    rw [pf_23 _ _ _ _ _ hp, e18]
    show Option.bind (Option.bind (am_E 19 0 [.ref 22, .ref (1007 + a), .int (I 32 d), .int (I 22 7), .null] [] (am_W (am_up (am_up I 22 8 (nI (p + 1))) 22 9 (nI d)) J T L C)) _) _ = _
    rw [ecal, am_okb, am_vIi, rg_18_36, am_okb, rg_15_70]
  have hm : am_E 146 0 [.ref 49, .int (nI i), .null, .null] [] (am_W I' J' Tm Lm Cm) = some (.int (mjs (cal a (I 32 d) (I 22 7))), am_W (mjI (am_up I' 49 59 (nI d)) (cal a (I 32 d) (I 22 7))) J' Tm Lm Cm) := by
    refine mo_act_close I' J' Tm Lm Cm hi e51 (mo_close I' J' Tm Lm Cm hd r3 hb e91 ?_)
    rw [b51, e90, b52, r1, mo_clo_if]
    exact mo_jn (am_up I' 49 59 (nI d)) J' Tm Lm Cm (ow_lt ha) (I 32 d) (jn_op a (I 22 7))
  obtain ⟨⟨c0, c1, c2, c3, c4, c5, c6, c7, c8, c9⟩, ⟨p0, p1, p2, p3, p4, p5, p6, p7, p8⟩, k⟩ := R
  cases ho : cal a (I 32 d) (I 22 7) with
  | none =>
    rw [ho] at hc hm
    refine ⟨2, _, J, T, _, J', hc, hm, ⟨⟨c0, c1, c2, c3, c4, c5, c6, c7, c8, c9⟩, ⟨p0, p1, p2, p3, p4, p5, p6, p7, p8⟩, k⟩, ⟨rfl, Or.inr rfl⟩, fun h => absurd h (by decide +kernel), ⟨?_, fun _ _ _ => rfl, fun _ _ _ => rfl⟩, ⟨?_, fun _ _ _ => rfl⟩⟩
    · intro q k h
      show am_up (am_up (am_up (am_up I 22 8 (nI (p + 1))) 22 9 (nI d)) 22 3 2) 22 7 (I 32 d) q k = _
      rw [am_up_ne (by omega), am_up_ne (by omega), am_up_ne (by omega), am_up_ne (by omega)]
    · intro q k h
      show am_up I' 49 59 (nI d) q k = _
      rw [am_up_ne (by omega)]
  | some v =>
    rw [ho] at hc hm
    refine ⟨0, _, J, T, _, J', hc, hm, ⟨⟨c0, c1, c2, c3, c4, c5, c6, c7, c8, c9⟩, ⟨p0, p1, p2, p3, p4, p5, p6, p7, p8⟩, k⟩, ⟨s0, Or.inl rfl⟩, fun _ => ⟨⟨rfl, rfl, rfl, by omega, fun e he => r5 e (by omega)⟩, rfl⟩, ⟨?_, fun _ _ _ => rfl, fun _ _ _ => rfl⟩, ⟨?_, fun _ _ _ => rfl⟩⟩
    · intro q k h
      show am_up (am_up (am_up I 22 8 (nI (p + 1))) 22 9 (nI d)) 22 7 v q k = _
      rw [am_up_ne (by omega), am_up_ne (by omega), am_up_ne (by omega)]
    · intro q k h
      show am_up (am_up I' 49 59 (nI d)) 49 60 v q k = _
      rw [am_up_ne (by omega), am_up_ne (by omega)]

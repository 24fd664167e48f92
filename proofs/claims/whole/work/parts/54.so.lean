/-! STORES, S and R, edges, CLR in both. -/
theorem so_gen {L : Nat} {C : Nat × Nat} {Lm : Nat} {Cm : Nat × Nat} {Tm : Nat → Nat → Nat} {I : Nat → Nat → Int32} {J : Nat → Nat → Int64} {T : Nat → Nat → Nat} {I' : Nat → Nat → Int32} {J' : Nat → Nat → Int64} {p i d : Nat} {I1 : Nat → Nat → Int32} {J1 : Nat → Nat → Int64} {I2 : Nat → Nat → Int32} {J2 : Nat → Nat → Int64} (hc : in_cl L C (T 44 p) p (am_up I 22 8 (nI (p + 1))) J T I1 J1 T) (hm : am_E 146 0 [.ref 49, .int (nI i), .null, .null] [] (am_W I' J' Tm Lm Cm) = some (.int 0, am_W I2 J2 Tm Lm Cm)) (R1 : R_run I1 J1 I2 J2) (s0 : I 22 3 = 0) (rl : R_list I T I' d) (hr : I2 49 60 = I1 22 7) (f : ∀ q k, (q < 22 ∨ 33 ≤ q ∨ (q = 22 ∧ k < 7 ∧ k ≠ 3)) → I1 q k = I q k) (fJ : ∀ q k, (q < 29 ∨ 32 ≤ q) → J1 q k = J q k) (g : ∀ q k, (q < 49 ∨ (q = 49 ∧ k < 59) ∨ (50 ≤ q ∧ q ≤ 70) ∨ q = 80 ∨ 92 ≤ q) → I2 q k = I' q k) (gJ : ∀ q k, (q < 81 ∨ 92 ≤ q) → J2 q k = J' q k) (f3 : I1 22 3 = I 22 3) (f8 : I1 22 8 = nI (p + 1)) (f9 : I1 22 9 = I 22 9) (f32 : ∀ e, I1 32 e = I 32 e) (g59 : I2 49 59 = I' 49 59) (g90 : ∀ e, I2 90 e = I' 90 e) (g91 : ∀ e, I2 91 e = I' 91 e) : SO L C Lm Cm Tm p i d I J T I' J' := by
  obtain ⟨r1, r2, r3, r4, r5⟩ := rl
  refine ⟨0, I1, J1, T, I2, J2, hc, hm, R1, ⟨f3.trans s0, Or.inl rfl⟩, fun _ => ⟨⟨hr, f9.trans r2, g59.trans r3, r4, ?_⟩, f8⟩, ⟨f, fJ, fun _ _ _ => rfl⟩, ⟨g, gJ⟩⟩
  intro e he
  obtain ⟨a, b, h1, h2, h3, h4, h5, h6, h7⟩ := r5 e he
  exact ⟨a, b, h1, h2, h3, by rw [g90, f32]; exact h4, by rw [g91]; exact h5, by rw [g 51 b (by omega)]; exact h6, by rw [g 52 b (by omega)]; exact h7⟩
theorem mo_cnt0 (v : Int32) : mo_cnt (nI 0) v = v := if_neg (by decide +kernel)
theorem mo_cnt1 (v : Int32) : mo_cnt (nI 1) v = op_not v := if_pos (by decide +kernel)
theorem so_st1 {L : Nat} {C : Nat × Nat} {Lm : Nat} {Cm : Nat × Nat} {Tm : Nat → Nat → Nat} {I : Nat → Nat → Int32} {J : Nat → Nat → Int64} {T : Nat → Nat → Nat} {I' : Nat → Nat → Int32} {J' : Nat → Nat → Int64} {p i d ck j : Nat} {v : Int32} (hck : ck = 1 ∨ ck = 2 ∨ ck = 6) (hj : j < 32) (hc : in_cl L C (T 44 p) p (am_up I 22 8 (nI (p + 1))) J T (ma_st (am_up I 22 8 (nI (p + 1))) ck j v) J T) (hm : am_E 146 0 [.ref 49, .int (nI i), .null, .null] [] (am_W I' J' Tm Lm Cm) = some (.int 0, am_W (if ck = 6 then am_up I' 74 j v else am_up I' (70 + cmk ck) j (am_b01 (decide (v ≠ 0)))) J' Tm Lm Cm)) (R : R_run I J I' J') (s0 : I 22 3 = 0) (rl : R_list I T I' d) : SO L C Lm Cm Tm p i d I J T I' J' := by
  obtain ⟨⟨c0, c1, c2, c3, c4, c5, c6, c7, c8, c9⟩, ⟨p0, p1, p2, p3, p4, p5, p6, p7, p8⟩, k⟩ := R
  rcases hck with rfl | rfl | rfl
  · refine so_gen (I1 := am_up (am_up I 22 8 (nI (p + 1))) 24 1 (am_wb (I 24 1) j (decide (v ≠ 0)))) (I2 := am_up I' 72 j (am_b01 (decide (v ≠ 0)))) hc hm ⟨⟨c0, R_b_set c1 (by decide) hj, c2, c3, c4, c5, c6, c7, c8, c9⟩, ⟨p0, p1, p2, p3, p4, p5, p6, p7, p8⟩, k⟩ s0 rl rl.1 ?_ (fun _ _ _ => rfl) ?_ (fun _ _ _ => rfl) rfl rfl rfl (fun _ => rfl) rfl (fun _ => rfl) (fun _ => rfl)
    · intro q k h; rw [am_up_ne (by omega), am_up_ne (by omega)]
    · intro q k h; rw [am_up_ne (by omega)]
  · refine so_gen (I1 := am_up (am_up I 22 8 (nI (p + 1))) 24 2 (am_wb (I 24 2) j (decide (v ≠ 0)))) (I2 := am_up I' 73 j (am_b01 (decide (v ≠ 0)))) hc hm ⟨⟨c0, c1, R_b_set c2 (by decide) hj, c3, c4, c5, c6, c7, c8, c9⟩, ⟨p0, p1, p2, p3, p4, p5, p6, p7, p8⟩, k⟩ s0 rl rl.1 ?_ (fun _ _ _ => rfl) ?_ (fun _ _ _ => rfl) rfl rfl rfl (fun _ => rfl) rfl (fun _ => rfl) (fun _ => rfl)
    · intro q k h; rw [am_up_ne (by omega), am_up_ne (by omega)]
    · intro q k h; rw [am_up_ne (by omega)]
  · refine so_gen (I1 := am_up (am_up I 22 8 (nI (p + 1))) 25 j v) (I2 := am_up I' 74 j v) hc hm ⟨⟨c0, c1, c2, c3, c4, c5, R_e_set (f := am_up I 22 8 (nI (p + 1))) c6, c7, c8, c9⟩, ⟨p0, p1, p2, p3, p4, p5, p6, p7, p8⟩, k⟩ s0 rl rl.1 ?_ (fun _ _ _ => rfl) ?_ (fun _ _ _ => rfl) rfl rfl rfl (fun _ => rfl) rfl (fun _ => rfl) (fun _ => rfl)
    · intro q k h; rw [am_up_ne (by omega), am_up_ne (by omega)]
    · intro q k h; rw [am_up_ne (by omega)]
theorem so_st {L : Nat} {C : Nat × Nat} {Lm : Nat} {Cm : Nat × Nat} {Tm : Nat → Nat → Nat} {I : Nat → Nat → Int32} {J : Nat → Nat → Int64} {T : Nat → Nat → Nat} {I' : Nat → Nat → Int32} {J' : Nat → Nat → Int64} {p i d b ck j : Nat} (hp : p < 80) (hi : i < 160) (hb : b < 2) (hT : T 44 p = 1003 + b) (e51 : I' 51 i = 15) (e52 : I' 52 i = nI b) (hk : I 45 p = nI ck) (hck : ck = 1 ∨ ck = 2 ∨ ck = 6) (hn : I 46 p = nI j) (hj : j < 32) (e53 : I' 53 i = nI (cmk ck)) (e54 : I' 54 i = nI j) (R : R_run I J I' J') (s0 : I 22 3 = 0) (rl : R_list I T I' d) : SO L C Lm Cm Tm p i d I J T I' J' := by
  have hm : am_E 146 0 [.ref 49, .int (nI i), .null, .null] [] (am_W I' J' Tm Lm Cm) = some (.int 0, am_W (if ck = 6 then am_up I' 74 j (mo_cnt (nI b) (I 22 7)) else am_up I' (70 + cmk ck) j (am_b01 (decide (mo_cnt (nI b) (I 22 7) ≠ 0)))) J' Tm Lm Cm) := by
    refine mo_act_store I' J' Tm Lm Cm hi (Or.inl e51) ?_
    rcases hck with rfl | rfl | rfl
    · have h := mo_storeB I' J' Tm Lm Cm hi e51 e53 (Or.inl rfl) e54 hj
      rw [e52, rl.1] at h
      exact h
    · have h := mo_storeB I' J' Tm Lm Cm hi e51 e53 (Or.inr rfl) e54 hj
      rw [e52, rl.1] at h
      exact h
    · have h := mo_storeW I' J' Tm Lm Cm hi e51 e53 e54 hj
      rw [e52, rl.1] at h
      exact h
  rcases (show b = 0 ∨ b = 1 by omega) with rfl | rfl
  · rw [mo_cnt0] at hm
    refine so_st1 hck hj ?_ hm R s0 rl
    rw [hT]
    exact in_perf rfl (by decide) (op_blk_2 _ J T L C) (pf_2 (am_up I 22 8 (nI (p + 1))) J T L C hp hk hn (by omega) hj)
  · rw [mo_cnt1] at hm
    refine so_st1 hck hj ?_ hm R s0 rl
    rw [hT]
    exact in_perf rfl (by decide) (op_blk_3 _ J T L C) (pf_3 (am_up I 22 8 (nI (p + 1))) J T L C hp hk hn (by omega) hj)
theorem so_nop {L : Nat} {C : Nat × Nat} {Lm : Nat} {Cm : Nat × Nat} {Tm : Nat → Nat → Nat} {I : Nat → Nat → Int32} {J : Nat → Nat → Int64} {T : Nat → Nat → Nat} {I' : Nat → Nat → Int32} {J' : Nat → Nat → Int64} {p i d : Nat} (hc : in_cl L C (T 44 p) p (am_up I 22 8 (nI (p + 1))) J T (am_up I 22 8 (nI (p + 1))) J T) (hm : am_E 146 0 [.ref 49, .int (nI i), .null, .null] [] (am_W I' J' Tm Lm Cm) = some (.int 0, am_W I' J' Tm Lm Cm)) (R : R_run I J I' J') (s0 : I 22 3 = 0) (rl : R_list I T I' d) : SO L C Lm Cm Tm p i d I J T I' J' := by
  obtain ⟨⟨c0, c1, c2, c3, c4, c5, c6, c7, c8, c9⟩, ⟨p0, p1, p2, p3, p4, p5, p6, p7, p8⟩, k⟩ := R
  refine so_gen hc hm ⟨⟨c0, c1, c2, c3, c4, c5, c6, c7, c8, c9⟩, ⟨p0, p1, p2, p3, p4, p5, p6, p7, p8⟩, k⟩ s0 rl rl.1 ?_ (fun _ _ _ => rfl) (fun _ _ _ => rfl) (fun _ _ _ => rfl) rfl rfl rfl (fun _ => rfl) rfl (fun _ => rfl) (fun _ => rfl)
  intro q k h
  rw [am_up_ne (by omega)]
theorem so_sr {L : Nat} {C : Nat × Nat} {Lm : Nat} {Cm : Nat × Nat} {Tm : Nat → Nat → Nat} {I : Nat → Nat → Int32} {J : Nat → Nat → Int64} {T : Nat → Nat → Nat} {I' : Nat → Nat → Int32} {J' : Nat → Nat → Int64} {p i d b ck j : Nat} (hp : p < 80) (hi : i < 160) (hb : b < 2) (hT : T 44 p = 1005 + b) (e51 : I' 51 i = nI (16 + b)) (hk : I 45 p = nI ck) (hck : ck = 1 ∨ ck = 2) (hn : I 46 p = nI j) (hj : j < 32) (e53 : I' 53 i = nI (cmk ck)) (e54 : I' 54 i = nI j) (R : R_run I J I' J') (s0 : I 22 3 = 0) (rl : R_list I T I' d) : SO L C Lm Cm Tm p i d I J T I' J' := by
  have hs : I' 51 i = 16 ∨ I' 51 i = 17 := by
    rw [e51]
    rcases (show b = 0 ∨ b = 1 by omega) with rfl | rfl
    · exact Or.inl rfl
    · exact Or.inr rfl
  have h16 : (decide (I' 51 i = 16)) = decide (b = 0) := by
    rw [e51]
    rcases (show b = 0 ∨ b = 1 by omega) with rfl | rfl
    · decide +kernel
    · decide +kernel
  have hm : am_E 146 0 [.ref 49, .int (nI i), .null, .null] [] (am_W I' J' Tm Lm Cm) = some (.int 0, am_W (if I 22 7 = 0 then I' else am_up I' (70 + cmk ck) j (am_b01 (decide (b = 0)))) J' Tm Lm Cm) := by
    refine mo_act_store I' J' Tm Lm Cm hi (Or.inr hs) ?_
    have h := mo_setclr I' J' Tm Lm Cm (k := cmk ck) hi hs e53 (by rcases hck with rfl | rfl; exact Or.inl rfl; exact Or.inr rfl) e54 hj
    rw [h16, rl.1] at h
    exact h
  have hc : in_cl L C (T 44 p) p (am_up I 22 8 (nI (p + 1))) J T (if I 22 7 = 0 then (am_up I 22 8 (nI (p + 1))) else am_up (am_up I 22 8 (nI (p + 1))) 24 ck (am_wb (I 24 ck) j (decide (b = 0)))) J T := by
    rw [hT]
    rcases (show b = 0 ∨ b = 1 by omega) with rfl | rfl
    · exact in_perf rfl (by decide) (op_blk_4 _ J T L C) (pf_4 (am_up I 22 8 (nI (p + 1))) J T L C hp hk hn (by omega))
    · exact in_perf rfl (by decide) (op_blk_5 _ J T L C) (pf_5 (am_up I 22 8 (nI (p + 1))) J T L C hp hk hn (by omega))
  by_cases h0 : I 22 7 = 0
  · rw [if_pos h0] at hm hc
    exact so_nop hc hm R s0 rl
  · rw [if_neg h0] at hm hc
    obtain ⟨⟨c0, c1, c2, c3, c4, c5, c6, c7, c8, c9⟩, ⟨p0, p1, p2, p3, p4, p5, p6, p7, p8⟩, k⟩ := R
    rcases hck with rfl | rfl
    · refine so_gen (I2 := am_up I' 72 j (am_b01 (decide (b = 0)))) hc hm ⟨⟨c0, R_b_set c1 (by decide) hj, c2, c3, c4, c5, c6, c7, c8, c9⟩, ⟨p0, p1, p2, p3, p4, p5, p6, p7, p8⟩, k⟩ s0 rl rl.1 ?_ (fun _ _ _ => rfl) ?_ (fun _ _ _ => rfl) rfl rfl rfl (fun _ => rfl) rfl (fun _ => rfl) (fun _ => rfl)
      · intro q k h; rw [am_up_ne (by omega), am_up_ne (by omega)]
      · intro q k h; rw [am_up_ne (by omega)]
    · refine so_gen (I2 := am_up I' 73 j (am_b01 (decide (b = 0)))) hc hm ⟨⟨c0, c1, R_b_set c2 (by decide) hj, c3, c4, c5, c6, c7, c8, c9⟩, ⟨p0, p1, p2, p3, p4, p5, p6, p7, p8⟩, k⟩ s0 rl rl.1 ?_ (fun _ _ _ => rfl) ?_ (fun _ _ _ => rfl) rfl rfl rfl (fun _ => rfl) rfl (fun _ => rfl) (fun _ => rfl)
      · intro q k h; rw [am_up_ne (by omega), am_up_ne (by omega)]
      · intro q k h; rw [am_up_ne (by omega)]
theorem on_eq {I I' : Nat → Nat → Int32} (h : I' 49 60 = I 22 7) : mo_on I' = pb_on I := by
  unfold mo_on pb_on
  rw [h]
theorem am_up_same {α : Type} (f : Nat → Nat → α) (q k : Nat) : am_up f q k (f q k) = f := by
  funext a b
  rw [am_up_at]
  split
  · rename_i h; rw [h.1, h.2]
  · rfl
theorem so_clr {L : Nat} {C : Nat × Nat} {Lm : Nat} {Cm : Nat × Nat} {Tm : Nat → Nat → Nat} {I : Nat → Nat → Int32} {J : Nat → Nat → Int64} {T : Nat → Nat → Nat} {I' : Nat → Nat → Int32} {J' : Nat → Nat → Int64} {p i d j : Nat} (hp : p < 80) (hi : i < 160) (hT : T 44 p = 1037) (e51 : I' 51 i = 27) (hn : I 46 p = nI j) (hj : j < 8) (e54 : I' 54 i = nI j) (R : R_run I J I' J') (s0 : I 22 3 = 0) (rl : R_list I T I' d) : SO L C Lm Cm Tm p i d I J T I' J' := by
  have hm := mo_act_27 I' J' Tm Lm Cm hi e51 e54 hj
  rw [rl.1] at hm
  have hc : in_cl L C (T 44 p) p (am_up I 22 8 (nI (p + 1))) J T (cond (pb_on I) (am_up (am_up I 22 8 (nI (p + 1))) 27 j 0) (am_up I 22 8 (nI (p + 1)))) J T := by
    rw [hT]
    refine in_blk rfl (by decide) hp (op_blk_36 _ J T L C) ?_
    show am_E 16 0 [.ref 22, .ref 1037, .int (I 46 p), .int (I 47 p), .null] [] _ = _
    rw [hn]
    exact pb_36 (am_up I 22 8 (nI (p + 1))) J T L C (I 47 p) hj
  by_cases h0 : I 22 7 = 0
  · have e : pb_on I = false := by unfold pb_on; rw [h0]; decide
    rw [e] at hc
    rw [if_pos h0, am_up_same] at hm
    exact so_nop hc hm R s0 rl
  · have e : pb_on I = true := by unfold pb_on; exact decide_eq_true h0
    rw [e] at hc
    rw [if_neg h0] at hm
    obtain ⟨⟨c0, c1, c2, c3, c4, c5, c6, c7, c8, c9⟩, ⟨p0, p1, p2, p3, p4, p5, p6, p7, p8⟩, k⟩ := R
    refine so_gen (I1 := am_up (am_up I 22 8 (nI (p + 1))) 27 j 0) (I2 := am_up I' 77 j 0) hc hm ⟨⟨c0, c1, c2, c3, c4, c5, c6, c7, R_e_set (f := am_up I 22 8 (nI (p + 1))) c8, c9⟩, ⟨p0, p1, p2, p3, p4, p5, p6, p7, p8⟩, k⟩ s0 rl rl.1 ?_ (fun _ _ _ => rfl) ?_ (fun _ _ _ => rfl) rfl rfl rfl (fun _ => rfl) rfl (fun _ => rfl) (fun _ => rfl)
    · intro q k h; rw [am_up_ne (by omega), am_up_ne (by omega)]
    · intro q k h; rw [am_up_ne (by omega)]
theorem so_rise {L : Nat} {C : Nat × Nat} {Lm : Nat} {Cm : Nat × Nat} {Tm : Nat → Nat → Nat} {I : Nat → Nat → Int32} {J : Nat → Nat → Int64} {T : Nat → Nat → Nat} {I' : Nat → Nat → Int32} {J' : Nat → Nat → Int64} {p i d j : Nat} (hp : p < 80) (hi : i < 160) (hT : T 44 p = 1038) (e51 : I' 51 i = 28) (hn : I 46 p = nI j) (hj : j < 16) (e54 : I' 54 i = nI j) (R : R_run I J I' J') (s0 : I 22 3 = 0) (rl : R_list I T I' d) : SO L C Lm Cm Tm p i d I J T I' J' := by
  obtain ⟨⟨c0, c1, c2, c3, c4, c5, c6, c7, c8, c9⟩, ⟨p0, p1, p2, p3, p4, p5, p6, p7, p8⟩, k⟩ := R
  have hm := mo_act_28 I' J' Tm Lm Cm hi e51 (by rw [e54]; exact mo_rise I' J' Tm Lm Cm hj (p7 j hj))
  rw [on_eq rl.1] at hm
  have hc : in_cl L C (T 44 p) p (am_up I 22 8 (nI (p + 1))) J T (am_up (am_up (am_up I 22 8 (nI (p + 1))) 28 9 (am_wb (I 28 9) j (pb_on I))) 22 7 (am_b01 (pb_on I && !am_bt (I 28 9) j))) J T := by
    rw [hT]
    refine in_blk rfl (by decide) hp (op_blk_37 _ J T L C) ?_
    show am_E 16 0 [.ref 22, .ref 1038, .int (I 46 p), .int (I 47 p), .null] [] _ = _
    rw [hn]
    exact pb_37 (am_up I 22 8 (nI (p + 1))) J T L C (I 47 p) hj
  refine so_gen hc hm ⟨⟨c0, c1, c2, c3, c4, c5, c6, c7, c8, c9⟩, ⟨p0, p1, p2, p3, p4, p5, p6, R_b_set p7 (by decide) (by omega), p8⟩, k⟩ s0 rl rfl ?_ (fun _ _ _ => rfl) ?_ (fun _ _ _ => rfl) rfl rfl rfl (fun _ => rfl) rfl (fun _ => rfl) (fun _ => rfl)
  · intro q k h; rw [am_up_ne (by omega), am_up_ne (by omega), am_up_ne (by omega)]
  · intro q k h; rw [am_up_ne (by omega), am_up_ne (by omega)]
theorem so_fall {L : Nat} {C : Nat × Nat} {Lm : Nat} {Cm : Nat × Nat} {Tm : Nat → Nat → Nat} {I : Nat → Nat → Int32} {J : Nat → Nat → Int64} {T : Nat → Nat → Nat} {I' : Nat → Nat → Int32} {J' : Nat → Nat → Int64} {p i d j : Nat} (hp : p < 80) (hi : i < 160) (hT : T 44 p = 1039) (e51 : I' 51 i = 29) (hn : I 46 p = nI j) (hj : j < 16) (e54 : I' 54 i = nI j) (R : R_run I J I' J') (s0 : I 22 3 = 0) (rl : R_list I T I' d) : SO L C Lm Cm Tm p i d I J T I' J' := by
  obtain ⟨⟨c0, c1, c2, c3, c4, c5, c6, c7, c8, c9⟩, ⟨p0, p1, p2, p3, p4, p5, p6, p7, p8⟩, k⟩ := R
  have hm := mo_act_29 I' J' Tm Lm Cm hi e51 (by rw [e54]; exact mo_fall I' J' Tm Lm Cm hj (p8 j hj))
  rw [on_eq rl.1] at hm
  have hc : in_cl L C (T 44 p) p (am_up I 22 8 (nI (p + 1))) J T (am_up (am_up (am_up I 22 8 (nI (p + 1))) 28 10 (am_wb (I 28 10) j (pb_on I))) 22 7 (am_b01 (!pb_on I && am_bt (I 28 10) j))) J T := by
    rw [hT]
    refine in_blk rfl (by decide) hp (op_blk_38 _ J T L C) ?_
    show am_E 16 0 [.ref 22, .ref 1039, .int (I 46 p), .int (I 47 p), .null] [] _ = _
    rw [hn]
    exact pb_38 (am_up I 22 8 (nI (p + 1))) J T L C (I 47 p) hj
  refine so_gen hc hm ⟨⟨c0, c1, c2, c3, c4, c5, c6, c7, c8, c9⟩, ⟨p0, p1, p2, p3, p4, p5, p6, p7, R_b_set p8 (by decide) (by omega)⟩, k⟩ s0 rl rfl ?_ (fun _ _ _ => rfl) ?_ (fun _ _ _ => rfl) rfl rfl rfl (fun _ => rfl) rfl (fun _ => rfl) (fun _ => rfl)
  · intro q k h; rw [am_up_ne (by omega), am_up_ne (by omega), am_up_ne (by omega)]
  · intro q k h; rw [am_up_ne (by omega), am_up_ne (by omega)]

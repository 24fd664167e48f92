/-! A TEXT READ BY BOTH. -/
theorem ml_21w (I : Nat → Nat → Int32) (J : Nat → Nat → Int64) (T : Nat → Nat → Nat) (L : Nat) (C : Nat × Nat) {k p : Nat} (w1 w2 w3 : Value) (w : WR I k p) (h0 : 0 < k) (h7 : k < 7) : am_E 129 21 [.ref 49, w1, w2, w3] [] (am_W I J T L C) = some (.int (-1), (am_W I J T L C)) := by
  have wn := WR_ne w h0 h7
  rw [rg_129_21, if_neg wn, rg_129_32]
  obtain ⟨y, a, b, e⟩ := nm_go I J T L C w2 w3 0 wn
  rw [e, rg_129_86, w.1, if_neg (show ¬ nI k ≤ 0 from nI_nle h0 (by omega))]
theorem MPq_p {h : Nat} {I I1 I2 : Nat → Nat → Int32} (a : MPq h I I1) (b : MP h I1 I2) : MPq h I I2 := fun q k x => (b q k (fun e => x (Or.inl e))).trans (a q k x)
theorem ld_read {L : Nat} {C : Nat × Nat} {Lm : Nat} {Cm : Nat × Nat} {Tm : Nat → Nat → Nat} {J : Nat → Nat → Int64} {J' : Nat → Nat → Int64} {tx : Nat → Nat} {N o : Nat} {I : Nat → Nat → Int32} {T : Nat → Nat → Nat} {I' : Nat → Nat → Int32} (h : TX I 4 3 1 tx N) (h' : TX I' 50 49 2 tx N) (ho : o < 2) (h22 : I' 49 22 = nI o) : (∃ k p I1 T1 I2, 0 < k ∧ k < 7 ∧ p ≤ 700 ∧ am_E 44 0 [.ref 2, .null, .null, .null] [] (am_W I J T L C) = some (.int 0, am_W I1 J T1 L C) ∧ am_E 129 0 [.ref 49, .null, .null, .null] [] (am_W I' J' Tm Lm Cm) = some (.int (-1), am_W I2 J' Tm Lm Cm) ∧ I1 2 2 = nI k ∧ I1 2 3 = nI p ∧ WR I2 k p ∧ I2 49 0 = 0 ∧ CPf I I1 ∧ CPt T T1 ∧ MPq (1 - o) I' I2) ∨ (∃ D n ng nc I1 T1 I2 x y2 y3, am_E 44 0 [.ref 2, .null, .null, .null] [] (am_W I J T L C) = some (.int 1, am_W I1 J T1 L C) ∧ am_E 129 0 [.ref 49, .null, .null, .null] [] (am_W I' J' Tm Lm Cm) = am_E 129 86 [.ref 49, .int x, y2, y3] [] (am_W I2 J' Tm Lm Cm) ∧ LV D tx N (1 - o) n ng 0 nc N I1 T1 I2 ∧ D n = 0 ∧ I2 49 0 = 0 ∧ (∀ l, l < 32 → I1 20 l ≠ -1 → I1 19 l ≠ -1) ∧ CPf I I1 ∧ CPt T T1 ∧ MPq (1 - o) I' I2) := by
  obtain ⟨I0, a1, a2, a3, a4, a5, a6, a7, a8, a9, a10, a11, a12, a13⟩ := cl_begin I J T L C h
  obtain ⟨I0', b1, b2, b3, b4, b5, b6, b7, b8, b9, b10, b11, b12, b13, b14⟩ := mo_begin I' J' Tm Lm Cm h' ho h22
  have hh : 1 - o < 2 := by omega
  generalize 1 - o = hf at *
  have hN := h.2.1
  have hk0 := TK_nx (tx := tx) (Nat.zero_le N)
  have v0 : LV (fun _ => 0) tx N hf 0 0 0 0 (tkf tx N 0) I0 T I0' := by
    refine ⟨⟨(a3 3 1 (by omega)).trans h.1, hN, fun i hi => ⟨(a3 4 i (by omega)).trans (h.2.2 i hi).1, (h.2.2 i hi).2⟩⟩, ⟨(b3 49 2 (by unfold MA; omega)).trans h'.1, hN, fun i hi => ⟨(b3 50 i (by unfold MA; omega)).trans (h'.2.2 i hi).1, (h'.2.2 i hi).2⟩⟩, ⟨a4, a5, b5, b6⟩, ⟨hh, b7, by decide, a7, b10, by decide, a8, b11, by decide, a6, b8⟩, ⟨rfl, fun p hp => absurd hp (by omega)⟩, fun l hl => ⟨(b12 l hl).trans (a10 l hl).symm, Or.inl (a10 l hl)⟩, fun s hs => ?_, fun x hx => ⟨(b14 x hx).trans (a13 x hx).symm, Or.inl (a13 x hx)⟩, fun g hg => absurd hg (by omega), ⟨b9, fun _ => 0, fun _ => 0, fun k hk => absurd hk (by omega), fun j k hjk hk => absurd hk (by omega), fun l hl => Or.inl ⟨a11 l hl, fun k hk => absurd hk (by omega)⟩, fun s hs => Or.inl ⟨a12 s hs, fun k hk => absurd hk (by omega)⟩⟩⟩
    rw [a9, bt_0 s (by omega)]
    exact b13 s hs
  have r := ln_all (L := L) (C := C) (Lm := Lm) (Cm := Cm) (Tm := Tm) (J := J) (J' := J') .null .null .null N 0 (fun _ => 0) 0 0 0 0 _ _ _ _ I0 T I0' .null .null (by omega) (Nat.zero_le _) v0 a2 hk0 b2 ⟨by omega, fun _ => by omega⟩ rfl
  rcases r with ⟨k, p, I1, T1, I2, z1, z2, z3, z4, z5, z6, z7, z8, z9, z10, z11⟩ | ⟨D, n, ng, d, nc, I1, T1, I2, x1', v2', v3', q1, q2, q3, q4, q4b, q5, q6, q7, q8⟩
  · refine Or.inl ⟨k, p, I1, T1, I2, z1, z2, z3, a1.trans z4, ?_, z6, z7, z8, (z11 49 0 (by unfold MA; omega)).trans b4, CPf_t a3 z9, z10, MPq_p b3 z11⟩
    rw [b1, z5, ml_21w I2 J' Tm Lm Cm .null .null .null z8 z1 z2]
  · have cp := CPf_t a3 q6
    have mp := MPq_p b3 q8
    have th : I2 49 0 = 0 := (q8 49 0 (by unfold MA; omega)).trans b4
    obtain ⟨hm, h3, h4⟩ := LV_mt q3
    have w := q3.2.2.2.1
    have h27 : I2 49 27 = nI d := w.2.2.2.2.2.2.2.2.2.2
    have h9 : I1 2 9 = nI d := w.2.2.2.2.2.2.2.2.2.1
    have hd8 : d ≤ 8 := w.2.2.2.2.2.2.2.2.1
    by_cases e0 : d = 0
    · have ec : am_E 44 0 [.ref 2, .null, .null, .null] [] (am_W I J T L C) = Option.bind (am_E 66 0 [.ref 2, .null, .null] [] (am_W I1 J T1 L C)) (fun z1 => am_vI z1.1 fun u1 => am_E 44 103 [.ref 2, .int x1', v2', v3'] [.int u1] z1.2) := by
        rw [a1, q1, rg_44_94, h9, if_pos (show nI d ≤ 0 by rw [e0]; decide)]
      have em : am_E 129 0 [.ref 49, .null, .null, .null] [] (am_W I' J' Tm Lm Cm) = am_E 129 34 [.ref 49, .int 0, .null, .null] [] (am_W I2 J' Tm Lm Cm) := by
        rw [b1, q2, rg_129_21, if_pos h3, h27, if_pos (show nI d ≤ 0 by rw [e0]; decide), rg_129_32]
      rcases fm_both (L := L) (C := C) (Lm := Lm) (Cm := Cm) (Tm := Tm) (J := J) (J' := J') .null .null q3 q4b with ⟨p, x, y2, y3, s1, s2, s3⟩ | ⟨x, y2, y3, s1, s2, s3⟩
      · have wr := WR_mfl h3 6 p
        refine Or.inl ⟨6, p, flt I1 6 p, T1, mfl I2 (nI 6) (nI p), by decide, by decide, by omega, ?_, ?_, (flt_2 I1 6 p).1, (flt_2 I1 6 p).2, wr, (mfl_ne (by omega)).trans th, CPf_t cp (CPf_flt I1 6 p), q7, MPq_p mp (MP_mfl hf I2 _ _)⟩
        · rw [ec, s2, am_okb, am_vIi, rg_44_103]; rfl
        · rw [em, s3, rg_129_86, wr.1, if_neg (show ¬ nI 6 ≤ 0 by decide)]
      · subst e0
        refine Or.inr ⟨D, n, ng, nc, I1, T1, I2, x, y2, y3, ?_, em.trans s2, q3, q5, th, s3, cp, q7, mp⟩
        rw [ec, s1, am_okb, am_vIi, rg_44_103]; rfl
    · have wr := WR_mfl h3 5 N
      have mp5 := MP_mfl hf I2 (nI 5) (nI N)
      refine Or.inl ⟨5, N, flt I1 5 N, T1, mfl I2 (nI 5) (nI N), by decide, by decide, hN, ?_, ?_, (flt_2 I1 5 N).1, (flt_2 I1 5 N).2, wr, (mfl_ne (by omega)).trans th, CPf_t cp (CPf_flt I1 5 N), q7, MPq_p mp mp5⟩
      · rw [a1, q1, rg_44_94, h9, if_neg (show ¬ nI d ≤ 0 from nI_ge (a := 0) (b := d) (by omega) (by omega))]
        show Option.bind (am_E 45 0 [.ref 2, .int (nI 5)] [] _) _ = _
        rw [cl_fail I1 J T1 L C q4, am_okb, am_vIi, rg_44_100, rg_44_103]; rfl
      · rw [b1, q2, rg_129_21, if_pos h3, h27, if_neg (show ¬ nI d ≤ 0 from nI_ge (a := 0) (b := d) (by omega) (by omega)), hm.1.1]
        show Option.bind (am_E 98 0 [.ref 49, .int (nI 5), .int (nI N)] [] _) _ = _
        have wn := WR_ne wr (by decide) (by decide)
        rw [mo_fail, am_okb, rg_129_32]
        obtain ⟨y, a, b, e⟩ := nm_go (mfl I2 (nI 5) (nI N)) J' Tm Lm Cm .null .null 0 wn
        rw [e, rg_129_86, wr.1, if_neg (show ¬ nI 5 ≤ 0 by decide)]

/-! A LINE in both readers. -/
/-- a fault in a line: the class has ended, the model goes on behind its loop -/
def OFL (N h : Nat) (w1 w2 w3 : Value) (L : Nat) (C : Nat × Nat) (Lm : Nat) (Cm : Nat × Nat) (Tm : Nat → Nat → Nat) (J J' : Nat → Nat → Int64) (I : Nat → Nat → Int32) (T : Nat → Nat → Nat) (I' : Nat → Nat → Int32) (cl mo : am_R) : Prop := ∃ k p I1 T1 I2, 0 < k ∧ k < 7 ∧ p ≤ 700 ∧ cl = some (.int 0, am_W I1 J T1 L C) ∧ mo = am_E 129 21 [.ref 49, w1, w2, w3] [] (am_W I2 J' Tm Lm Cm) ∧ I1 2 2 = nI k ∧ I1 2 3 = nI p ∧ WR I2 k p ∧ CPf I I1 ∧ CPt T T1 ∧ MP h I' I2
/-- a line that is right: both stand at the next -/
def OGL (tx : Nat → Nat) (N h f : Nat) (w1 w2 w3 : Value) (x1 : Int32) (L : Nat) (C : Nat × Nat) (Lm : Nat) (Cm : Nat × Nat) (Tm : Nat → Nat → Nat) (J J' : Nat → Nat → Int64) (I : Nat → Nat → Int32) (T : Nat → Nat → Nat) (I' : Nat → Nat → Int32) (cl mo : am_R) : Prop := ∃ (D : Nat → Nat) (n ng d nc k f' t g : Nat) (I1 : Nat → Nat → Int32) (T1 : Nat → Nat → Nat) (I2 : Nat → Nat → Int32) (v2 v3 : Value), cl = am_E 44 27 [.ref 2, .int (x1 + 1), v2, v3] [] (am_W I1 J T1 L C) ∧ mo = am_E 129 7 [.ref 49, w1, w2, w3] [] (am_W I2 J' Tm Lm Cm) ∧ LV D tx N h n ng d nc f' I1 T1 I2 ∧ CK I1 k f' t g ∧ TK tx N k f' t g ∧ MK I2 f' t ∧ NB k f' nc ∧ D n = d ∧ f < f' ∧ CPf I I1 ∧ CPt T T1 ∧ MP h I' I2
theorem OFL_mono {N h : Nat} {w1 w2 w3 : Value} {L : Nat} {C : Nat × Nat} {Lm : Nat} {Cm : Nat × Nat} {Tm : Nat → Nat → Nat} {J J' : Nat → Nat → Int64} {I I1 : Nat → Nat → Int32} {T T1 : Nat → Nat → Nat} {I' I2 : Nat → Nat → Int32} {cl mo cl' mo' : am_R} (o : OFL N h w1 w2 w3 L C Lm Cm Tm J J' I1 T1 I2 cl mo) (a : CPf I I1) (b : CPt T T1) (c : MP h I' I2) (e : cl' = cl) (e' : mo' = mo) : OFL N h w1 w2 w3 L C Lm Cm Tm J J' I T I' cl' mo' := by
  obtain ⟨k, p, Ix, Tx, Iy, z1, z2, z3, z4, z5, z6, z7, z8, z11, z12, z13⟩ := o
  exact ⟨k, p, Ix, Tx, Iy, z1, z2, z3, e.trans z4, e'.trans z5, z6, z7, z8, CPf_t a z11, fun q k x => (z12 q k x).trans (b q k x), MP_t c z13⟩
theorem OGL_mono {tx : Nat → Nat} {N h f f1 : Nat} {w1 w2 w3 : Value} {x1 : Int32} {L : Nat} {C : Nat × Nat} {Lm : Nat} {Cm : Nat × Nat} {Tm : Nat → Nat → Nat} {J J' : Nat → Nat → Int64} {I I1 : Nat → Nat → Int32} {T T1 : Nat → Nat → Nat} {I' I2 : Nat → Nat → Int32} {cl mo cl' mo' : am_R} (o : OGL tx N h f1 w1 w2 w3 x1 L C Lm Cm Tm J J' I1 T1 I2 cl mo) (a : CPf I I1) (b : CPt T T1) (c : MP h I' I2) (e : cl' = cl) (e' : mo' = mo) (hf : f ≤ f1) : OGL tx N h f w1 w2 w3 x1 L C Lm Cm Tm J J' I T I' cl' mo' := by
  obtain ⟨D, n, ng, d, nc, k, f', t, g, Ix, Tx, Iy, v2, v3, z1, z2, z3, z4, z5, z6, z7, z8, z9, z10, z11, z12⟩ := o
  exact ⟨D, n, ng, d, nc, k, f', t, g, Ix, Tx, Iy, v2, v3, e.trans z1, e'.trans z2, z3, z4, z5, z6, z7, z8, by omega, CPf_t a z10, fun q k x => (z11 q k x).trans (b q k x), MP_t c z12⟩
/-- behind a fault the model's loop ends -/
theorem ml_w18 (I : Nat → Nat → Int32) (J : Nat → Nat → Int64) (T : Nat → Nat → Nat) (L : Nat) (C : Nat × Nat) {tx : Nat → Nat} {N h t k p : Nat} (w1 w2 w3 : Value) (hm : MT tx N h I) (ht : I 49 26 = nI t) (htN : t ≤ N) (w : WR I k p) (h0 : 0 < k) (h7 : k < 7) : ∃ I2, am_E 129 18 [.ref 49, w1, w2, w3] [] (am_W I J T L C) = am_E 129 21 [.ref 49, w1, w2, w3] [] (am_W I2 J T L C) ∧ WR I2 k p ∧ FX I I2 := by
  obtain ⟨I1, e1, e2, e3, e4⟩ := nx_ok I J T L C hm.1 htN ht
  have w' : WR I1 k p := ⟨(e4 49 3 (by omega)).trans w.1, (e4 49 4 (by omega)).trans w.2⟩
  refine ⟨I1, ?_, w', e4⟩
  rw [rg_129_18, e1, am_okb, rg_129_20, rg_129_7, if_neg (WR_ne w' h0 h7)]
theorem OF_ln {N h : Nat} {tx : Nat → Nat} (w1 w2 w3 : Value) {L : Nat} {C : Nat × Nat} {Lm : Nat} {Cm : Nat × Nat} {Tm : Nat → Nat → Nat} {J J' : Nat → Nat → Int64} {I : Nat → Nat → Int32} {T : Nat → Nat → Nat} {I' : Nat → Nat → Int32} {cl mo mo' : am_R} (hm : MT tx N h I') (o : OF N h L C Lm Cm Tm J J' I T I' cl mo) (e' : mo' = Option.bind mo (fun z1 => am_E 129 18 [.ref 49, w1, w2, w3] [] z1.2)) : OFL N h w1 w2 w3 L C Lm Cm Tm J J' I T I' cl mo' := by
  obtain ⟨k, p, Ix, Tx, Iy, t2, z1, z2, z3, z4, z5, z6, z7, z8, z9, z10, z11, z12, z13⟩ := o
  obtain ⟨I2, r1, r2, r3⟩ := ml_w18 Iy J' Tm Lm Cm w1 w2 w3 (MT_p hm z13) z10 z9 z8 z1 z2
  exact ⟨k, p, Ix, Tx, I2, z1, z2, z3, z4, by rw [e', z5, am_okb, r1], z6, z7, r2, z11, z12, MP_t z13 (MP_fx r3)⟩
/-- the end of a line -/
theorem ln_end {L : Nat} {C : Nat × Nat} {Lm : Nat} {Cm : Nat × Nat} {Tm : Nat → Nat → Nat} {J : Nat → Nat → Int64} {J' : Nat → Nat → Int64} {D : Nat → Nat} {tx : Nat → Nat} {N h n ng d nc f0 : Nat} {I : Nat → Nat → Int32} {T : Nat → Nat → Nat} {I' : Nat → Nat → Int32} {kk f t g : Nat} (x1 xm : Int32) (y : Int64) (v3 w1 w2 w3 : Value) (v : LV D tx N h n ng d nc f I T I') (ck : CK I kk f t g) (hk : TK tx N kk f t g) (hmk : MK I' f t) (nb : NB kk f nc) (hD : D n = d) (hf0 : f0 ≤ f) : OFL N h w1 w2 w3 L C Lm Cm Tm J J' I T I' (am_E 44 78 [.ref 2, .int x1, .int 1, v3] [] (am_W I J T L C)) (Option.bind (am_E 127 118 [.ref 49, .int xm, .long y, .null] [] (am_W I' J' Tm Lm Cm)) (fun z1 => am_E 129 18 [.ref 49, w1, w2, w3] [] z1.2)) ∨ OGL tx N h f0 w1 w2 w3 x1 L C Lm Cm Tm J J' I T I' (am_E 44 78 [.ref 2, .int x1, .int 1, v3] [] (am_W I J T L C)) (Option.bind (am_E 127 118 [.ref 49, .int xm, .long y, .null] [] (am_W I' J' Tm Lm Cm)) (fun z1 => am_E 129 18 [.ref 49, w1, w2, w3] [] z1.2)) := by
  obtain ⟨hm, h3, h4⟩ := LV_mt v
  have hN := hm.1.2.1
  have hle := TK_le hk
  have k3 := hk.2.2.1
  have ec : am_E 44 78 [.ref 2, .int x1, .int 1, v3] [] (am_W I J T L C) = (if nI kk = 1 then Option.bind (am_E 47 0 [.ref 2] [] (am_W I J T L C)) (fun z1 => am_E 44 92 [.ref 2, .int x1, .int 1, v3] [] z1.2) else Option.bind (am_E 45 0 [.ref 2, .int 1] [] (am_W I J T L C)) (fun z2 => am_vI z2.1 fun u2 => am_E 44 89 [.ref 2, .int x1, .int 1, v3] [.int u2] z2.2)) := by
    rw [rg_44_78, if_neg (show ¬ (1 : Int32) = 0 by decide), ck.1]
  have em : am_E 127 118 [.ref 49, .int xm, .long y, .null] [] (am_W I' J' Tm Lm Cm) = am_E 127 123 [.ref 49, .int xm, .long y, .null] [.int (am_b01 (decide (kk = 1)))] (am_W I' J' Tm Lm Cm) := by
    rw [rg_127_118, if_pos h3, mo_le I' J' Tm Lm Cm hm.1 hmk.1 hk, am_okb, am_vIi]
  have kk3 : kk < 3 := by
    rcases TK_p hk with e | e | e <;> omega
  by_cases e : kk = 1
  · refine Or.inr ?_
    subst e
    obtain ⟨I1, c1, c2, c3⟩ := ad_ok I J T L C v.1 hle.2 ck.2.2.1
    obtain ⟨I2, n1, n2, n3⟩ := mo_next I' J' Tm Lm Cm hm.1 hmk hk
    have hk2 := TK_n hk
    have nb2 := NB_n hk nb (by decide)
    have vf : LV D tx N h n ng d nc (tkf tx N t) I1 T I2 := LV_f (by omega) (LV_keep (fun q k hq => c3 q k (fun e => hq.2.2 ⟨e.1, by omega⟩)) (fun _ => rfl) (fun q k hq => n3 q k (fun e => hq.2.2 ⟨e.1, by omega⟩)) v)
    refine ⟨D, n, ng, d, nc, _, _, _, _, I1, T, I2, .int 1, v3, ?_, ?_, vf, c2, hk2, n2, nb2.1, hD, by omega, CPf_ft c3, CPt_r T, MP_fx n3⟩
    · rw [ec, if_pos (show nI 1 = 1 from rfl), c1, am_okb, rg_44_92]
    · rw [em, rg_127_123, if_neg (show ¬ am_b01 (decide (1 = 1)) = 0 by decide), rg_127_129, am_okb, rg_129_18, n1, am_okb, rg_129_20]
  · refine Or.inl ?_
    rw [decide_eq_false e] at em
    have w := WR_mfl h3 1 f
    have mp := MP_mfl h I' (nI 1) (nI f)
    obtain ⟨I2, r1, r2, r3⟩ := ml_w18 (mfl I' (nI 1) (nI f)) J' Tm Lm Cm w1 w2 w3 (MT_p hm mp) ((mfl_ne (by omega)).trans hmk.2) hle.2 w (by decide) (by decide)
    refine ⟨1, f, flt I 1 f, T, I2, by decide, by decide, by omega, ?_, ?_, (flt_2 I 1 f).1, (flt_2 I 1 f).2, r2, CPf_flt I 1 f, CPt_r T, MP_t mp (MP_fx r3)⟩
    · rw [ec, if_neg (show ¬ nI kk = 1 from nb_ne (c := kk) (n := 1) (by omega) (by decide) e)]
      show Option.bind (am_E 45 0 [.ref 2, .int (nI 1)] [] _) _ = _
      rw [cl_fail I J T L C ck.2.1, am_okb, am_vIi, rg_44_89]
      rfl
    · rw [em, rg_127_123, if_pos (show am_b01 false = 0 from rfl), hmk.1]
      show Option.bind (Option.bind (am_E 98 0 [.ref 49, .int (nI 1), .int (nI f)] [] _) _) _ = _
      rw [mo_fail, am_okb, rg_127_129, am_okb, r1]
theorem is_sign_e (I : Nat → Nat → Int32) (J : Nat → Nat → Int64) (T : Nat → Nat → Nat) (L : Nat) (C : Nat × Nat) {N : Nat} (h25 : I 49 25 = nI N) (h26 : I 49 26 = nI N) : am_E 114 0 [.ref 49, .long (lN (cvl [])), .null, .null, .null, .null, .null, .null, .null, .null] [] (am_W I J T L C) = some (.int 0, (am_W I J T L C)) := by
  have s0 : nI N - nI N = 0 := Int32.sub_self _
  have sg := mo_sgn I J T L C (l := []) (fun c hc => absurd hc List.not_mem_nil)
  have e0 : sgx [] = -1 := by decide +kernel
  rw [rg_114_0, h25, h26, s0, if_pos (show (0 : Int32) ≤ 0 by decide), rg_114_19, rg_114_20, if_pos (show (0 : Int32) = 0 from rfl), rg_114_36, if_pos (show (0 : Int32) = 0 from rfl), rg_114_44, if_pos (show (0 : Int32) ≤ 8 by decide), sg, e0, am_okb, am_vIi, rg_114_52, if_pos rfl, if_neg (show ¬ (8 : Int32) < 0 by decide), if_pos (show (0 : Int32) ≤ 1 by decide), rg_114_97, if_pos rfl]
/-- a line behind its label -/
theorem ln_body {L : Nat} {C : Nat × Nat} {Lm : Nat} {Cm : Nat × Nat} {Tm : Nat → Nat → Nat} {J : Nat → Nat → Int64} {J' : Nat → Nat → Int64} {D : Nat → Nat} {tx : Nat → Nat} {N h n ng d nc f0 : Nat} {I : Nat → Nat → Int32} {T : Nat → Nat → Nat} {I' : Nat → Nat → Int32} {kk f t g : Nat} (x1 xm : Int32) (v2 v3 u2 u3 w1 w2 w3 : Value) (v : LV D tx N h n ng d nc f I T I') (ck : CK I kk f t g) (hk : TK tx N kk f t g) (hmk : MK I' f t) (nb : NB kk f nc) (hD : D n = d) (hf0 : f0 ≤ f) : OFL N h w1 w2 w3 L C Lm Cm Tm J J' I T I' (am_E 44 42 [.ref 2, .int x1, v2, v3] [.int 1] (am_W I J T L C)) (Option.bind (am_E 127 66 [.ref 49, .int xm, u2, u3] [] (am_W I' J' Tm Lm Cm)) (fun z1 => am_E 129 18 [.ref 49, w1, w2, w3] [] z1.2)) ∨ OGL tx N h f0 w1 w2 w3 x1 L C Lm Cm Tm J J' I T I' (am_E 44 42 [.ref 2, .int x1, v2, v3] [.int 1] (am_W I J T L C)) (Option.bind (am_E 127 66 [.ref 49, .int xm, u2, u3] [] (am_W I' J' Tm Lm Cm)) (fun z1 => am_E 129 18 [.ref 49, w1, w2, w3] [] z1.2)) := by
  obtain ⟨hm, h3, h4⟩ := LV_mt v
  have hN := hm.1.2.1
  have hle := TK_le hk
  have em : am_E 127 66 [.ref 49, .int xm, u2, u3] [] (am_W I' J' Tm Lm Cm) = am_E 127 71 [.ref 49, .int xm, u2, u3] [.int (am_b01 (decide (kk = 1)))] (am_W I' J' Tm Lm Cm) := by
    rw [rg_127_66, h3, if_neg (show ¬ (0 : Int32) < 0 by decide), mo_le I' J' Tm Lm Cm hm.1 hmk.1 hk, am_okb, am_vIi]
  have c78 : ¬ kk = 2 → am_E 44 42 [.ref 2, .int x1, v2, v3] [.int 1] (am_W I J T L C) = am_E 44 78 [.ref 2, .int x1, .int 1, v3] [] (am_W I J T L C) := by
    intro e
    have kk3 : kk < 3 := by rcases TK_p hk with e | e | e <;> omega
    rw [rg_44_42, if_neg (show ¬ (1 : Int32) = 0 by decide), ck.1, if_neg (show ¬ nI kk = 2 from nb_ne (c := kk) (n := 2) (by omega) (by decide) e)]
  have hmc := mo_code I' J' Tm Lm Cm hm.1 hmk.1 hmk.2 hle.2 hle.1
  rcases TK_p hk with e | e | e
  · obtain ⟨rfl, _⟩ := e
    have em2 : am_E 127 66 [.ref 49, .int xm, u2, u3] [] (am_W I' J' Tm Lm Cm) = am_E 127 75 [.ref 49, .int xm, u2, u3] [.long (lN (cod tx f t))] (am_W I' J' Tm Lm Cm) := by
      rw [em, rg_127_71, if_pos (show am_b01 (decide (2 = 1)) = 0 by decide), hmc, am_okb, am_vJl]
    rcases gp_word (L := L) (C := C) (Lm := Lm) (Cm := Cm) (Tm := Tm) (J := J) (J' := J') x1 xm v2 v3 u2 u3 ⟨v, ck, hk, hmk, nb, hD⟩ with o | ⟨q, o⟩
    · exact Or.inl (OF_ln w1 w2 w3 hm o (by rw [em2]))
    · obtain ⟨D', n', ng', d', nc', k', f', t', g', I1, T1, I2, z1, z2, z3, z4, z5, z6, z7, z8, z9, z10, z11, z12⟩ := o
      have r := ln_end (L := L) (C := C) (Lm := Lm) (Cm := Cm) (Tm := Tm) (J := J) (J' := J') (f0 := f0) x1 xm (lN (cvl (sl tx f t))) (.ref q) w1 w2 w3 z3 z4 z5 z6 z7 z8 (by omega)
      rw [em2, z1, z2]
      rcases r with o | o
      · exact Or.inl (OFL_mono o z10 z11 z12 rfl rfl)
      · exact Or.inr (OGL_mono o z10 z11 z12 rfl rfl (Nat.le_refl f0))
  · obtain ⟨rfl, e2, e3, e4⟩ := e
    rw [c78 (by decide)]
    have r := ln_end (L := L) (C := C) (Lm := Lm) (Cm := Cm) (Tm := Tm) (J := J) (J' := J') (f0 := f0) x1 xm 0 v3 w1 w2 w3 v ck hk hmk nb hD hf0
    have e18 : am_E 127 118 [.ref 49, .int xm, .long 0, .null] [] (am_W I' J' Tm Lm Cm) = some (.null, (am_W I' J' Tm Lm Cm)) := by
      rw [rg_127_118, if_pos h3, mo_le I' J' Tm Lm Cm hm.1 hmk.1 hk, am_okb, am_vIi, rg_127_123, if_neg (show ¬ am_b01 (decide (1 = 1)) = 0 by decide), rg_127_129]
    have e66 : am_E 127 66 [.ref 49, .int xm, u2, u3] [] (am_W I' J' Tm Lm Cm) = some (.null, (am_W I' J' Tm Lm Cm)) := by
      rw [em, rg_127_71, if_neg (show ¬ am_b01 (decide (1 = 1)) = 0 by decide)]
    rw [e66]
    rw [e18] at r
    exact r
  · obtain ⟨rfl, e2, e3⟩ := e
    refine Or.inl ?_
    rw [c78 (by decide)]
    have es : sl tx f t = [] := sl_nil (by omega)
    have e25 : I' 49 25 = nI N := by rw [hmk.1, e2]
    have e26 : I' 49 26 = nI N := by rw [hmk.2, e3]
    have mo := ds_6 I' J' Tm Lm Cm xm u2 u3 (l := []) (fun c hc => absurd hc List.not_mem_nil) (fun j hj => fun e => (wd_40 j hj).1 e.symm) (is_sign_e I' J' Tm Lm Cm e25 e26) hmk.1
    have em2 : am_E 127 66 [.ref 49, .int xm, u2, u3] [] (am_W I' J' Tm Lm Cm) = am_E 127 75 [.ref 49, .int xm, u2, u3] [.long (lN (cvl []))] (am_W I' J' Tm Lm Cm) := by
      rw [em, rg_127_71, if_pos (show am_b01 (decide (0 = 1)) = 0 by decide), hmc, am_okb, am_vJl, cod_cvl, es]
    have w := WR_mfl h3 1 f
    have mp := MP_mfl h I' (nI 1) (nI f)
    have o : OF N h L C Lm Cm Tm J J' I T I' (am_E 44 78 [.ref 2, .int x1, .int 1, v3] [] (am_W I J T L C)) (am_E 127 66 [.ref 49, .int xm, u2, u3] [] (am_W I' J' Tm Lm Cm)) := by
      refine OF_mk (by decide) (by decide) (by omega) ?_ (em2.trans (mo.trans (mt_118 _ J' Tm Lm Cm xm _ w (by decide) (by decide)))) w hle.2 ((mfl_ne (by omega)).trans hmk.2) (CPf_r I) (CPt_r T) mp
      rw [rg_44_78, if_neg (show ¬ (1 : Int32) = 0 by decide), ck.1, if_neg (show ¬ nI 0 = 1 by decide)]
      show Option.bind (am_E 45 0 [.ref 2, .int (nI 1)] [] _) _ = _
      rw [cl_fail I J T L C ck.2.1, am_okb, am_vIi, rg_44_89]
      rfl
    exact OF_ln w1 w2 w3 hm o rfl

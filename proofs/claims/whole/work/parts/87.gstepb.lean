/-! STEP in both readers, its number. -/
theorem OF_st {L : Nat} {C : Nat × Nat} {Lm : Nat} {Cm : Nat × Nat} {Tm : Nat → Nat → Nat} {J : Nat → Nat → Int64} {J' : Nat → Nat → Int64} {N h : Nat} {I : Nat → Nat → Int32} {T : Nat → Nat → Nat} {I' : Nat → Nat → Int32} {cl mo cl' mo' : am_R} {x1 x2 xm : Int32} {q : Nat} {y : Int64} (o : OF N h L C Lm Cm Tm J J' I T I' cl mo) (e : cl' = Option.bind cl (fun z1 => am_vI z1.1 fun u1 => am_E 44 68 [.ref 2, .int x1, .int x2, .ref q] [.int u1] z1.2)) (e' : mo' = Option.bind mo (fun z => am_E 127 82 [.ref 49, .int xm, .long y, .null] [] z.2)) : OF N h L C Lm Cm Tm J J' I T I' cl' mo' := by
  obtain ⟨k, p, Ix, Tx, Iy, t2, z1, z2, z3, z4, z5, z6, z7, z8, z9, z10, z11, z12, z13⟩ := o
  refine ⟨k, p, Ix, Tx, Iy, t2, z1, z2, z3, ?_, ?_, z6, z7, z8, z9, z10, z11, z12, z13⟩
  · rw [e, z4, am_okb, am_vIi, t68_0]
  · rw [e', z5, am_okb, rg_127_82, mt_118 Iy J' Tm Lm Cm xm y z8 z1 z2]
theorem OG_st {L : Nat} {C : Nat × Nat} {Lm : Nat} {Cm : Nat × Nat} {Tm : Nat → Nat → Nat} {J : Nat → Nat → Int64} {J' : Nat → Nat → Int64} {tx : Nat → Nat} {N h f : Nat} {I : Nat → Nat → Int32} {T : Nat → Nat → Nat} {I' : Nat → Nat → Int32} {cl mo cl' mo' : am_R} {x1 x2 xm : Int32} {q : Nat} {y : Int64} (o : OG tx N h f I T I' cl mo (cfin L C J) (mfin Lm Cm Tm J')) (e : cl' = Option.bind cl (fun z1 => am_vI z1.1 fun u1 => am_E 44 68 [.ref 2, .int x1, .int x2, .ref q] [.int u1] z1.2)) (e' : mo' = Option.bind mo (fun z => am_E 127 82 [.ref 49, .int xm, .long y, .null] [] z.2)) : OG tx N h f I T I' cl' mo' (fcl L C J x1 q) (fmo Lm Cm Tm J' xm y) := by
  obtain ⟨D, n, ng, d, nc, k, f', t, g, Ix, Tx, Iy, z1, z2, z3⟩ := o
  refine ⟨D, n, ng, d, nc, k, f', t, g, Ix, Tx, Iy, ?_, ?_, z3⟩
  · rw [e, z1]; unfold cfin; rw [am_okb, am_vIi, t68_1]; rfl
  · rw [e', z2]; unfold mfin; rw [am_okb, rg_127_82]; rfl
theorem OF_go {L : Nat} {C : Nat × Nat} {Lm : Nat} {Cm : Nat × Nat} {Tm : Nat → Nat → Nat} {J : Nat → Nat → Int64} {J' : Nat → Nat → Int64} {N h : Nat} {I : Nat → Nat → Int32} {T : Nat → Nat → Nat} {I' : Nat → Nat → Int32} {cl mo cl' mo' : am_R} {x1 x2 xm : Int32} {q : Nat} {y : Int64} (o : OF N h L C Lm Cm Tm J J' I T I' cl mo) (e : cl' = Option.bind cl (fun z1 => am_vI z1.1 fun u1 => am_E 44 60 [.ref 2, .int x1, .int x2, .ref q] [.int u1] z1.2)) (e' : mo' = Option.bind mo (fun z => am_E 127 89 [.ref 49, .int xm, .long y, .null] [] z.2)) : OF N h L C Lm Cm Tm J J' I T I' cl' mo' := by
  obtain ⟨k, p, Ix, Tx, Iy, t2, z1, z2, z3, z4, z5, z6, z7, z8, z9, z10, z11, z12, z13⟩ := o
  refine ⟨k, p, Ix, Tx, Iy, t2, z1, z2, z3, ?_, ?_, z6, z7, z8, z9, z10, z11, z12, z13⟩
  · rw [e, z4, am_okb, am_vIi, t60_0]
  · rw [e', z5, am_okb, rg_127_89, mt_118 Iy J' Tm Lm Cm xm y z8 z1 z2]
theorem OG_go {L : Nat} {C : Nat × Nat} {Lm : Nat} {Cm : Nat × Nat} {Tm : Nat → Nat → Nat} {J : Nat → Nat → Int64} {J' : Nat → Nat → Int64} {tx : Nat → Nat} {N h f : Nat} {I : Nat → Nat → Int32} {T : Nat → Nat → Nat} {I' : Nat → Nat → Int32} {cl mo cl' mo' : am_R} {x1 x2 xm : Int32} {q : Nat} {y : Int64} (o : OG tx N h f I T I' cl mo (cfin L C J) (mfin Lm Cm Tm J')) (e : cl' = Option.bind cl (fun z1 => am_vI z1.1 fun u1 => am_E 44 60 [.ref 2, .int x1, .int x2, .ref q] [.int u1] z1.2)) (e' : mo' = Option.bind mo (fun z => am_E 127 89 [.ref 49, .int xm, .long y, .null] [] z.2)) : OG tx N h f I T I' cl' mo' (fcl L C J x1 q) (fmo Lm Cm Tm J' xm y) := by
  obtain ⟨D, n, ng, d, nc, k, f', t, g, Ix, Tx, Iy, z1, z2, z3⟩ := o
  refine ⟨D, n, ng, d, nc, k, f', t, g, Ix, Tx, Iy, ?_, ?_, z3⟩
  · rw [e, z1]; unfold cfin; rw [am_okb, am_vIi, t60_1]; rfl
  · rw [e', z2]; unfold mfin; rw [am_okb, rg_127_89]; rfl
theorem dsb_step (I : Nat → Nat → Int32) (J : Nat → Nat → Int64) (T : Nat → Nat → Nat) (L : Nat) (C : Nat × Nat) {l : List Nat} (x1 : Int32) (v2 v3 : Value) (hl : ∀ c, c ∈ l → 0 < c ∧ c < 256) (h1 : l = wd 39) : am_E 127 75 [.ref 49, .int x1, v2, v3] [.long (lN (cvl l))] (am_W I J T L C) = Option.bind (am_E 124 0 [.ref 49, .null] [] (am_W I J T L C)) (fun z => am_E 127 82 [.ref 49, .int x1, .long (lN (cvl l)), .null] [] z.2) := by
  rw [rg_127_75, if_pos ((ct (W := wd 39) (y := 1346720851) (by decide +kernel) hl (by decide +kernel)).mpr h1)]
theorem dsb_go (I : Nat → Nat → Int32) (J : Nat → Nat → Int64) (T : Nat → Nat → Nat) (L : Nat) (C : Nat × Nat) {l : List Nat} (x1 : Int32) (v2 v3 : Value) (hl : ∀ c, c ∈ l → 0 < c ∧ c < 256) (h2 : l = wd 40) : am_E 127 75 [.ref 49, .int x1, v2, v3] [.long (lN (cvl l))] (am_W I J T L C) = Option.bind (am_E 126 0 [.ref 49, .null, .null, .null] [] (am_W I J T L C)) (fun z => am_E 127 89 [.ref 49, .int x1, .long (lN (cvl l)), .null] [] z.2) := by
  have c1 : ¬ lg_cmp (lN (cvl l)) 1346720851 = 0 := fun e => by
    have := (ct (W := wd 39) (y := 1346720851) (by decide +kernel) hl (by decide +kernel)).mp e
    rw [h2] at this
    exact absurd this (by decide)
  rw [rg_127_75, if_neg c1, if_pos ((ct (W := wd 40) (y := 20295) (by decide +kernel) hl (by decide +kernel)).mpr h2)]
theorem rff_smf (tx : Nat → Nat) (f t : Nat) : rff tx f t 2 15 = smf tx f t 15 := rfl
theorem smf_lt (tx : Nat → Nat) (f t m : Nat) : smf tx f t m < 7 := by
  unfold smf
  split
  · decide
  · split <;> decide
theorem smf_v {tx : Nat → Nat} {f t m : Nat} (h : smf tx f t m = 0) : smv tx f t ≤ m := by
  unfold smf at h
  unfold smv
  cases hv : numv (sl tx f t) with
  | none => rw [hv] at h; exact absurd h (show ¬ (1 : Nat) = 0 by decide)
  | some v =>
    rw [hv] at h
    show v ≤ m
    rcases Nat.lt_or_ge m v with c | c
    · exact absurd h (by show ¬ (if 2 < t - f ∨ m < v then 2 else 0) = 0; rw [if_pos (Or.inr c)]; decide)
    · exact c
theorem smf_k {tx : Nat → Nat} {N k f t g m : Nat} (hk : TK tx N k f t g) (e : smf tx f t m = 0) : k = 2 := by
  unfold smf at e
  have fs := fig_some hk
  cases hv : numv (sl tx f t) with
  | none => rw [hv] at e; exact absurd e (show ¬ (1 : Nat) = 0 by decide)
  | some v =>
    rw [hv] at fs
    by_cases c : k = 2
    · exact c
    · rw [decide_eq_false c, Bool.false_and] at fs; exact absurd fs (show ¬ true = false by decide)
theorem mo_16 {h s : Nat} (hh : h < 2) : 16 * nI h + nI s = nI (16 * h + s) := by
  have q1 : ∀ h, h < 2 → 16 * nI h = nI (16 * h) := by decide +kernel
  rw [q1 h hh, nI_add]
/-- the model behind a fault at a step -/
theorem mo_stw (I : Nat → Nat → Int32) (J : Nat → Nat → Int64) (T : Nat → Nat → Nat) (L : Nat) (C : Nat × Nat) (V : Int32) (v1 : Value) (w : ¬ I 49 3 = 0) : am_E 124 17 [.ref 49, v1] [.int V] (am_W I J T L C) = some (.null, (am_W I J T L C)) := by
  rw [rg_124_17, if_neg w, rg_124_36, if_neg w, rg_124_52]
theorem gp_step {L : Nat} {C : Nat × Nat} {Lm : Nat} {Cm : Nat × Nat} {Tm : Nat → Nat → Nat} {J : Nat → Nat → Int64} {J' : Nat → Nat → Int64} {D : Nat → Nat} {tx : Nat → Nat} {N h n ng d nc f t g : Nat} {I : Nat → Nat → Int32} {T : Nat → Nat → Nat} {I' : Nat → Nat → Int32} (x1 xm : Int32) (v2 v3 u2 u3 : Value) (p : PRE D tx N h n ng d nc f t g I T I') {i : Nat} (h1 : i = 39) (hw : sl tx f t = wd i) : OF N h L C Lm Cm Tm J J' I T I' (am_E 44 42 [.ref 2, .int x1, v2, v3] [.int 1] (am_W I J T L C)) (am_E 127 75 [.ref 49, .int xm, u2, u3] [.long (lN (cod tx f t))] (am_W I' J' Tm Lm Cm)) ∨ OG tx N h f I T I' (am_E 44 42 [.ref 2, .int x1, v2, v3] [.int 1] (am_W I J T L C)) (am_E 127 75 [.ref 49, .int xm, u2, u3] [.long (lN (cod tx f t))] (am_W I' J' Tm Lm Cm)) (fcl L C J x1 (1001 + i)) (fmo Lm Cm Tm J' xm (lN (cvl (sl tx f t)))) := by
  have pr := pr_op J L C p
  obtain ⟨v, c, k, hmk, nb, hD⟩ := p
  obtain ⟨hm, h3, h4⟩ := LV_mt v
  have hN := hm.1.2.1
  obtain ⟨hft, htN, hl⟩ := TK_wl (TX_lt hm.1) hN k
  have w := v.2.2.2.1
  have h27 : I' 49 27 = nI d := w.2.2.2.2.2.2.2.2.2.2
  have hd8 : d ≤ 8 := w.2.2.2.2.2.2.2.2.1
  have h9 : I 2 9 = nI d := w.2.2.2.2.2.2.2.2.2.1
  obtain ⟨b1, b2, b3⟩ := bix_w (by omega : i < 41) hft hw
  have hfr : frm i = 12 := by rw [h1]; rfl
  have hra : rof (brk tx t) (bix tx f t) n ng d = if d = 0 then 0 else 5 := by
    rw [b1, b2]
    unfold rof ful
    rw [if_pos ⟨by omega, fun e => absurd e (by decide)⟩, if_neg (show ¬ frm i = 13 by omega), if_pos hfr, if_neg (show ¬ false = true by decide), alw_67 (by omega)]
    by_cases e : d = 0
    · rw [if_pos e, decide_eq_true e]; rfl
    · rw [if_neg e, decide_eq_false e]; rfl
  have mb := dsb_step I' J' Tm Lm Cm xm u2 u3 hl (by rw [hw, h1])
  rw [← cod_cvl] at mb
  have hk2 := TK_n k
  have nb2 := NB_n k nb (by decide)
  by_cases e0 : d = 0
  · rw [if_pos e0] at hra
    rw [hra, b1, b2] at pr
    rcases pr with ⟨r, _⟩ | ⟨_, I1, r1, r2, r3, r4, r5⟩
    · exact absurd rfl r
    have hdn : dnx false i d = d := by unfold dnx; rw [if_neg (by decide), if_neg (by omega)]
    rw [hdn] at r3
    have lf := lift_st I J T L C x1 v2 v3 c.1 (by omega : i < 41) hfr r1
    have hx1 : TX I1 4 3 1 tx N := ⟨(r5 3 1 (by omega)).trans v.1.1, hN, fun i hi => ⟨(r5 4 i (by omega)).trans (v.1.2.2 i hi).1, (v.1.2.2 i hi).2⟩⟩
    obtain ⟨Ia, a1, a2, a3⟩ := mo_next I' J' Tm Lm Cm hm.1 hmk k
    have hma : MT tx N h Ia := MT_k hm (fun q k' e => a3 q k' (by omega))
    have m0 : am_E 124 0 [.ref 49, .null] [] (am_W I' J' Tm Lm Cm) = am_E 124 10 [.ref 49, .null] [] (am_W Ia J' Tm Lm Cm) := by
      rw [rg_124_0, h27, if_pos (show nI d ≤ 0 by rw [e0]; decide), rg_124_8, a1, am_okb]
    have hl2 := TK_le hk2
    unfold CN at r4
    generalize hk' : tkk tx N (tkf tx N t) = k' at *
    generalize hf' : tkf tx N t = f' at *
    generalize ht' : tkt tx N f' = t' at *
    generalize hg' : tkg tx f' t' = g' at *
    have ms := mo_small Ia J' Tm Lm Cm (a := f') (b := t') (most := 15) hma.1 hl2.2 (by omega) a2.1 (by decide)
    rw [← a2.1, ← a2.2] at ms
    have m1 : am_E 124 0 [.ref 49, .null] [] (am_W I' J' Tm Lm Cm) = am_E 124 17 [.ref 49, .null] [.int (mvo (smf tx f' t' 15) (nI (smv tx f' t')))] (am_W (mfo Ia (smf tx f' t' 15) f') J' Tm Lm Cm) := by
      rw [m0, rg_124_10]
      change Option.bind (am_E 106 0 [.ref 49, .int (Ia 49 25), .int (Ia 49 26), .int (nI 15)] [] _) _ = _
      rw [ms, am_okb, am_vIi]
    have c61 : am_E 61 0 [.ref 2, .null, .null, .null, .null] [] (am_W I1 J T L C) = Option.bind (am_E 60 0 [.ref 2, .int (nI 2), .int (nI 15), .null, .null] [] (am_W I1 J T L C)) (fun z1 => am_vI z1.1 fun u1 => am_E 61 7 [.ref 2, .int (nI f'), .null, .null, .null] [.int u1] z1.2) := by
      rw [rg_61_0, r4.2.1]; rfl
    have body : OF N h L C Lm Cm Tm J J' I T I' (am_E 61 0 [.ref 2, .null, .null, .null, .null] [] (am_W I1 J T L C)) (am_E 124 0 [.ref 49, .null] [] (am_W I' J' Tm Lm Cm)) ∨ OG tx N h f I T I' (am_E 61 0 [.ref 2, .null, .null, .null, .null] [] (am_W I1 J T L C)) (am_E 124 0 [.ref 49, .null] [] (am_W I' J' Tm Lm Cm)) (cfin L C J) (mfin Lm Cm Tm J') := by
      have rf := rd_figs I1 J T L C (mf := 2) (most := 15) hx1 r4 hk2 (by decide) (by decide)
      rw [rff_smf] at rf
      rcases rf with ⟨q1, q2⟩ | ⟨q1, I3, q2, q3, q4, q5⟩
      · refine Or.inl ?_
        have s7 := smf_lt tx f' t' 15
        have w2 : WR (mfo Ia (smf tx f' t' 15) f') (smf tx f' t' 15) f' := by
          unfold mfo
          rw [if_neg q1]
          exact WR_mfl ((a3 49 3 (by omega)).trans h3) _ _
        refine OF_mk (by omega) s7 (by omega) ?_ (m1.trans (mo_stw _ J' Tm Lm Cm _ _ (WR_ne w2 (by omega) s7))) w2 hl2.2 ((mfo_ne Ia _ _ (by omega)).trans a2.2) (CPf_fo r5) (CPt_r T) (MP_t (MP_fx a3) (MP_mfo h Ia _ _))
        rw [c61, q2, am_okb, am_vIi, rg_61_7, if_pos rfl]
      · have s15 := smf_v q1
        have k2 := smf_k hk2 q1
        subst k2
        have ef : mfo Ia 0 f' = Ia := if_pos rfl
        have ev : mvo 0 (nI (smv tx f' t')) = nI (smv tx f' t') := rfl
        rw [q1, ef, ev, rg_124_17, if_pos ((a3 49 3 (by omega)).trans h3), hma.2.2, mo_16 hm.2.1] at m1
        generalize smv tx f' t' = s at *
        have hh := hm.2.1
        rw [am_inb_ok (by omega) (by decide), nI_clamp (by omega)] at m1
        have hcp : CPf I I3 := CPf_t (CPf_fo r5) (CPf_fg q5)
        have e69 : I3 6 9 = I 6 9 := (q5 6 9 (by omega)).trans (r5 6 9 (by omega))
        have es : Ia 58 (16 * h + s) = am_b01 (am_bt (I 6 9) s) := (a3 58 _ (by omega)).trans (v.2.2.2.2.2.2.1 s (by omega))
        have c2 : am_E 61 0 [.ref 2, .null, .null, .null, .null] [] (am_W I1 J T L C) = am_E 61 17 [.ref 2, .int (nI f'), .null, .null, .null] [.int (am_b01 (am_bt (I 6 9) s))] (am_W I3 J T L C) := by
          rw [c61, q2, am_okb, am_vIi, rg_61_7, if_neg (by decide), q3, e69, lf_isSet (by omega : s < 32), am_okb, am_vIi]
        have vv : LV D tx N h n ng d nc f I3 T Ia := by
          refine LV_keep (fun q k hq => ?_) (fun _ => rfl) (fun q k hq => a3 q k (fun e => hq.2.2 ⟨e.1, by omega⟩)) v
          rw [q5 q k (fun e => hq.2.2 ⟨e.1, by omega⟩)]
          by_cases e9 : q = 2 ∧ k = 9
          · rw [e9.1, e9.2, r3, h9]
          · exact r5 q k (fun e => hq.2.2 ⟨e.1, by omega⟩)
        cases hb : am_bt (I 6 9) s with
        | true =>
          refine Or.inl ?_
          rw [hb] at c2 es
          rw [es, if_neg (show ¬ am_b01 true = 0 by decide), a2.1] at m1
          change _ = Option.bind (am_E 98 0 [.ref 49, .int (nI 4), .int (nI f')] [] _) _ at m1
          have w2 := WR_mfl ((a3 49 3 (by omega)).trans h3) 4 f'
          have wn := WR_ne w2 (by decide) (by decide)
          rw [mo_fail, am_okb, rg_124_36, if_neg wn, rg_124_52] at m1
          refine OF_mk (by decide) (by decide) (by omega) ?_ m1 w2 hl2.2 ((mfl_ne (by omega)).trans a2.2) hcp (CPt_r T) (MP_t (MP_fx a3) (MP_mfl h Ia _ _))
          rw [c2, rg_61_17, if_neg (show ¬ am_b01 true = 0 by decide)]
          show Option.bind (am_E 46 0 [.ref 2, .int (nI 4), .int (nI f')] [] _) _ = _
          rw [cl_failAt, am_okb, am_vIi, rg_61_22]
          rfl
        | false =>
          rw [hb] at c2 es
          rw [es, if_pos (show am_b01 false = 0 from rfl), rg_124_36, if_pos ((a3 49 3 (by omega)).trans h3), hma.2.2, mo_16 hm.2.1, am_inb_ok (by omega) (by decide), nI_clamp (by omega)] at m1
          have c3 : am_E 61 0 [.ref 2, .null, .null, .null, .null] [] (am_W I1 J T L C) = am_E 61 38 [.ref 2, .int (nI f'), .int (nI s), .int (nI 0), .null] [] (am_W (am_up I3 6 9 (am_wb (I3 6 9) s true)) J T L C) := by
            rw [c2, rg_61_17, if_pos (show am_b01 false = 0 from rfl), q3]; rfl
          have vs : LV D tx N h n ng d nc f (am_up I3 6 9 (am_wb (I3 6 9) s true)) T (am_up Ia 58 (16 * h + s) 1) := LV_step (by omega) vv
          obtain ⟨hmx, hx3, _⟩ := LV_mt vs
          obtain ⟨Ib, n1, n2, n3⟩ := mo_next (am_up Ia 58 (16 * h + s) 1) J' Tm Lm Cm hmx.1 ⟨(am_up_ne (by omega)).trans a2.1, (am_up_ne (by omega)).trans a2.2⟩ hk2
          have hmb : MT tx N h Ib := MT_k hmx (fun q k' e => n3 q k' (by omega))
          have hk3 := TK_n hk2
          have nb3 := NB_n hk2 nb2.1 (by decide)
          rw [rg_123_0, n1, am_okb, rg_123_4, mo_code Ib J' Tm Lm Cm hmb.1 n2.1 n2.2 (TK_le hk3).2 (TK_le hk3).1, am_okb, am_vJl, rg_123_6] at m1
          have vf : LV D tx N h n ng d nc (tkf tx N t') (am_up I3 6 9 (am_wb (I3 6 9) s true)) T Ib := LV_f (by omega) (LV_keep (fun _ _ _ => rfl) (fun _ => rfl) (fun q k hq => n3 q k (fun x => hq.2.2 ⟨x.1, by omega⟩)) vs)
          have lp := st_loop (L := L) (C := C) (Lm := Lm) (Cm := Cm) (Tm := Tm) (J := J) (J' := J') (f0 := f) (nI f') (by omega : s < 16) hD 3 0 rfl (am_up I3 6 9 (am_wb (I3 6 9) s true)) Ib _ _ _ _ .null .null vf ⟨(am_up_ne (by omega)).trans q4.1, (am_up_ne (by omega)).trans q4.2.1, (am_up_ne (by omega)).trans q4.2.2.1, (am_up_ne (by omega)).trans q4.2.2.2⟩ hk3 n2 nb3.1 (by omega)
          have cp2 : CPf I (am_up I3 6 9 (am_wb (I3 6 9) s true)) := CPf_t hcp (CPf_u _ (Or.inr (by decide)))
          have mp2 : MP h I' Ib := MP_t (MP_t (MP_fx a3) (MP_u _ (Or.inr (Or.inr (Or.inr ⟨by decide, by decide, by show 16 * h ≤ 16 * h + s ∧ 16 * h + s < 16 * h + 16; omega⟩))))) (MP_fx n3)
          have fin : ∀ x : am_R, (am_E 123 7 [.ref 49, .int (nI s), .int 0, .long (lN (cod tx (tkf tx N t') (tkt tx N (tkf tx N t')))), .null, .null] [] (am_W Ib J' Tm Lm Cm)) = x → (∃ I2, x = some (.null, am_W I2 J' Tm Lm Cm)) → am_E 124 0 [.ref 49, .null] [] (am_W I' J' Tm Lm Cm) = x := by
            intro x e1 e2
            obtain ⟨I2, e2⟩ := e2
            rw [m1, e1, e2, am_okb, rg_124_52]
          rcases lp with o | o
          · obtain ⟨kk, pp, Ix, Tx, Iy, t2, z1, z2, z3, z4, z5, z6⟩ := o
            exact Or.inl (OF_mono ⟨kk, pp, Ix, Tx, Iy, t2, z1, z2, z3, z4, z5, z6⟩ cp2 (CPt_r T) mp2 c3 (fin _ rfl ⟨Iy, z5⟩))
          · obtain ⟨D', n', ng', d', nc', kk, ff, tt, gg, Ix, Tx, Iy, z1, z2, z3⟩ := o
            exact Or.inr (OG_mono ⟨D', n', ng', d', nc', kk, ff, tt, gg, Ix, Tx, Iy, z1, z2, z3⟩ cp2 (CPt_r T) mp2 c3 (fin _ rfl ⟨Iy, z2⟩) (Nat.le_refl f))
    rw [cod_cvl] at mb ⊢
    rcases body with o | o
    · exact Or.inl (OF_st o lf mb)
    · exact Or.inr (OG_st o lf mb)
  · rw [if_neg e0] at hra
    refine Or.inl ?_
    rw [hra] at pr
    rcases pr with ⟨_, I1, r1, r2⟩ | ⟨r, _⟩
    · have wr := WR_mfl h3 5 f
      have mp0 := MP_mfl h I' (nI 5) (nI f)
      obtain ⟨Ia, a1, a2, a3⟩ := mo_next (mfl I' (nI 5) (nI f)) J' Tm Lm Cm (MT_p hm mp0).1 ⟨(mfl_ne (by omega)).trans hmk.1, (mfl_ne (by omega)).trans hmk.2⟩ k
      have hma : MT tx N h Ia := MT_k (MT_p hm mp0) (fun q k' e => a3 q k' (by omega))
      have wa : WR Ia 5 f := ⟨(a3 49 3 (by omega)).trans wr.1, (a3 49 4 (by omega)).trans wr.2⟩
      have hl2 := TK_le hk2
      have ms := mo_small Ia J' Tm Lm Cm (a := tkf tx N t) (b := tkt tx N (tkf tx N t)) (most := 15) hma.1 hl2.2 (by omega) a2.1 (by decide)
      rw [← a2.1, ← a2.2, a2.1, mfo_w (WR_ne wa (by decide) (by decide)), ← a2.1] at ms
      have m1 : am_E 124 0 [.ref 49, .null] [] (am_W I' J' Tm Lm Cm) = some (.null, am_W Ia J' Tm Lm Cm) := by
        rw [rg_124_0, h27, if_neg (show ¬ nI d ≤ 0 from nI_ge (a := 0) (b := d) (by omega) (by omega)), hmk.1]
        change Option.bind (am_E 98 0 [.ref 49, .int (nI 5), .int (nI f)] [] _) _ = _
        rw [mo_fail, am_okb, rg_124_8, a1, am_okb, rg_124_10]
        change Option.bind (am_E 106 0 [.ref 49, .int (Ia 49 25), .int (Ia 49 26), .int (nI 15)] [] _) _ = _
        rw [ms, am_okb, am_vIi]
        exact mo_stw _ J' Tm Lm Cm _ _ (WR_ne wa (by decide) (by decide))
      exact OF_mk (by decide) (by decide) (by omega) (lift_0 I J T L C x1 v2 v3 c.1 r1) (by rw [mb, m1, am_okb, rg_127_82, mt_118 Ia J' Tm Lm Cm xm _ wa (by decide) (by decide)]) wa hl2.2 a2.2 (CPf_fo r2) (CPt_r T) (MP_t mp0 (MP_fx a3))
    · exact absurd r (by decide)

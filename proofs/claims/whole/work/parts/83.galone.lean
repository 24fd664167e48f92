/-! SIGNS WITH A BRACKET, ), NOT, RET in both readers. -/
/-- a fault at the word itself -/
theorem gp_flt {L : Nat} {C : Nat × Nat} {Lm : Nat} {Cm : Nat × Nat} {Tm : Nat → Nat → Nat} {J : Nat → Nat → Int64} {J' : Nat → Nat → Int64} {D : Nat → Nat} {tx : Nat → Nat} {N h n ng d nc f t g : Nat} {I : Nat → Nat → Int32} {T : Nat → Nat → Nat} {I' : Nat → Nat → Int32} (x1 xm : Int32) (v2 v3 u2 u3 : Value) (p : PRE D tx N h n ng d nc f t g I T I') {k0 t2 : Nat} {y : Int64} {Ib : Nat → Nat → Int32} (h0 : 0 < k0) (h7 : k0 < 7) (hr : rof (brk tx t) (bix tx f t) n ng d = k0) (mo : (am_E 127 75 [.ref 49, .int xm, u2, u3] [.long (lN (cod tx f t))] (am_W I' J' Tm Lm Cm)) = am_E 127 110 [.ref 49, .int xm, .long y, .null] [] (am_W Ib J' Tm Lm Cm)) (w : WR Ib k0 f) (mp : MP h I' Ib) (ht2 : t2 ≤ N) (h26 : Ib 49 26 = nI t2) : OF N h L C Lm Cm Tm J J' I T I' (am_E 44 42 [.ref 2, .int x1, v2, v3] [.int 1] (am_W I J T L C)) (am_E 127 75 [.ref 49, .int xm, u2, u3] [.long (lN (cod tx f t))] (am_W I' J' Tm Lm Cm)) := by
  have pr := pr_op J L C p
  obtain ⟨v, c, k, mk, nb, hD⟩ := p
  obtain ⟨hm, h3, h4⟩ := LV_mt v
  have hN := hm.1.2.1
  obtain ⟨hft, htN, hl⟩ := TK_wl (TX_lt hm.1) hN k
  obtain ⟨I2, m1, m2, ⟨t3, m3, m4⟩, m5⟩ := mt_110 Ib J' Tm Lm Cm xm y (MT_p hm mp).1 h26 ht2 w h0 h7
  rw [hr] at pr
  rcases pr with ⟨_, I1, r1, r2⟩ | ⟨r, _⟩
  · exact OF_mk h0 h7 (by omega) (lift_0 I J T L C x1 v2 v3 c.1 r1) (mo.trans m1) m5 m3 m4 (CPf_fo r2) (CPt_r T) (MP_t mp (MP_fx m2))
  · omega
/-- a word alone that is right -/
theorem al_end {L : Nat} {C : Nat × Nat} {Lm : Nat} {Cm : Nat × Nat} {Tm : Nat → Nat → Nat} {J : Nat → Nat → Int64} {J' : Nat → Nat → Int64} {D : Nat → Nat} {tx : Nat → Nat} {N h n ng d nc f t g : Nat} {I : Nat → Nat → Int32} {T : Nat → Nat → Nat} {I' : Nat → Nat → Int32} (x1 xm : Int32) (v2 v3 u2 u3 : Value) (p : PRE D tx N h n ng d nc f t g I T I') {i d1 : Nat} {Ib : Nat → Nat → Int32} {a bb c' dd e : Int32} (hn : n < 80) (hi : i < 41) (h12 : frm i ≠ 12) (h13 : frm i ≠ 13) (hb : bix tx f t = i) (hd1 : d1 ≤ 8) (hr : rof (brk tx t) i n ng d = 0) (hdn : dnx (brk tx t) i d = d1) (hmm : (brk tx t = true ∧ frm i = 1) ∨ (brk tx t = false ∧ (frm i = 4 ∨ frm i = 5 ∨ frm i = 7))) (mo : (am_E 127 75 [.ref 49, .int xm, u2, u3] [.long (lN (cod tx f t))] (am_W I' J' Tm Lm Cm)) = am_E 127 110 [.ref 49, .int xm, .long (lN (cvl (sl tx f t))), .null] [] (am_W (MADD Ib h n a bb c' dd e) J' Tm Lm Cm)) (ib : ∀ q k, ¬ (q = 49 ∧ k = 27) → Ib q k = I' q k) (i27 : Ib 49 27 = nI d1) (hnew : ∀ I3 : Nat → Nat → Int32, PA (fun x => if x = n + 1 then d1 else D x) h (rI (ADD I3 n 12 0 0)) (rT (am_up T 15 n (1001 + i))) (MADD Ib h n a bb c' dd e) n ∨ PJ0 (fun x => if x = n + 1 then d1 else D x) h (ADD I3 n 12 0 0) (am_up T 15 n (1001 + i)) (MADD Ib h n a bb c' dd e) n ∨ PE (fun x => if x = n + 1 then d1 else D x) h (rT (am_up T 15 n (1001 + i))) (MADD Ib h n a bb c' dd e) n) : OG tx N h f I T I' (am_E 44 42 [.ref 2, .int x1, v2, v3] [.int 1] (am_W I J T L C)) (am_E 127 75 [.ref 49, .int xm, u2, u3] [.long (lN (cod tx f t))] (am_W I' J' Tm Lm Cm)) (fcl L C J x1 (1001 + i)) (fmo Lm Cm Tm J' xm (lN (cvl (sl tx f t)))) := by
  have pr := pr_op J L C p
  obtain ⟨v, c, k, mk, nb, hD⟩ := p
  obtain ⟨hm, h3, h4⟩ := LV_mt v
  have hN := hm.1.2.1
  obtain ⟨hft, htN, hl⟩ := TK_wl (TX_lt hm.1) hN k
  have w := v.2.2.2.1
  have h5n : I 5 6 = nI n := w.2.2.2.1
  rw [hb, hr, hdn] at pr
  rcases pr with ⟨r, _⟩ | ⟨_, I1, r1, r2, r3, r4, r5⟩
  · exact absurd rfl r
  have lf := lift_op I J T L C x1 v2 v3 c.1 hi h12 h13 r1
  have h1n : I1 5 6 = nI n := (r5 5 6 (by omega)).trans h5n
  have mpb : MP h I' Ib := fun q k' hq => ib q k' (fun e => hq (Or.inl ⟨e.1, by omega⟩))
  have mp : MP h I' (MADD Ib h n a bb c' dd e) := MP_t mpb (MP_add hn Ib _ _ _ _ _)
  have hk2 := TK_n k
  have nb2 := NB_n k nb (by decide)
  have m25 : MADD Ib h n a bb c' dd e 49 25 = nI f := (MADD_ne (by omega)).trans ((ib 49 25 (by omega)).trans mk.1)
  have m26 : MADD Ib h n a bb c' dd e 49 26 = nI t := (MADD_ne (by omega)).trans ((ib 49 26 (by omega)).trans mk.2)
  obtain ⟨I2, m1, m2, m3⟩ := mt_ok (MADD Ib h n a bb c' dd e) J' Tm Lm Cm xm (lN (cvl (sl tx f t))) (MT_p hm mp).1 ⟨m25, m26⟩ k
  have vv : LV D tx N h n ng d1 nc f (am_up (am_up I1 2 10 12) 2 11 0) T Ib := by
    refine LV_keep (I := am_up I 2 9 (nI d1)) (T := T) (I' := am_up I' 49 27 (nI d1)) (fun q k hq => ?_) (fun _ => rfl) (fun q k hq => ?_) (LV_d hd1 v)
    · have n1 := hq.2.2
      rw [am_up_ne (by omega), am_up_ne (by omega)]
      by_cases e9 : q = 2 ∧ k = 9
      · rw [e9.1, e9.2, r3, am_up_here]
      · rw [am_up_ne e9]; exact r5 q k (by omega)
    · by_cases e9 : q = 49 ∧ k = 27
      · rw [e9.1, e9.2, i27, am_up_here]
      · rw [am_up_ne e9]; exact ib q k e9
  have lv := fin_add hn hd1 vv (q := 1001 + i) (k := 12) (m := 0) (l := 0) (hnew (am_up (am_up I1 2 10 12) 2 11 0)) (f' := tkf tx N t) (by omega) m3
  refine ⟨_, n + 1, ng, d1, nc, _, _, _, _, _, _, I2, ?_, mo.trans m1, lv, ?_, hk2, m2, nb2.1, if_pos rfl, nb2.2, ?_, CPt_u T _ _, MP_t mp (MP_fx m3)⟩
  · rw [lf, ro_none I1 J T L C hi hn h1n r2 hmm, am_okb, am_vIi, t73_1]
    rfl
  · exact ⟨(ADD_ne (by omega)).trans r4.1, (ADD_ne (by omega)).trans r4.2.1, (ADD_ne (by omega)).trans r4.2.2.1, (ADD_ne (by omega)).trans r4.2.2.2⟩
  · exact CPf_t (CPf_t (CPf_t (CPf_fo r5) (CPf_u _ (Or.inl ⟨rfl, by decide, by decide⟩))) (CPf_u _ (Or.inl ⟨rfl, by decide, by decide⟩))) (CPf_add _ n _ _ _)
theorem mo_may1 (I : Nat → Nat → Int32) (J : Nat → Nat → Int64) (T : Nat → Nat → Nat) (L : Nat) (C : Nat × Nat) {h n f : Nat} (hh : h < 2) (hn : n < 80) (h23 : I 49 23 = nI h) (h56 : I 56 h = nI n) (h25 : I 49 25 = nI f) (h3 : I 49 3 = 0) : am_E 115 0 [.ref 49] [] (am_W I J T L C) = some (.int 1, (am_W I J T L C)) := by
  rcases mo_may I J T L C hh (by omega : n ≤ 80) h23 h56 h25 h3 with ⟨e, _⟩ | ⟨_, e⟩
  · omega
  · exact e
theorem mo_open (I : Nat → Nat → Int32) (J : Nat → Nat → Int64) (T : Nat → Nat → Nat) (L : Nat) (C : Nat × Nat) {h n : Nat} (y1 y5 : Int64) (x3 x4 x7 x8 x9 : Int32) (hh : h < 2) (hn : n < 80) (h23 : I 49 23 = nI h) (h56 : I 56 h = nI n) : am_E 114 118 [.ref 49, .long y1, .null, .int x3, .int x4, .long y5, .null, .int x7, .int x8, .int x9] [] (am_W I J T L C) = some (.int 1, am_W (MADD (am_up I 49 27 (I 49 27 + 1)) h n x8 (x9 + 2) 0 0 0) J T L C) := by
  rw [rg_114_118, mo_add (am_up I 49 27 (I 49 27 + 1)) J T L C x8 (x9 + 2) 0 0 0 hh hn h23 h56, am_okb, rg_114_133, rg_114_148]
theorem am_up_n27 {I : Nat → Nat → Int32} {v : Int32} {q k : Nat} (h : ¬ (q = 49 ∧ k = 27)) : am_up I 49 27 v q k = I q k := am_up_ne h
theorem gp_open {L : Nat} {C : Nat × Nat} {Lm : Nat} {Cm : Nat × Nat} {Tm : Nat → Nat → Nat} {J : Nat → Nat → Int64} {J' : Nat → Nat → Int64} {D : Nat → Nat} {tx : Nat → Nat} {N h n ng d nc f t g : Nat} {I : Nat → Nat → Int32} {T : Nat → Nat → Nat} {I' : Nat → Nat → Int32} (x1 xm : Int32) (v2 v3 u2 u3 : Value) (p : PRE D tx N h n ng d nc f t g I T I') {i : Nat} (hn : n < 80) (h40 : tx (t - 1) = 40) (h6 : 6 ≤ i) (h22 : i ≤ 22) (hw : sl tx f (bae tx t) = wd i) : OF N h L C Lm Cm Tm J J' I T I' (am_E 44 42 [.ref 2, .int x1, v2, v3] [.int 1] (am_W I J T L C)) (am_E 127 75 [.ref 49, .int xm, u2, u3] [.long (lN (cod tx f t))] (am_W I' J' Tm Lm Cm)) ∨ OG tx N h f I T I' (am_E 44 42 [.ref 2, .int x1, v2, v3] [.int 1] (am_W I J T L C)) (am_E 127 75 [.ref 49, .int xm, u2, u3] [.long (lN (cod tx f t))] (am_W I' J' Tm Lm Cm)) (fcl L C J x1 (1001 + i)) (fmo Lm Cm Tm J' xm (lN (cvl (sl tx f t)))) := by
  have p' := p
  obtain ⟨v, c, k, mk, nb, hD⟩ := p'
  obtain ⟨hm, h3, h4⟩ := LV_mt v
  have hN := hm.1.2.1
  obtain ⟨hft, htN, hl⟩ := TK_wl (TX_lt hm.1) hN k
  have w := v.2.2.2.1
  have h56 : I' 56 h = nI n := w.2.2.2.2.1
  have h27 : I' 49 27 = nI d := w.2.2.2.2.2.2.2.2.2.2
  have hd8 : d ≤ 8 := w.2.2.2.2.2.2.2.2.1
  obtain ⟨b1, b2⟩ := bix_b (by omega : i < 41) h40 hw
  have q := (frm_sg i (by omega)).mpr ⟨h6, h22⟩
  have nw := sl_ne_wd hft h40
  obtain ⟨x3, x7, y5, r⟩ := is_signh I' J' Tm Lm Cm (a := i - 6) hm.1 mk k (by omega) (by rw [hw]; congr 1; omega)
  rw [mo_may1 I' J' Tm Lm Cm hm.2.1 hn hm.2.2 h56 mk.1 h3, am_okb, am_vIi, rg_114_104, if_neg (show ¬ (1 : Int32) = 0 by decide), b2, if_neg (show ¬ am_b01 true = 0 by decide), h27] at r
  by_cases e8 : d = 8
  · refine Or.inl ?_
    have hr : rof (brk tx t) (bix tx f t) n ng d = 5 := by
      rw [b1, b2, e8]
      have hf : ful (frm i) n ng = false := by rw [q]; exact decide_eq_false (by omega)
      unfold rof
      rw [if_pos ⟨by omega, fun _ => q⟩, hf, q]
      rfl
    rw [if_pos (show nI d = 8 by rw [e8]; rfl), mk.1] at r
    change _ = Option.bind (am_E 98 0 [.ref 49, .int (nI 5), .int (nI f)] [] _) _ at r
    rw [mo_fail, am_okb] at r
    have g23 : mfl I' (nI 5) (nI f) 49 23 = nI h := (mfl_ne (by omega)).trans hm.2.2
    have g56 : mfl I' (nI 5) (nI f) 56 h = nI n := (mfl_ne (by omega)).trans h56
    rw [mo_open (mfl I' (nI 5) (nI f)) J' Tm Lm Cm _ _ _ _ _ _ _ hm.2.1 hn g23 g56] at r
    have mo := ds_2 I' J' Tm Lm Cm xm u2 u3 hl (nw 39 (by decide)) (nw 40 (by decide)) (fun j hj => nw j (by omega)) r
    rw [← cod_cvl] at mo
    have wr := WR_mfl h3 5 f
    refine gp_flt x1 xm v2 v3 u2 u3 p (by decide) (by decide) hr mo ⟨?_, ?_⟩ (MP_t (MP_t (MP_mfl h I' _ _) (MP_49 _ (by omega))) (MP_add hn _ _ _ _ _ _)) htN ?_
    · rw [MADD_ne (by omega), am_up_n27 (by omega)]; exact wr.1
    · rw [MADD_ne (by omega), am_up_n27 (by omega)]; exact wr.2
    · rw [MADD_ne (by omega), am_up_n27 (by omega), mfl_ne (by omega)]; exact mk.2
  · refine Or.inr ?_
    rw [if_neg (show ¬ nI d = 8 from nb_ne (c := d) (n := 8) (by omega) (by decide) e8), mo_open I' J' Tm Lm Cm _ _ _ _ _ _ _ hm.2.1 hn hm.2.2 h56, h27, nI_1] at r
    have mo := ds_2 I' J' Tm Lm Cm xm u2 u3 hl (nw 39 (by decide)) (nw 40 (by decide)) (fun j hj => nw j (by omega)) r
    have mo2 := mo
    rw [← cod_cvl] at mo2
    refine al_end x1 xm v2 v3 u2 u3 p (i := i) (d1 := d + 1) (Ib := am_up I' 49 27 (nI (d + 1))) hn (by omega) (by omega) (by omega) b1 (by omega) ?_ ?_ (Or.inl ⟨b2, q⟩) (by rw [← cod_cvl]; exact mo2) (fun q k e => am_up_n27 e) (am_up_here _ _ _ _) ?_
    · rw [b2]
      refine rof_ok (by omega) (fun _ => q) hn (by omega) ?_
      rw [q]
      show (!true || decide (d < 8)) = true
      rw [decide_eq_true (by omega)]; rfl
    · rw [b2]; unfold dnx; rw [if_pos rfl]
    · intro I3
      refine Or.inl (PA_of (Or.inr (Or.inr (Or.inl ⟨i - 6, by omega, by omega, rfl, ?_, rfl, by omega, by omega⟩))))
      show nI (oh (i - 6)) + 2 = nI (oh (i - 6) + 2)
      exact nI_add _ 2
theorem mo_closr (I : Nat → Nat → Int32) (J : Nat → Nat → Int64) (T : Nat → Nat → Nat) (L : Nat) (C : Nat × Nat) {h n : Nat} (y : Int64) (x v : Int32) (hh : h < 2) (hn : n < 80) (h23 : I 49 23 = nI h) (h56 : I 56 h = nI n) : am_E 122 44 [.ref 49, .long y, .null, .int x] [.int v, .ref 49] (am_W I J T L C) = some (.int 1, am_W (MADD (am_up I 49 27 v) h n x 0 0 0 0) J T L C) := by
  rw [rg_122_44, mo_add (am_up I 49 27 v) J T L C x 0 0 0 0 hh hn h23 h56, am_okb, rg_122_52]
theorem gp_close {L : Nat} {C : Nat × Nat} {Lm : Nat} {Cm : Nat × Nat} {Tm : Nat → Nat → Nat} {J : Nat → Nat → Int64} {J' : Nat → Nat → Int64} {D : Nat → Nat} {tx : Nat → Nat} {N h n ng d nc f t g : Nat} {I : Nat → Nat → Int32} {T : Nat → Nat → Nat} {I' : Nat → Nat → Int32} (x1 xm : Int32) (v2 v3 u2 u3 : Value) (p : PRE D tx N h n ng d nc f t g I T I') {i : Nat} (hn : n < 80) (hi : i = 23 ∨ i = 24) (hw : sl tx f t = wd i) : OF N h L C Lm Cm Tm J J' I T I' (am_E 44 42 [.ref 2, .int x1, v2, v3] [.int 1] (am_W I J T L C)) (am_E 127 75 [.ref 49, .int xm, u2, u3] [.long (lN (cod tx f t))] (am_W I' J' Tm Lm Cm)) ∨ OG tx N h f I T I' (am_E 44 42 [.ref 2, .int x1, v2, v3] [.int 1] (am_W I J T L C)) (am_E 127 75 [.ref 49, .int xm, u2, u3] [.long (lN (cod tx f t))] (am_W I' J' Tm Lm Cm)) (fcl L C J x1 (1001 + i)) (fmo Lm Cm Tm J' xm (lN (cvl (sl tx f t)))) := by
  have p' := p
  obtain ⟨v, c, k, mk, nb, hD⟩ := p'
  obtain ⟨hm, h3, h4⟩ := LV_mt v
  have hN := hm.1.2.1
  obtain ⟨hft, htN, hl⟩ := TK_wl (TX_lt hm.1) hN k
  have w := v.2.2.2.1
  have h56 : I' 56 h = nI n := w.2.2.2.2.1
  have h27 : I' 49 27 = nI d := w.2.2.2.2.2.2.2.2.2.2
  have hd8 : d ≤ 8 := w.2.2.2.2.2.2.2.2.1
  obtain ⟨b1, b2, b3⟩ := bix_w (by omega : i < 41) hft hw
  have ne : ∀ j, j < 41 → j ≠ i → sl tx f t ≠ wd j := fun j hj hne => by rw [hw]; exact wd_inj i (by omega) j hj (Ne.symm hne)
  have sm := is_signm I' J' Tm Lm Cm hm.1 mk k (fun a ha => by rw [b3]; exact ne (6 + a) (by omega) (by omega))
  have go : ∀ I2, am_E 122 0 [.ref 49, .long (lN (cvl (wd i))), .null, .null] [] (am_W I' J' Tm Lm Cm) = some (.int 1, am_W I2 J' Tm Lm Cm) → (am_E 127 75 [.ref 49, .int xm, u2, u3] [.long (lN (cod tx f t))] (am_W I' J' Tm Lm Cm)) = am_E 127 110 [.ref 49, .int xm, .long (lN (cvl (sl tx f t))), .null] [] (am_W I2 J' Tm Lm Cm) := by
    intro I2 e
    rw [← hw] at e
    have mo := ds_5 I' J' Tm Lm Cm xm u2 u3 hl (ne 39 (by decide) (by omega)) (ne 40 (by decide) (by omega)) (fun j hj => ne j (by omega) (by omega)) sm (fun j hj h1 h2 => ne j hj (by omega)) (fun j hj h1 h2 => ne j hj (by omega)) e
    rw [cod_cvl]; exact mo
  have r := al_hit I' J' Tm Lm Cm (i := i) (by omega) (by omega)
  rw [mo_may1 I' J' Tm Lm Cm hm.2.1 hn hm.2.2 h56 mk.1 h3, am_okb, am_vIi, rg_122_21, if_neg (show ¬ (1 : Int32) = 0 by decide), h27] at r
  rcases hi with rfl | rfl
  · rw [show mts 23 = 18 from rfl, if_pos (show (18 : Int32) = 18 from rfl)] at r
    by_cases e0 : d = 0
    · refine Or.inl ?_
      have hr : rof (brk tx t) (bix tx f t) n ng d = 5 := by
        rw [b1, b2, e0]
        unfold rof ful
        rw [if_pos ⟨by decide, fun e => absurd e (by decide)⟩, if_neg (show ¬ frm 23 = 13 by decide), if_neg (show ¬ frm 23 = 12 by decide), decide_eq_false (show ¬ 80 ≤ n by omega)]
        rfl
      rw [if_pos (show nI d = 0 by rw [e0]; rfl), mk.1] at r
      change _ = Option.bind (am_E 98 0 [.ref 49, .int (nI 5), .int (nI f)] [] _) _ at r
      rw [mo_fail, am_okb, rg_122_33, if_pos (show (18 : Int32) = 18 from rfl)] at r
      have g23 : mfl I' (nI 5) (nI f) 49 23 = nI h := (mfl_ne (by omega)).trans hm.2.2
      have g56 : mfl I' (nI 5) (nI f) 56 h = nI n := (mfl_ne (by omega)).trans h56
      rw [mo_closr (mfl I' (nI 5) (nI f)) J' Tm Lm Cm _ _ _ hm.2.1 hn g23 g56] at r
      have wr := WR_mfl h3 5 f
      refine gp_flt x1 xm v2 v3 u2 u3 p (by decide) (by decide) hr (go _ r) ⟨?_, ?_⟩ (MP_t (MP_t (MP_mfl h I' _ _) (MP_49 _ (by omega))) (MP_add hn _ _ _ _ _ _)) htN ?_
      · rw [MADD_ne (by omega), am_up_n27 (by omega)]; exact wr.1
      · rw [MADD_ne (by omega), am_up_n27 (by omega)]; exact wr.2
      · rw [MADD_ne (by omega), am_up_n27 (by omega), mfl_ne (by omega)]; exact mk.2
    · refine Or.inr ?_
      rw [if_neg (show ¬ nI d = 0 from nb_ne (c := d) (n := 0) (by omega) (by decide) e0), rg_122_33, if_pos (show (18 : Int32) = 18 from rfl), h27, nI_m1 (by omega), mo_closr I' J' Tm Lm Cm _ _ _ hm.2.1 hn hm.2.2 h56] at r
      refine al_end x1 xm v2 v3 u2 u3 p (i := 23) (d1 := d - 1) (Ib := am_up I' 49 27 (nI (d - 1))) hn (by decide) (by decide) (by decide) b1 (by omega) ?_ ?_ (Or.inr ⟨b2, Or.inl rfl⟩) (go _ r) (fun q k e => am_up_n27 e) (am_up_here _ _ _ _) ?_
      · rw [b2]
        refine rof_ok (by decide) (fun e => absurd e (by decide)) hn (by decide) ?_
        show decide (0 < d) = true
        exact decide_eq_true (by omega)
      · rw [b2]; rfl
      · intro I3
        exact Or.inl (PA_of (Or.inr (Or.inr (Or.inr (Or.inr (Or.inr (Or.inl ⟨d - 1, rfl, rfl, by omega, rfl⟩)))))))
  · refine Or.inr ?_
    rw [show mts 24 = 19 from rfl, if_neg (show ¬ (19 : Int32) = 18 by decide), rg_122_33, if_neg (show ¬ (19 : Int32) = 18 by decide), mo_closr I' J' Tm Lm Cm _ _ _ hm.2.1 hn hm.2.2 h56] at r
    refine al_end x1 xm v2 v3 u2 u3 p (i := 24) (d1 := d) (Ib := am_up I' 49 27 (I' 49 27)) hn (by decide) (by decide) (by decide) b1 hd8 ?_ ?_ (Or.inr ⟨b2, Or.inr (Or.inl rfl)⟩) (go _ r) (fun q k e => am_up_n27 e) ((am_up_here _ _ _ _).trans h27) ?_
    · rw [b2]
      exact rof_ok (by decide) (fun e => absurd e (by decide)) hn (by decide) rfl
    · rw [b2]; rfl
    · intro I3
      exact Or.inl (PA_of (Or.inr (Or.inr (Or.inr (Or.inr (Or.inr (Or.inr (Or.inl ⟨rfl, rfl, hD.symm⟩))))))))
theorem jm_b25 (I : Nat → Nat → Int32) (J : Nat → Nat → Int64) (T : Nat → Nat → Nat) (L : Nat) (C : Nat × Nat) : am_E 117 48 [.ref 49, .long 5262666, .null, .int 20, .null, .null] [] (am_W I J T L C) = am_E 117 69 [.ref 49, .long 5262666, .null, .int 20, .null, .null] [.int 0] (am_W I J T L C) := by
  refine (rg_117_48 I J T L C 5262666 20 _ _).trans ?_
  rfl
theorem jm_b26 (I : Nat → Nat → Int32) (J : Nat → Nat → Int64) (T : Nat → Nat → Nat) (L : Nat) (C : Nat × Nat) : am_E 117 48 [.ref 49, .long 1129336138, .null, .int 20, .null, .null] [] (am_W I J T L C) = am_E 117 69 [.ref 49, .long 1129336138, .null, .int 20, .null, .null] [.int 4] (am_W I J T L C) := by
  refine (rg_117_48 I J T L C 1129336138 20 _ _).trans ?_
  show am_E 117 56 [.ref 49, .long 1129336138, .null, .int 20, .null, .null] [] (am_W I J T L C) = _
  rw [rg_117_56]
theorem jm_b27 (I : Nat → Nat → Int32) (J : Nat → Nat → Int64) (T : Nat → Nat → Nat) (L : Nat) (C : Nat × Nat) : am_E 117 48 [.ref 49, .long 336136785226, .null, .int 20, .null, .null] [] (am_W I J T L C) = am_E 117 69 [.ref 49, .long 336136785226, .null, .int 20, .null, .null] [.int 5] (am_W I J T L C) := by
  refine (rg_117_48 I J T L C 336136785226 20 _ _).trans ?_
  show am_E 117 66 [.ref 49, .long 336136785226, .null, .int 20, .null, .null] [] (am_W I J T L C) = _
  rw [rg_117_66]
theorem jm_b28 (I : Nat → Nat → Int32) (J : Nat → Nat → Int64) (T : Nat → Nat → Nat) (L : Nat) (C : Nat × Nat) : am_E 117 48 [.ref 49, .long 5522770, .null, .int 21, .null, .null] [] (am_W I J T L C) = am_E 117 69 [.ref 49, .long 5522770, .null, .int 21, .null, .null] [.int 0] (am_W I J T L C) := by
  refine (rg_117_48 I J T L C 5522770 21 _ _).trans ?_
  rfl
theorem jm_b29 (I : Nat → Nat → Int32) (J : Nat → Nat → Int64) (T : Nat → Nat → Nat) (L : Nat) (C : Nat × Nat) : am_E 117 48 [.ref 49, .long 1129596242, .null, .int 21, .null, .null] [] (am_W I J T L C) = am_E 117 69 [.ref 49, .long 1129596242, .null, .int 21, .null, .null] [.int 4] (am_W I J T L C) := by
  refine (rg_117_48 I J T L C 1129596242 21 _ _).trans ?_
  show am_E 117 56 [.ref 49, .long 1129596242, .null, .int 21, .null, .null] [] (am_W I J T L C) = _
  rw [rg_117_56]
theorem jm_b30 (I : Nat → Nat → Int32) (J : Nat → Nat → Int64) (T : Nat → Nat → Nat) (L : Nat) (C : Nat × Nat) : am_E 117 48 [.ref 49, .long 336137045330, .null, .int 21, .null, .null] [] (am_W I J T L C) = am_E 117 69 [.ref 49, .long 336137045330, .null, .int 21, .null, .null] [.int 5] (am_W I J T L C) := by
  refine (rg_117_48 I J T L C 336137045330 21 _ _).trans ?_
  show am_E 117 66 [.ref 49, .long 336137045330, .null, .int 21, .null, .null] [] (am_W I J T L C) = _
  rw [rg_117_66]
def jif (i : Nat) : Int32 := nI (jh (if i < 28 then i - 25 else i - 28))
theorem jm_48 (I : Nat → Nat → Int32) (J : Nat → Nat → Int64) (T : Nat → Nat → Nat) (L : Nat) (C : Nat × Nat) {i : Nat} (h1 : 25 ≤ i) (h2 : i ≤ 30) : am_E 117 48 [.ref 49, .long (lN (cvl (wd i))), .null, .int (mts i), .null, .null] [] (am_W I J T L C) = am_E 117 69 [.ref 49, .long (lN (cvl (wd i))), .null, .int (mts i), .null, .null] [.int (jif i)] (am_W I J T L C) := by
  rcases (show i = 25 ∨ i = 26 ∨ i = 27 ∨ i = 28 ∨ i = 29 ∨ i = 30 by omega) with rfl | rfl | rfl | rfl | rfl | rfl
  · rw [show lN (cvl (wd 25)) = 5262666 by decide +kernel]; exact jm_b25 I J T L C
  · rw [show lN (cvl (wd 26)) = 1129336138 by decide +kernel]; exact jm_b26 I J T L C
  · rw [show lN (cvl (wd 27)) = 336136785226 by decide +kernel]; exact jm_b27 I J T L C
  · rw [show lN (cvl (wd 28)) = 5522770 by decide +kernel]; exact jm_b28 I J T L C
  · rw [show lN (cvl (wd 29)) = 1129596242 by decide +kernel]; exact jm_b29 I J T L C
  · rw [show lN (cvl (wd 30)) = 336137045330 by decide +kernel]; exact jm_b30 I J T L C
theorem mo_ret (I : Nat → Nat → Int32) (J : Nat → Nat → Int64) (T : Nat → Nat → Nat) (L : Nat) (C : Nat × Nat) {i h n : Nat} (h1 : 28 ≤ i) (h2 : i ≤ 30) (hh : h < 2) (hn : n < 80) (h23 : I 49 23 = nI h) (h56 : I 56 h = nI n) : am_E 117 48 [.ref 49, .long (lN (cvl (wd i))), .null, .int (mts i), .null, .null] [] (am_W I J T L C) = some (.int 1, am_W (MADD I h n 21 (jif i) 0 0 0) J T L C) := by
  have e : mts i = 21 := by unfold mts; rw [if_neg (by omega), if_neg (by omega), if_neg (by omega), if_pos (by omega)]
  rw [jm_48 I J T L C (by omega) h2, e, rg_117_69, if_neg (show ¬ (21 : Int32) = 20 by decide), rg_117_85, mo_add I J T L C 21 (jif i) 0 0 0 hh hn h23 h56, am_okb, rg_117_92]
theorem alw_67 {m d : Nat} (h : m = 6 ∨ m = 7 ∨ m = 12 ∨ m = 13) : alw false m d = decide (d = 0) := by
  rcases h with rfl | rfl | rfl | rfl <;> rfl
theorem rof_5 {i n ng d : Nat} (hi : i < 41) (hn : n < 80) (hm : frm i = 6 ∨ frm i = 7) (hd : d ≠ 0) : rof false i n ng d = 5 := by
  have hf : ful (frm i) n ng = false := by
    unfold ful
    rw [if_neg (by omega), if_neg (by omega)]; exact decide_eq_false (by omega)
  unfold rof
  rw [if_pos ⟨hi, fun e => absurd e (by decide)⟩, hf, if_neg (show ¬ false = true by decide), alw_67 (by omega), decide_eq_false hd, if_neg (show ¬ false = true by decide)]
theorem gp_ret {L : Nat} {C : Nat × Nat} {Lm : Nat} {Cm : Nat × Nat} {Tm : Nat → Nat → Nat} {J : Nat → Nat → Int64} {J' : Nat → Nat → Int64} {D : Nat → Nat} {tx : Nat → Nat} {N h n ng d nc f t g : Nat} {I : Nat → Nat → Int32} {T : Nat → Nat → Nat} {I' : Nat → Nat → Int32} (x1 xm : Int32) (v2 v3 u2 u3 : Value) (p : PRE D tx N h n ng d nc f t g I T I') {i : Nat} (hn : n < 80) (h1 : 28 ≤ i) (h2 : i ≤ 30) (hw : sl tx f t = wd i) : OF N h L C Lm Cm Tm J J' I T I' (am_E 44 42 [.ref 2, .int x1, v2, v3] [.int 1] (am_W I J T L C)) (am_E 127 75 [.ref 49, .int xm, u2, u3] [.long (lN (cod tx f t))] (am_W I' J' Tm Lm Cm)) ∨ OG tx N h f I T I' (am_E 44 42 [.ref 2, .int x1, v2, v3] [.int 1] (am_W I J T L C)) (am_E 127 75 [.ref 49, .int xm, u2, u3] [.long (lN (cod tx f t))] (am_W I' J' Tm Lm Cm)) (fcl L C J x1 (1001 + i)) (fmo Lm Cm Tm J' xm (lN (cvl (sl tx f t)))) := by
  have p' := p
  obtain ⟨v, c, k, mk, nb, hD⟩ := p'
  obtain ⟨hm, h3, h4⟩ := LV_mt v
  have hN := hm.1.2.1
  obtain ⟨hft, htN, hl⟩ := TK_wl (TX_lt hm.1) hN k
  have w := v.2.2.2.1
  have h56 : I' 56 h = nI n := w.2.2.2.2.1
  have h27 : I' 49 27 = nI d := w.2.2.2.2.2.2.2.2.2.2
  have hd8 : d ≤ 8 := w.2.2.2.2.2.2.2.2.1
  obtain ⟨b1, b2, b3⟩ := bix_w (by omega : i < 41) hft hw
  have ne : ∀ j, j < 41 → j ≠ i → sl tx f t ≠ wd j := fun j hj hne => by rw [hw]; exact wd_inj i (by omega) j hj (Ne.symm hne)
  have sm := is_signm I' J' Tm Lm Cm hm.1 mk k (fun a ha => by rw [b3]; exact ne (6 + a) (by omega) (by omega))
  have hfr : frm i = 7 := by rcases (show i = 28 ∨ i = 29 ∨ i = 30 by omega) with e | e | e <;> rw [e] <;> rfl
  have go : ∀ I2, am_E 117 0 [.ref 49, .long (lN (cvl (wd i))), .null, .null, .null, .null] [] (am_W I' J' Tm Lm Cm) = some (.int 1, am_W I2 J' Tm Lm Cm) → (am_E 127 75 [.ref 49, .int xm, u2, u3] [.long (lN (cod tx f t))] (am_W I' J' Tm Lm Cm)) = am_E 127 110 [.ref 49, .int xm, .long (lN (cvl (sl tx f t))), .null] [] (am_W I2 J' Tm Lm Cm) := by
    intro I2 e
    rw [← hw] at e
    have mo := ds_3 I' J' Tm Lm Cm xm u2 u3 hl (ne 39 (by decide) (by omega)) (ne 40 (by decide) (by omega)) (fun j hj => ne j (by omega) (by omega)) sm e
    rw [cod_cvl]; exact mo
  have r := jm_hit I' J' Tm Lm Cm (i := i) (by omega) (by omega)
  rw [mo_may1 I' J' Tm Lm Cm hm.2.1 hn hm.2.2 h56 mk.1 h3, am_okb, am_vIi, rg_117_37, if_neg (show ¬ (1 : Int32) = 0 by decide), h27] at r
  by_cases e0 : d = 0
  · refine Or.inr ?_
    rw [if_pos (show nI d ≤ 0 by rw [e0]; decide), mo_ret I' J' Tm Lm Cm h1 h2 hm.2.1 hn hm.2.2 h56] at r
    refine al_end x1 xm v2 v3 u2 u3 p (i := i) (d1 := d) (Ib := I') hn (by omega) (by omega) (by omega) b1 hd8 ?_ ?_ (Or.inr ⟨b2, Or.inr (Or.inr hfr)⟩) (go _ r) (fun q k e => rfl) h27 ?_
    · rw [b2]
      refine rof_ok (by omega) (fun e => absurd e (by decide)) hn (by omega) ?_
      rw [hfr]
      exact decide_eq_true e0
    · rw [b2]; unfold dnx; rw [if_neg (by decide), if_neg (by omega)]
    · intro I3
      have e : 1001 + i = 1029 + (i - 28) := by omega
      rw [e]
      refine Or.inr (Or.inr (PE_of (by omega) rfl ?_ (hD.trans e0) e0))
      unfold jif
      rw [if_neg (by omega)]
  · refine Or.inl ?_
    have hr : rof (brk tx t) (bix tx f t) n ng d = 5 := by
      rw [b1, b2]; exact rof_5 (by omega) hn (Or.inr hfr) e0
    rw [if_neg (show ¬ nI d ≤ 0 from nI_ge (a := 0) (b := d) (by omega) (by omega)), mk.1] at r
    change _ = Option.bind (am_E 98 0 [.ref 49, .int (nI 5), .int (nI f)] [] _) _ at r
    have g23 : mfl I' (nI 5) (nI f) 49 23 = nI h := (mfl_ne (by omega)).trans hm.2.2
    have g56 : mfl I' (nI 5) (nI f) 56 h = nI n := (mfl_ne (by omega)).trans h56
    rw [mo_fail, am_okb, mo_ret (mfl I' (nI 5) (nI f)) J' Tm Lm Cm h1 h2 hm.2.1 hn g23 g56] at r
    have wr := WR_mfl h3 5 f
    refine gp_flt x1 xm v2 v3 u2 u3 p (by decide) (by decide) hr (go _ r) ⟨?_, ?_⟩ (MP_t (MP_mfl h I' _ _) (MP_add hn _ _ _ _ _ _)) htN ?_
    · rw [MADD_ne (by omega)]; exact wr.1
    · rw [MADD_ne (by omega)]; exact wr.2
    · rw [MADD_ne (by omega), mfl_ne (by omega)]; exact mk.2

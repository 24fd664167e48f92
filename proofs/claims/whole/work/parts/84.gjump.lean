/-! JUMPS in both readers. -/
/-- the class reads the cell behind its word -/
theorem cl_cell {L : Nat} {C : Nat × Nat} {J : Nat → Nat → Int64} {D : Nat → Nat} {tx : Nat → Nat} {N h n ng d nc f t g : Nat} {I : Nat → Nat → Int32} {T : Nat → Nat → Nat} {I' : Nat → Nat → Int32} (x1 : Int32) (v2 v3 : Value) (p : PRE D tx N h n ng d nc f t g I T I') {i : Nat} (hi : i < 41) (h12 : frm i ≠ 12) (h13 : frm i ≠ 13) (hw : sl tx f t = wd i) (ho : onl (frm i) ≠ 0) (hr : rof false i n ng d = 0) (h4 : frm i ≠ 4) : (crf tx (tkk tx N (tkf tx N t)) (tkf tx N t) (tkt tx N (tkf tx N t)) (tkg tx (tkf tx N t) (tkt tx N (tkf tx N t))) (onl (frm i)) ≠ 0 ∧ crf tx (tkk tx N (tkf tx N t)) (tkf tx N t) (tkt tx N (tkf tx N t)) (tkg tx (tkf tx N t) (tkt tx N (tkf tx N t))) (onl (frm i)) < 7 ∧ ∃ Ix, (am_E 44 42 [.ref 2, .int x1, v2, v3] [.int 1] (am_W I J T L C)) = some (.int 0, am_W (flt Ix (crf tx (tkk tx N (tkf tx N t)) (tkf tx N t) (tkt tx N (tkf tx N t)) (tkg tx (tkf tx N t) (tkt tx N (tkf tx N t))) (onl (frm i))) (tkf tx N t)) J T L C) ∧ CPf I Ix) ∨ (crf tx (tkk tx N (tkf tx N t)) (tkf tx N t) (tkt tx N (tkf tx N t)) (tkg tx (tkf tx N t) (tkt tx N (tkf tx N t))) (onl (frm i)) = 0 ∧ am_bt (onl (frm i)) (crk tx (tkk tx N (tkf tx N t)) (tkf tx N t) (tkt tx N (tkf tx N t)) (tkg tx (tkf tx N t) (tkt tx N (tkf tx N t)))) = true ∧ kow tx (tkk tx N (tkf tx N t)) (tkf tx N t) (tkt tx N (tkf tx N t)) (tkg tx (tkf tx N t) (tkt tx N (tkf tx N t))) = some (crk tx (tkk tx N (tkf tx N t)) (tkf tx N t) (tkt tx N (tkf tx N t)) (tkg tx (tkf tx N t) (tkt tx N (tkf tx N t)))) ∧ ∃ I3, (am_E 44 42 [.ref 2, .int x1, v2, v3] [.int 1] (am_W I J T L C)) = Option.bind (am_E 56 28 [.ref 2, .ref (1001 + i), .int (nI (tkf tx N t)), .int 0, .int (onl (frm i)), .null, .null] [] (am_W I3 J T L C)) (fun z1 => am_vI z1.1 fun u1 => am_E 44 73 [.ref 2, .int x1, .int 1, .ref (1001 + i)] [.int u1] z1.2) ∧ I3 2 10 = nI (crk tx (tkk tx N (tkf tx N t)) (tkf tx N t) (tkt tx N (tkf tx N t)) (tkg tx (tkf tx N t) (tkt tx N (tkf tx N t)))) ∧ I3 2 11 = crv tx (tkk tx N (tkf tx N t)) (tkf tx N t) (tkt tx N (tkf tx N t)) (tkg tx (tkf tx N t) (tkt tx N (tkf tx N t))) ∧ CN I3 tx N (tkt tx N (tkf tx N t)) ∧ I3 5 6 = nI n ∧ (∀ q k, CV q k → I3 q k = I q k) ∧ CPf I I3 ∧ TX I3 4 3 1 tx N) := by
  have pr := pr_op J L C p
  obtain ⟨v, c, k, mk, nb, hD⟩ := p
  obtain ⟨hm, h3, h4'⟩ := LV_mt v
  have hN := hm.1.2.1
  obtain ⟨hft, htN, hl⟩ := TK_wl (TX_lt hm.1) hN k
  have w := v.2.2.2.1
  have h9 : I 2 9 = nI d := w.2.2.2.2.2.2.2.2.2.1
  have h5n : I 5 6 = nI n := w.2.2.2.1
  obtain ⟨b1, b2, b3⟩ := bix_w hi hft hw
  have hdn : dnx false i d = d := by
    unfold dnx
    rw [if_neg (by decide), if_neg h4]
  rw [b1, b2, hr, hdn] at pr
  rcases pr with ⟨r, _⟩ | ⟨_, I1, r1, r2, r3, r4, r5⟩
  · exact absurd rfl r
  have hk2 := TK_n k
  have lf := lift_op I J T L C x1 v2 v3 c.1 hi h12 h13 r1
  have h1 : TX I1 4 3 1 tx N := ⟨(r5 3 1 (by omega)).trans v.1.1, hN, fun i hi => ⟨(r5 4 i (by omega)).trans (v.1.2.2 i hi).1, (v.1.2.2 i hi).2⟩⟩
  have rc := ro_cell I1 J T L C hi (r2.trans rfl) ho h1 r4 hk2
  generalize hk' : tkk tx N (tkf tx N t) = k' at *
  generalize hf' : tkf tx N t = f' at *
  generalize ht' : tkt tx N f' = t' at *
  generalize hg' : tkg tx f' t' = g' at *
  rcases rc with ⟨c1, c2⟩ | ⟨c1, c2, c3, I3, c4, c5, c6, c7, c8⟩
  · refine Or.inl ⟨c1, ?_, am_up (am_up I1 2 10 12) 2 11 0, ?_, ?_⟩
    · unfold crf cfk
      split
      · decide
      · split
        · split
          · split <;> decide
          · split <;> decide
        · decide
    · rw [lf, c2, am_okb, am_vIi, t73_0]
    · exact CPf_t (CPf_t (CPf_fo r5) (CPf_u _ (Or.inl ⟨rfl, by decide, by decide⟩))) (CPf_u _ (Or.inl ⟨rfl, by decide, by decide⟩))
  · refine Or.inr ⟨c1, c2, c3, I3, by rw [lf, c4], c5, c6, c7, (c8 5 6 (by omega)).trans ((r5 5 6 (by omega)).trans h5n), fun q k hq => ?_, CPf_t (CPf_fo r5) (CPf_fg c8), ?_⟩
    · rw [c8 q k (fun e => hq.2.2 ⟨e.1, by omega⟩)]
      by_cases e9 : q = 2 ∧ k = 9
      · rw [e9.1, e9.2, r3, h9]
      · exact r5 q k (fun e => hq.2.2 ⟨e.1, by omega⟩)
    · exact ⟨(c8 3 1 (by omega)).trans h1.1, hN, fun i hi => ⟨(c8 4 i (by omega)).trans (h1.2.2 i hi).1, (h1.2.2 i hi).2⟩⟩
def NAM (I : Nat → Nat → Int32) (nc : Nat) (v : Int32) (f : Nat) : Nat → Nat → Int32 := am_up (am_up (am_up I 68 nc v) 69 nc (nI f)) 49 32 (nI (nc + 1))
theorem NAM_ne {I : Nat → Nat → Int32} {nc f : Nat} {v : Int32} {q k : Nat} (h : ¬ (q = 68 ∨ q = 69 ∨ (q = 49 ∧ k = 32))) : NAM I nc v f q k = I q k := by
  unfold NAM
  rw [am_up_ne (by omega), am_up_ne (by omega), am_up_ne (by omega)]
theorem MP_nam {h : Nat} (I : Nat → Nat → Int32) (nc : Nat) (v : Int32) (f : Nat) : MP h I (NAM I nc v f) := MP_t (MP_t (MP_u I (Or.inr (Or.inl rfl))) (MP_u _ (Or.inr (Or.inr (Or.inl rfl))))) (MP_49 _ (Or.inr (Or.inr (by decide))))
/-- the model's jump, behind its signs -/
theorem mo_jmp (I : Nat → Nat → Int32) (J : Nat → Nat → Int64) (T : Nat → Nat → Nat) (L : Nat) (C : Nat × Nat) {tx : Nat → Nat} {N h n nc i f t g : Nat} (h1 : 25 ≤ i) (h2 : i ≤ 27) (hm : MT tx N h I) (hf : MK I f t) (hk : TK tx N 2 f t g) (hn : n < 80) (h56 : I 56 h = nI n) (h32 : I 49 32 = nI nc) (hnc : nc < 400) : ∃ Ia, FX I Ia ∧ MK Ia (tkf tx N t) (tkt tx N (tkf tx N t)) ∧ am_E 117 48 [.ref 49, .long (lN (cvl (wd i))), .null, .int (mts i), .null, .null] [] (am_W I J T L C) = some (.int 1, am_W (MADD (NAM (mfo Ia (lef tx (tkf tx N t) (tkt tx N (tkf tx N t)) (tkt tx N (tkf tx N t)) 76 31) (tkf tx N t)) nc (mvo (lef tx (tkf tx N t) (tkt tx N (tkf tx N t)) (tkt tx N (tkf tx N t)) 76 31) (nI (smv tx ((tkf tx N t) + 1) (tkt tx N (tkf tx N t))))) (tkf tx N t)) h n 20 (jif i) 0 (mvo (lef tx (tkf tx N t) (tkt tx N (tkf tx N t)) (tkt tx N (tkf tx N t)) 76 31) (nI (smv tx ((tkf tx N t) + 1) (tkt tx N (tkf tx N t))))) 0) J T L C) := by
  obtain ⟨Ia, a1, a2, a3⟩ := mo_next I J T L C hm.1 hf hk
  have hk2 := TK_n hk
  have hma : MT tx N h Ia := MT_k hm (fun q k' e => a3 q k' (by omega))
  refine ⟨Ia, a3, a2, ?_⟩
  have e : mts i = 20 := by unfold mts; rw [if_neg (by omega), if_neg (by omega), if_pos (by omega)]
  rw [jm_48 I J T L C h1 (by omega), e, rg_117_69, if_pos (show (20 : Int32) = 20 from rfl), a1, am_okb, rg_117_77, a2.2]
  generalize hk' : tkk tx N (tkf tx N t) = k' at *
  generalize hf' : tkf tx N t = f' at *
  generalize ht' : tkt tx N f' = t' at *
  generalize hg' : tkg tx f' t' = g' at *
  rw [mo_lab Ia J T L C hma.1 a2.1 a2.2 hk2 (Nat.le_refl t'), am_okb, am_vIi, rg_117_81]
  generalize mvo (lef tx f' t' t' 76 31) (nI (smv tx (f' + 1) t')) = V
  have g32 : mfo Ia (lef tx f' t' t' 76 31) f' 49 32 = nI nc := (mfo_ne Ia _ _ (by omega)).trans ((a3 49 32 (by omega)).trans h32)
  have g25 : mfo Ia (lef tx f' t' t' 76 31) f' 49 25 = nI f' := (mfo_ne Ia _ _ (by omega)).trans a2.1
  rw [mo_names (mfo Ia (lef tx f' t' t' 76 31) f') J T L C hnc g32 g25, am_okb, rg_117_85]
  change Option.bind (am_E 113 0 [.ref 49, .int 20, .int (jif i), .int 0, .int V, .int 0, .null] [] (am_W (NAM (mfo Ia (lef tx f' t' t' 76 31) f') nc V f') J T L C)) _ = _
  rw [mo_add (NAM (mfo Ia (lef tx f' t' t' 76 31) f') nc V f') J T L C 20 (jif i) 0 V 0 hm.2.1 hn ((NAM_ne (by omega)).trans ((mfo_ne Ia _ _ (by omega)).trans hma.2.2)) ((NAM_ne (by omega)).trans ((mfo_ne Ia _ _ (by omega)).trans ((a3 56 h (by omega)).trans h56))), am_okb, rg_117_92]
/-- the number of a cell read is in its range -/
theorem num_lt {tx : Nat → Nat} {k f t g m : Nat} {only : Int32} (h0 : crf tx k f t g only = 0) (hb : am_bt only (crk tx k f t g) = true) (hk : kow tx k f t g = some (crk tx k f t g)) (e : crk tx k f t g ≠ 11) (hm : rng (crk tx k f t g) = m) : cnv tx g t < m := by
  unfold crf at h0
  rw [hk] at h0
  simp only [hb, if_true] at h0
  unfold cfk at h0
  rw [if_neg e, hm] at h0
  rcases Nat.lt_or_ge (cnv tx g t) m with c | c
  · exact c
  · rw [if_pos (Or.inr c)] at h0; exact absurd h0 (by decide)
theorem fr_jmp : ∀ i, 25 ≤ i → i ≤ 27 → frm i = 6 ∧ onl (frm i) = 128 := by
  intro i h1 h2
  rcases (show i = 25 ∨ i = 26 ∨ i = 27 by omega) with rfl | rfl | rfl <;> exact ⟨rfl, rfl⟩
theorem gp_jump {L : Nat} {C : Nat × Nat} {Lm : Nat} {Cm : Nat × Nat} {Tm : Nat → Nat → Nat} {J : Nat → Nat → Int64} {J' : Nat → Nat → Int64} {D : Nat → Nat} {tx : Nat → Nat} {N h n ng d nc f t g : Nat} {I : Nat → Nat → Int32} {T : Nat → Nat → Nat} {I' : Nat → Nat → Int32} (x1 xm : Int32) (v2 v3 u2 u3 : Value) (p : PRE D tx N h n ng d nc f t g I T I') {i : Nat} (hn : n < 80) (h1 : 25 ≤ i) (h2 : i ≤ 27) (hw : sl tx f t = wd i) : OF N h L C Lm Cm Tm J J' I T I' (am_E 44 42 [.ref 2, .int x1, v2, v3] [.int 1] (am_W I J T L C)) (am_E 127 75 [.ref 49, .int xm, u2, u3] [.long (lN (cod tx f t))] (am_W I' J' Tm Lm Cm)) ∨ OG tx N h f I T I' (am_E 44 42 [.ref 2, .int x1, v2, v3] [.int 1] (am_W I J T L C)) (am_E 127 75 [.ref 49, .int xm, u2, u3] [.long (lN (cod tx f t))] (am_W I' J' Tm Lm Cm)) (fcl L C J x1 (1001 + i)) (fmo Lm Cm Tm J' xm (lN (cvl (sl tx f t)))) := by
  have p' := p
  obtain ⟨v, c, k, mk, nb, hD⟩ := p'
  obtain ⟨hm, h3, h4⟩ := LV_mt v
  have hN := hm.1.2.1
  obtain ⟨hft, htN, hl⟩ := TK_wl (TX_lt hm.1) hN k
  have w := v.2.2.2.1
  have h56 : I' 56 h = nI n := w.2.2.2.2.1
  have h27 : I' 49 27 = nI d := w.2.2.2.2.2.2.2.2.2.2
  have hd8 : d ≤ 8 := w.2.2.2.2.2.2.2.2.1
  have h32 : I' 49 32 = nI nc := v.2.2.2.2.2.2.2.2.2.1
  obtain ⟨b1, b2, b3⟩ := bix_w (by omega : i < 41) hft hw
  have ne : ∀ j, j < 41 → j ≠ i → sl tx f t ≠ wd j := fun j hj hne => by rw [hw]; exact wd_inj i (by omega) j hj (Ne.symm hne)
  have sm := is_signm I' J' Tm Lm Cm hm.1 mk k (fun a ha => by rw [b3]; exact ne (6 + a) (by omega) (by omega))
  obtain ⟨hfr, hon⟩ := fr_jmp i h1 h2
  have hnc : nc < 400 := by have := nb.1; omega
  have go : ∀ I2, am_E 117 0 [.ref 49, .long (lN (cvl (wd i))), .null, .null, .null, .null] [] (am_W I' J' Tm Lm Cm) = some (.int 1, am_W I2 J' Tm Lm Cm) → (am_E 127 75 [.ref 49, .int xm, u2, u3] [.long (lN (cod tx f t))] (am_W I' J' Tm Lm Cm)) = am_E 127 110 [.ref 49, .int xm, .long (lN (cvl (sl tx f t))), .null] [] (am_W I2 J' Tm Lm Cm) := by
    intro I2 e
    rw [← hw] at e
    have mo := ds_3 I' J' Tm Lm Cm xm u2 u3 hl (ne 39 (by decide) (by omega)) (ne 40 (by decide) (by omega)) (fun j hj => ne j (by omega) (by omega)) sm e
    rw [cod_cvl]; exact mo
  have r := jm_hit I' J' Tm Lm Cm (i := i) (by omega) (by omega)
  rw [mo_may1 I' J' Tm Lm Cm hm.2.1 hn hm.2.2 h56 mk.1 h3, am_okb, am_vIi, rg_117_37, if_neg (show ¬ (1 : Int32) = 0 by decide), h27] at r
  by_cases e0 : d = 0
  · rw [if_pos (show nI d ≤ 0 by rw [e0]; decide)] at r
    obtain ⟨Ia, a1, a2, a3⟩ := mo_jmp I' J' Tm Lm Cm h1 h2 hm mk k hn h56 h32 hnc
    rw [a3] at r
    have mo := go _ r
    have hr : rof false i n ng d = 0 := rof_ok (by omega) (fun e => absurd e (by decide)) hn (by omega) (by rw [hfr]; exact decide_eq_true e0)
    have cc := cl_cell (J := J) (L := L) (C := C) x1 v2 v3 p (i := i) (by omega) (by omega) (by omega) hw (by rw [hon]; decide) hr (by omega)
    have hk2 := TK_n k
    have nb2 := NB_n k nb (by decide)
    rw [hon] at cc
    have pl := pl_L hk2
    generalize hk' : tkk tx N (tkf tx N t) = k' at *
    generalize hf' : tkf tx N t = f' at *
    generalize ht' : tkt tx N f' = t' at *
    generalize hg' : tkg tx f' t' = g' at *
    have mpa : MP h I' Ia := MP_fx a1
    rcases cc with ⟨c1, c7, Ix, c2, c3⟩ | ⟨c1, c2, c3, I3, c4, c5, c6, c8, c9, c10, c11, c12⟩
    · refine Or.inl ?_
      rw [pl.1] at mo
      have w1 : WR (mfo Ia (crf tx k' f' t' g' 128) f') (crf tx k' f' t' g' 128) f' := by
        unfold mfo
        rw [if_neg c1]
        exact WR_mfl ((a1 49 3 (by omega)).trans h3) _ _
      have mp : MP h I' (MADD (NAM (mfo Ia (crf tx k' f' t' g' 128) f') nc (mvo (crf tx k' f' t' g' 128) (nI (smv tx (f' + 1) t'))) f') h n 20 (jif i) 0 (mvo (crf tx k' f' t' g' 128) (nI (smv tx (f' + 1) t'))) 0) := MP_t (MP_t (MP_t mpa (MP_mfo h Ia _ _)) (MP_nam _ _ _ _)) (MP_add hn _ _ _ _ _ _)
      generalize mvo (crf tx k' f' t' g' 128) (nI (smv tx (f' + 1) t')) = V at *
      generalize crf tx k' f' t' g' 128 = K at *
      obtain ⟨I2, m1, m2, ⟨t2, m3, m4⟩, m5⟩ := mt_110 (MADD (NAM (mfo Ia K f') nc V f') h n 20 (jif i) 0 V 0) J' Tm Lm Cm (k := K) (p := f') xm (lN (cvl (sl tx f t))) (MT_p hm mp).1 ((MADD_ne (by omega)).trans ((NAM_ne (by omega)).trans ((mfo_ne Ia _ _ (by omega)).trans a2.2))) (TK_le hk2).2 ⟨(MADD_ne (by omega)).trans ((NAM_ne (by omega)).trans w1.1), (MADD_ne (by omega)).trans ((NAM_ne (by omega)).trans w1.2)⟩ (by omega) c7
      exact OF_mk (by omega) c7 (by have := (TK_le hk2); omega) c2 (mo.trans m1) m5 m3 m4 c3 (CPt_r T) (MP_t mp (MP_fx m2))
    · refine Or.inr ?_
      obtain ⟨p3, p4⟩ := pl.2 c1
      have hcv := crv_n c3 (by omega)
      have hx : cnv tx g' t' < 32 := num_lt (m := 32) c1 c2 c3 (by rw [p3]; decide) (by rw [p3]; rfl)
      have ek : k' = 2 := (kow_p c3).2.1
      rw [pl.1, c1] at mo
      have em : mvo 0 (nI (smv tx (f' + 1) t')) = nI (cnv tx g' t') := p4.symm.trans hcv
      rw [em] at mo
      have ef : mfo Ia 0 f' = Ia := if_pos rfl
      rw [ef] at mo
      subst ek
      have hf7 : f' < 700 := by
        rcases TK_p hk2 with e | e | e
        · omega
        · exact absurd hk2.2.2.1 (by omega)
        · exact absurd e.1 (by decide)
      have vv : LV D tx N h n ng d nc f' I3 T Ia := LV_f (by omega) (LV_keep c10 (fun _ => rfl) (fun q k hq => a1 q k (fun e => hq.2.2 ⟨e.1, by omega⟩)) v)
      have vn : LV D tx N h n ng d (nc + 1) (f' + 1) (am_up I3 20 (cnv tx g' t') (if I3 20 (cnv tx g' t') = -1 then nI f' else I3 20 (cnv tx g' t'))) T (NAM Ia nc (nI (cnv tx g' t')) f') := LV_nam_l hx hf7 vv
      have mp : MP h I' (MADD (NAM Ia nc (nI (cnv tx g' t')) f') h n 20 (jif i) 0 (nI (cnv tx g' t')) 0) := MP_t (MP_t mpa (MP_nam _ _ _ _)) (MP_add hn _ _ _ _ _ _)
      obtain ⟨I2, m1, m2, m3⟩ := mt_ok (MADD (NAM Ia nc (nI (cnv tx g' t')) f') h n 20 (jif i) 0 (nI (cnv tx g' t')) 0) J' Tm Lm Cm xm (lN (cvl (sl tx f t))) (MT_p hm mp).1 ⟨(MADD_ne (by omega)).trans ((NAM_ne (by omega)).trans a2.1), (MADD_ne (by omega)).trans ((NAM_ne (by omega)).trans a2.2)⟩ hk2
      have nb3 := NB_s hk2 nb2.1
      have hk3 := TK_n hk2
      have e26 : 1001 + i = 1026 + (i - 25) := by omega
      have hne : am_up I3 20 (cnv tx g' t') (if I3 20 (cnv tx g' t') = -1 then nI f' else I3 20 (cnv tx g' t')) 20 (cnv tx g' t') ≠ -1 := by
        rw [am_up_here]
        split
        · intro e
          have h2 : nI f' < 0 := by rw [e]; decide +kernel
          exact nI_pos (by omega) h2
        · assumption
      have lv := fin_add hn hd8 vn (q := 1026 + (i - 25)) (k := I3 2 10) (m := nI (cnv tx g' t')) (l := 0) (a := 20) (b := jif i) (c := 0) (dd := nI (cnv tx g' t')) (e := 0) (Or.inr (Or.inl (PJ_of (x := i - 25) (y := cnv tx g' t') (by omega) rfl (by unfold jif; rw [if_pos (by omega)]) rfl hx rfl (hD.trans e0) e0 hne))) (f' := tkf tx N t') (by omega) m3
      refine ⟨_, n + 1, ng, d, nc + 1, _, _, _, _, _, _, I2, ?_, mo.trans m1, lv, ?_, hk3, m2, nb3.1, if_pos rfl, by omega, ?_, CPt_u T _ _, MP_t mp (MP_fx m3)⟩
      · rw [c4, ro_jump I3 J T L C _ _ (by omega : i < 41) hn c9 hfr hx (c6.trans hcv), am_okb, am_vIi, t73_1, ← e26]
        rfl
      · exact ⟨(ADD_ne (by omega)).trans ((am_up_ne (by omega)).trans c8.1), (ADD_ne (by omega)).trans ((am_up_ne (by omega)).trans c8.2.1), (ADD_ne (by omega)).trans ((am_up_ne (by omega)).trans c8.2.2.1), (ADD_ne (by omega)).trans ((am_up_ne (by omega)).trans c8.2.2.2)⟩
      · exact CPf_t (CPf_t c11 (CPf_u _ (Or.inr (by decide)))) (CPf_add _ n _ _ _)
  · refine Or.inl ?_
    have hr : rof (brk tx t) (bix tx f t) n ng d = 5 := by
      rw [b1, b2]; exact rof_5 (by omega) hn (Or.inl hfr) e0
    rw [if_neg (show ¬ nI d ≤ 0 from nI_ge (a := 0) (b := d) (by omega) (by omega)), mk.1] at r
    change _ = Option.bind (am_E 98 0 [.ref 49, .int (nI 5), .int (nI f)] [] _) _ at r
    rw [mo_fail, am_okb] at r
    have mp0 := MP_mfl h I' (nI 5) (nI f)
    have wr := WR_mfl h3 5 f
    obtain ⟨Ia, a1, a2, a3⟩ := mo_jmp (mfl I' (nI 5) (nI f)) J' Tm Lm Cm h1 h2 (MT_p hm mp0) ⟨(mfl_ne (by omega)).trans mk.1, (mfl_ne (by omega)).trans mk.2⟩ k hn ((mfl_ne (by omega)).trans h56) ((mfl_ne (by omega)).trans h32) hnc
    rw [a3] at r
    have hk2 := TK_n k
    generalize hk' : tkk tx N (tkf tx N t) = k' at *
    generalize hf' : tkf tx N t = f' at *
    generalize ht' : tkt tx N f' = t' at *
    generalize hg' : tkg tx f' t' = g' at *
    have wa : WR Ia 5 f := ⟨(a1 49 3 (by omega)).trans wr.1, (a1 49 4 (by omega)).trans wr.2⟩
    have ef : mfo Ia (lef tx f' t' t' 76 31) f' = Ia := mfo_w (WR_ne wa (by decide) (by decide)) _ _
    rw [ef] at r
    refine gp_flt x1 xm v2 v3 u2 u3 p (by decide) (by decide) hr (go _ r) ⟨?_, ?_⟩ (MP_t (MP_t (MP_t mp0 (MP_fx a1)) (MP_nam _ _ _ _)) (MP_add hn _ _ _ _ _ _)) (TK_le hk2).2 ?_
    · exact (MADD_ne (by omega)).trans ((NAM_ne (by omega)).trans wa.1)
    · exact (MADD_ne (by omega)).trans ((NAM_ne (by omega)).trans wa.2)
    · exact (MADD_ne (by omega)).trans ((NAM_ne (by omega)).trans a2.2)

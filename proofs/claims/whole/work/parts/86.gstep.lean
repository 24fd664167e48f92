/-! STEP in both readers. -/
theorem OF_mono {N h : Nat} {L : Nat} {C : Nat × Nat} {Lm : Nat} {Cm : Nat × Nat} {Tm : Nat → Nat → Nat} {J J' : Nat → Nat → Int64} {I I1 : Nat → Nat → Int32} {T T1 : Nat → Nat → Nat} {I' I2 : Nat → Nat → Int32} {cl mo cl' mo' : am_R} (o : OF N h L C Lm Cm Tm J J' I1 T1 I2 cl mo) (a : CPf I I1) (b : CPt T T1) (c : MP h I' I2) (e : cl' = cl) (e' : mo' = mo) : OF N h L C Lm Cm Tm J J' I T I' cl' mo' := by
  obtain ⟨k, p, Ix, Tx, Iy, t2, z1, z2, z3, z4, z5, z6, z7, z8, z9, z10, z11, z12, z13⟩ := o
  exact ⟨k, p, Ix, Tx, Iy, t2, z1, z2, z3, e.trans z4, e'.trans z5, z6, z7, z8, z9, z10, CPf_t a z11, fun q k x => (z12 q k x).trans (b q k x), MP_t c z13⟩
theorem OG_mono {tx : Nat → Nat} {N h f f1 : Nat} {I I1 : Nat → Nat → Int32} {T T1 : Nat → Nat → Nat} {I' I2 : Nat → Nat → Int32} {cl mo cl' mo' : am_R} {fc : (Nat → Nat → Int32) → (Nat → Nat → Nat) → am_R} {fm : (Nat → Nat → Int32) → am_R} (o : OG tx N h f1 I1 T1 I2 cl mo fc fm) (a : CPf I I1) (b : CPt T T1) (c : MP h I' I2) (e : cl' = cl) (e' : mo' = mo) (hf : f ≤ f1) : OG tx N h f I T I' cl' mo' fc fm := by
  obtain ⟨D, n, ng, d, nc, k, f', t, g, Ix, Tx, Iy, z1, z2, z3, z4, z5, z6, z7, z8, z9, z10, z11, z12⟩ := o
  exact ⟨D, n, ng, d, nc, k, f', t, g, Ix, Tx, Iy, e.trans z1, e'.trans z2, z3, z4, z5, z6, z7, z8, by omega, CPf_t a z10, fun q k x => (z11 q k x).trans (b q k x), MP_t c z12⟩
theorem TK_hl {tx : Nat → Nat} {N k f t g : Nat} (hx : ∀ i, i < 700 → tx i < 256) (hN : N ≤ 700) (hk : TK tx N k f t g) : ∀ c, c ∈ sl tx f t → 0 < c ∧ c < 256 := by
  rcases TK_p hk with e | e | e
  · exact sl_pos (fun i h1 h2 => ⟨by have := (e.2.2.2.1 i h1 h2).1; omega, hx i (by omega)⟩)
  · rw [e.2.1, sl_one, e.2.2.2]
    intro c hc
    rw [List.mem_singleton.mp hc]; decide
  · rw [sl_nil (by omega)]
    intro c hc
    exact absurd hc List.not_mem_nil
def acw (tx : Nat → Nat) (f t : Nat) : Nat := if sl tx f t = wd 44 then 1 else if sl tx f t = wd 4 then 2 else if sl tx f t = wd 5 then 3 else 0
theorem acw_lt (tx : Nat → Nat) (f t : Nat) : acw tx f t < 4 := by
  unfold acw
  split
  · decide
  · split
    · decide
    · split <;> decide
theorem cl_actw (I : Nat → Nat → Int32) (J : Nat → Nat → Int64) (T : Nat → Nat → Nat) (L : Nat) (C : Nat × Nat) {tx : Nat → Nat} {N k f t g : Nat} (h : TX I 4 3 1 tx N) (hc : CK I k f t g) (hk : TK tx N k f t g) : am_E 62 0 [.ref 2] [] (am_W I J T L C) = some (.int (nI (acw tx f t)), (am_W I J T L C)) := by
  unfold acw
  rw [rg_62_0]
  show Option.bind (am_E 48 0 [.ref 2, .ref (2001 + 44)] [] (am_W I J T L C)) _ = _
  rw [is_word I J T L C h hc hk (by decide), am_okb, am_vIi, rg_62_3]
  by_cases e1 : sl tx f t = wd 44
  · rw [if_pos e1, decide_eq_true e1, if_neg (show ¬ am_b01 true = 0 by decide)]; rfl
  rw [if_neg e1, decide_eq_false e1, if_pos (show am_b01 false = 0 from rfl)]
  show Option.bind (am_E 48 0 [.ref 2, .ref (2001 + 4)] [] (am_W I J T L C)) _ = _
  rw [is_word I J T L C h hc hk (by decide), am_okb, am_vIi, rg_62_9]
  by_cases e2 : sl tx f t = wd 4
  · rw [if_pos e2, decide_eq_true e2, if_neg (show ¬ am_b01 true = 0 by decide)]; rfl
  rw [if_neg e2, decide_eq_false e2, if_pos (show am_b01 false = 0 from rfl)]
  show Option.bind (am_E 48 0 [.ref 2, .ref (2001 + 5)] [] (am_W I J T L C)) _ = _
  rw [is_word I J T L C h hc hk (by decide), am_okb, am_vIi, rg_62_15]
  by_cases e3 : sl tx f t = wd 5
  · rw [if_pos e3, decide_eq_true e3, if_neg (show ¬ am_b01 true = 0 by decide)]; rfl
  rw [if_neg e3, decide_eq_false e3, if_pos (show am_b01 false = 0 from rfl)]; rfl
/-- the model's loop of actions looks at the word -/
theorem mo_actw (I : Nat → Nat → Int32) (J : Nat → Nat → Int64) (T : Nat → Nat → Nat) (L : Nat) (C : Nat × Nat) {l : List Nat} (x1 x2 : Int32) (v5 : Value) (hl : ∀ c, c ∈ l → 0 < c ∧ c < 256) (h3 : I 49 3 = 0) (hx : ¬ 3 ≤ x2) : am_E 123 7 [.ref 49, .int x1, .int x2, .long (lN (cvl l)), .null, v5] [] (am_W I J T L C) = (if l = wd 44 ∨ l = wd 4 ∨ l = wd 5 then am_E 123 25 [.ref 49, .int x1, .int x2, .long (lN (cvl l)), .null, v5] [] (am_W I J T L C) else some (.null, (am_W I J T L C))) := by
  have c1 := ct (W := wd 44) (y := 78) (by decide +kernel) hl (by decide +kernel)
  have c2 := ct (W := wd 4) (y := 83) (by decide +kernel) hl (by decide +kernel)
  have c3 := ct (W := wd 5) (y := 82) (by decide +kernel) hl (by decide +kernel)
  rw [rg_123_7, if_pos h3, if_neg hx]
  by_cases e1 : l = wd 44
  · rw [if_pos (c1.mpr e1), if_pos (Or.inl e1)]
  rw [if_neg (fun e => e1 (c1.mp e))]
  by_cases e2 : l = wd 4
  · rw [if_pos (c2.mpr e2), if_pos (Or.inr (Or.inl e2))]
  rw [if_neg (fun e => e2 (c2.mp e))]
  by_cases e3 : l = wd 5
  · rw [if_pos (c3.mpr e3), if_pos (Or.inr (Or.inr e3))]
  rw [if_neg (fun e => e3 (c3.mp e)), if_neg (fun e => by rcases e with e | e | e; exact e1 e; exact e2 e; exact e3 e)]
theorem mo_act41 (I : Nat → Nat → Int32) (J : Nat → Nat → Int64) (T : Nat → Nat → Nat) (L : Nat) (C : Nat × Nat) {tx : Nat → Nat} {f t : Nat} (x1 x2 x5 : Int32) (hl : ∀ c, c ∈ sl tx f t → 0 < c ∧ c < 256) (h : acw tx f t ≠ 0) : am_E 123 41 [.ref 49, .int x1, .int x2, .long (lN (cvl (sl tx f t))), .null, .int x5] [] (am_W I J T L C) = am_E 123 57 [.ref 49, .int x1, .int x2, .long (lN (cvl (sl tx f t))), .null, .int x5] [.int (nI (acw tx f t)), .int x5, .ref 59] (am_W I J T L C) := by
  have c1 := ct (W := wd 44) (y := 78) (by decide +kernel) hl (by decide +kernel)
  have c2 := ct (W := wd 4) (y := 83) (by decide +kernel) hl (by decide +kernel)
  unfold acw at h ⊢
  rw [rg_123_41]
  by_cases e1 : sl tx f t = wd 44
  · rw [if_pos (c1.mpr e1), if_pos e1]; rfl
  rw [if_neg (fun e => e1 (c1.mp e)), if_neg e1]
  rw [if_neg e1] at h
  by_cases e2 : sl tx f t = wd 4
  · rw [if_pos (c2.mpr e2), if_pos e2]; rfl
  rw [if_neg (fun e => e2 (c2.mp e)), if_neg e2]
  rw [if_neg e2] at h
  by_cases e3 : sl tx f t = wd 5
  · rw [if_pos e3]; rfl
  · rw [if_neg e3] at h; exact absurd rfl h
def ACA (I : Nat → Nat → Int32) (x : Nat) (a k m : Int32) : Nat → Nat → Int32 := am_up (am_up (am_up I 12 x a) 13 x k) 14 x m
def MACA (I : Nat → Nat → Int32) (x : Nat) (a k m : Int32) : Nat → Nat → Int32 := am_up (am_up (am_up I 59 x a) 60 x k) 61 x m
theorem ACA_ne {I : Nat → Nat → Int32} {x : Nat} {a k m : Int32} {q y : Nat} (h : q < 12 ∨ 14 < q) : ACA I x a k m q y = I q y := by
  unfold ACA
  rw [am_up_ne (by omega), am_up_ne (by omega), am_up_ne (by omega)]
theorem MACA_ne {I : Nat → Nat → Int32} {x : Nat} {a k m : Int32} {q y : Nat} (h : q < 59 ∨ 61 < q) : MACA I x a k m q y = I q y := by
  unfold MACA
  rw [am_up_ne (by omega), am_up_ne (by omega), am_up_ne (by omega)]
theorem CPf_aca (I : Nat → Nat → Int32) (x : Nat) (a k m : Int32) : CPf I (ACA I x a k m) := CPf_t (CPf_t (CPf_u I (Or.inr (by decide))) (CPf_u _ (Or.inr (by decide)))) (CPf_u _ (Or.inr (by decide)))
theorem MP_maca {h x : Nat} (hx : x < 48) (I : Nat → Nat → Int32) (a k m : Int32) : MP h I (MACA I (48 * h + x) a k m) := by
  have y : ∀ q, 59 ≤ q → q ≤ 61 → MA h q (48 * h + x) := fun q h1 h2 => Or.inr (Or.inr (Or.inr ⟨by omega, by omega, by unfold hwd; rw [if_neg (by omega), if_neg (by omega), if_neg (by omega), if_neg (by omega), if_pos h2]; omega⟩))
  exact MP_t (MP_t (MP_u I (y 59 (by decide) (by decide))) (MP_u _ (y 60 (by decide) (by decide)))) (MP_u _ (y 61 (by decide) (by decide)))
theorem cl_addact (I : Nat → Nat → Int32) (J : Nat → Nat → Int64) (T : Nat → Nat → Nat) (L : Nat) (C : Nat × Nat) {s k : Nat} (a kd m : Int32) (hs : s < 16) (hk : k < 3) : am_E 10 0 [.ref 6, .int (nI s), .int (nI k), .int a, .int kd, .int m, .null] [] (am_W I J T L C) = some (.null, am_W (ACA I (3 * s + k) a kd m) J T L C) := by
  have q : ∀ s, s < 16 → nI s * 3 = nI (3 * s) := by decide +kernel
  have e : nI s * 3 + nI k = nI (3 * s + k) := by rw [q s hs, nI_add]
  rw [rg_10_0, e, lf_put (q := 12) (N := 48) rfl (by omega) (by decide), am_okb, rg_10_11, lf_put (q := 13) (N := 48) rfl (by omega) (by decide), am_okb, rg_10_16, lf_put (q := 14) (N := 48) rfl (by omega) (by decide), am_okb, rg_10_21]
  rfl
theorem mo_actx {h s k : Nat} (hh : h < 2) (hs : s < 16) : 48 * nI h + 3 * nI s + nI k = nI (48 * h + (3 * s + k)) := by
  have q1 : ∀ h, h < 2 → 48 * nI h = nI (48 * h) := by decide +kernel
  have q2 : ∀ s, s < 16 → 3 * nI s = nI (3 * s) := by decide +kernel
  rw [q1 h hh, q2 s hs, nI_add, nI_add]
  congr 1
  omega
/-- the model writes an action and looks at the next word -/
theorem mo_act57 (I : Nat → Nat → Int32) (J : Nat → Nat → Int64) (T : Nat → Nat → Nat) (L : Nat) (C : Nat × Nat) {tx : Nat → Nat} {N h kk f t g x : Nat} (x1 : Int32) (y3 : Int64) (a : Int32) {k : Nat} (hx : x < 48) (hm : MT tx N h I) (hf : MK I f t) (hk : TK tx N kk f t g) : ∃ I1, am_E 123 57 [.ref 49, .int x1, .int (nI k), .long y3, .null, .int (nI (48 * h + x))] [.int a, .int (nI (48 * h + x)), .ref 59] (am_W I J T L C) = am_E 123 7 [.ref 49, .int x1, .int (nI (k + 1)), .long (lN (cod tx (tkf tx N t) (tkt tx N (tkf tx N t)))), .null, .int (nI (48 * h + x))] [] (am_W I1 J T L C) ∧ MK I1 (tkf tx N t) (tkt tx N (tkf tx N t)) ∧ FX (MACA I (48 * h + x) a (I 49 28) (I 49 29)) I1 := by
  have hh := hm.2.1
  have cl : Int32.toNatClampNeg (nI (48 * h + x)) = 48 * h + x := nI_clamp (by omega)
  have hm1 : MT tx N h (MACA I (48 * h + x) a (I 49 28) (I 49 29)) := MT_k hm (fun q k e => MACA_ne (by omega))
  obtain ⟨I1, e1, e2, e3⟩ := mo_next (MACA I (48 * h + x) a (I 49 28) (I 49 29)) J T L C hm1.1 ⟨(MACA_ne (by omega)).trans hf.1, (MACA_ne (by omega)).trans hf.2⟩ hk
  have hk2 := TK_n hk
  have hm2 : MT tx N h I1 := MT_k hm1 (fun q k' e => e3 q k' (by omega))
  refine ⟨I1, ?_, e2, e3⟩
  rw [rg_123_57, am_inb_ok (by omega) (by decide), am_inb_ok (by omega) (by decide), am_inb_ok (by omega) (by decide), cl]
  show Option.bind (am_E 99 0 [.ref 49] [] (am_W (MACA I (48 * h + x) a (I 49 28) (I 49 29)) J T L C)) _ = _
  rw [e1, am_okb, rg_123_73, mo_code I1 J T L C hm2.1 e2.1 e2.2 (TK_le hk2).2 (TK_le hk2).1, am_okb, am_vJl, rg_123_75, nI_1]
def cfin (L : Nat) (C : Nat × Nat) (J : Nat → Nat → Int64) (I1 : Nat → Nat → Int32) (T1 : Nat → Nat → Nat) : am_R := some (.int 1, am_W I1 J T1 L C)
def mfin (Lm : Nat) (Cm : Nat × Nat) (Tm : Nat → Nat → Nat) (J' : Nat → Nat → Int64) (I2 : Nat → Nat → Int32) : am_R := some (.null, am_W I2 J' Tm Lm Cm)
theorem st_loop {L : Nat} {C : Nat × Nat} {Lm : Nat} {Cm : Nat × Nat} {Tm : Nat → Nat → Nat} {J : Nat → Nat → Int64} {J' : Nat → Nat → Int64} {D : Nat → Nat} {tx : Nat → Nat} {N h n ng d nc f0 s : Nat} {T : Nat → Nat → Nat} (x1 : Int32) (hs : s < 16) (hD : D n = d) : ∀ (m k : Nat), k + m = 3 → ∀ (I I' : Nat → Nat → Int32) (kk f t g : Nat) (v4 v5 : Value), LV D tx N h n ng d nc f I T I' → CK I kk f t g → TK tx N kk f t g → MK I' f t → NB kk f nc → f0 < f → OF N h L C Lm Cm Tm J J' I T I' (am_E 61 38 [.ref 2, .int x1, .int (nI s), .int (nI k), v4] [] (am_W I J T L C)) (am_E 123 7 [.ref 49, .int (nI s), .int (nI k), .long (lN (cod tx f t)), .null, v5] [] (am_W I' J' Tm Lm Cm)) ∨ OG tx N h f0 I T I' (am_E 61 38 [.ref 2, .int x1, .int (nI s), .int (nI k), v4] [] (am_W I J T L C)) (am_E 123 7 [.ref 49, .int (nI s), .int (nI k), .long (lN (cod tx f t)), .null, v5] [] (am_W I' J' Tm Lm Cm)) (cfin L C J) (mfin Lm Cm Tm J')
  | 0, k, hk3, I, I', kk, f, t, g, v4, v5, v, ck, hk, hmk, nb, hf0 => by
    obtain ⟨hm, h3, h4⟩ := LV_mt v
    have e : k = 3 := by omega
    subst e
    refine Or.inr ⟨D, n, ng, d, nc, kk, f, t, g, I, T, I', ?_, ?_, v, ck, hk, hmk, nb, hD, hf0, CPf_r I, CPt_r T, MP_r h I'⟩
    · rw [rg_61_38, if_pos (show (3 : Int32) ≤ nI 3 by decide)]; rfl
    · rw [rg_123_7, if_pos h3, if_pos (show (3 : Int32) ≤ nI 3 by decide)]; rfl
  | m + 1, k, hk3, I, I', kk, f, t, g, v4, v5, v, ck, hk, hmk, nb, hf0 => by
    obtain ⟨hm, h3, h4⟩ := LV_mt v
    have hN := hm.1.2.1
    have hl := TK_hl (TX_lt hm.1) hN hk
    have n3 : ¬ (3 : Int32) ≤ nI k := nI_ge (a := k) (b := 3) (by omega) (by decide)
    have ec : am_E 61 38 [.ref 2, .int x1, .int (nI s), .int (nI k), v4] [] (am_W I J T L C) = am_E 61 43 [.ref 2, .int x1, .int (nI s), .int (nI k), v4] [.int (nI (acw tx f t))] (am_W I J T L C) := by
      rw [rg_61_38, if_neg n3, cl_actw I J T L C v.1 ck hk, am_okb, am_vIi]
    have em := mo_actw I' J' Tm Lm Cm (nI s) (nI k) v5 hl h3 n3
    rw [← cod_cvl] at em
    by_cases ha : acw tx f t = 0
    · have hno : ¬ (sl tx f t = wd 44 ∨ sl tx f t = wd 4 ∨ sl tx f t = wd 5) := by
        unfold acw at ha
        intro e
        by_cases e1 : sl tx f t = wd 44
        · rw [if_pos e1] at ha; exact absurd ha (by decide)
        rw [if_neg e1] at ha
        by_cases e2 : sl tx f t = wd 4
        · rw [if_pos e2] at ha; exact absurd ha (by decide)
        rw [if_neg e2] at ha
        by_cases e3 : sl tx f t = wd 5
        · rw [if_pos e3] at ha; exact absurd ha (by decide)
        rcases e with e | e | e
        · exact e1 e
        · exact e2 e
        · exact e3 e
      refine Or.inr ⟨D, n, ng, d, nc, kk, f, t, g, I, T, I', ?_, ?_, v, ck, hk, hmk, nb, hD, hf0, CPf_r I, CPt_r T, MP_r h I'⟩
      · rw [ec, ha, rg_61_43, if_pos (show nI 0 = 0 from rfl)]; rfl
      · rw [em, if_neg hno]; rfl
    · have hyes : sl tx f t = wd 44 ∨ sl tx f t = wd 4 ∨ sl tx f t = wd 5 := by
        unfold acw at ha
        by_cases e1 : sl tx f t = wd 44
        · exact Or.inl e1
        rw [if_neg e1] at ha
        by_cases e2 : sl tx f t = wd 4
        · exact Or.inr (Or.inl e2)
        rw [if_neg e2] at ha
        by_cases e3 : sl tx f t = wd 5
        · exact Or.inr (Or.inr e3)
        rw [if_neg e3] at ha; exact absurd rfl ha
      have hkk : kk = 2 := by
        rcases TK_p hk with e | e | e
        · exact e.1
        · rcases hyes with q | q | q
          · exact absurd q (sw_word hk (by decide) (by omega))
          · exact absurd q (sw_word hk (by decide) (by omega))
          · exact absurd q (sw_word hk (by decide) (by omega))
        · rcases hyes with q | q | q
          · exact absurd q (sw_word hk (by decide) (by omega))
          · exact absurd q (sw_word hk (by decide) (by omega))
          · exact absurd q (sw_word hk (by decide) (by omega))
      subst hkk
      have a4 := acw_lt tx f t
      rw [if_pos hyes] at em
      obtain ⟨I1, c1, c2, c3⟩ := ad_ok I J T L C v.1 (TK_le hk).2 ck.2.2.1
      have hk2 := TK_n hk
      have nb2 := NB_n hk nb (by decide)
      obtain ⟨Ia, Ib, a1, a2, a3, a4', a5, a6⟩ := mcell I' J' Tm Lm Cm 12 hm hmk hk h3
      have h1 : TX I1 4 3 1 tx N := ⟨(c3 3 1 (by omega)).trans v.1.1, hN, fun i hi => ⟨(c3 4 i (by omega)).trans (v.1.2.2 i hi).1, (v.1.2.2 i hi).2⟩⟩
      have ec2 : am_E 61 38 [.ref 2, .int x1, .int (nI s), .int (nI k), v4] [] (am_W I J T L C) = am_E 61 50 [.ref 2, .int x1, .int (nI s), .int (nI k), .int (nI (acw tx f t))] [] (am_W I1 J T L C) := by
        rw [ec, rg_61_43, if_neg (nI_ne0 (by omega) (by omega)), c1, am_okb]
      have rc := rd_cell I1 J T L C 6 h1 c2 hk2
      obtain ⟨p1, p2⟩ := pl_all hk2 hN (TX_lt hm.1) OM_bit
      generalize hk' : tkk tx N (tkf tx N t) = k' at *
      generalize hf' : tkf tx N t = f' at *
      generalize ht' : tkt tx N f' = t' at *
      generalize hg' : tkg tx f' t' = g' at *
      have hm2 : MT tx N h Ib := MT_p hm a3
      obtain ⟨I2, m1, m2, m3⟩ := mo_act57 Ib J' Tm Lm Cm (nI s) (lN (cod tx f t)) (nI (acw tx f t)) (k := k) (x := 3 * s + k) (by omega) hm2 a5 hk2
      have em2 : am_E 123 7 [.ref 49, .int (nI s), .int (nI k), .long (lN (cod tx f t)), .null, v5] [] (am_W I' J' Tm Lm Cm) = am_E 123 7 [.ref 49, .int (nI s), .int (nI (k + 1)), .long (lN (cod tx (tkf tx N t') (tkt tx N (tkf tx N t')))), .null, .int (nI (48 * h + (3 * s + k)))] [] (am_W I2 J' Tm Lm Cm) := by
        rw [em, rg_123_25, hm.2.2, mo_actx hm.2.1 hs, a1, am_okb, rg_123_38, a2, am_okb]
        have r := mo_act41 Ib J' Tm Lm Cm (nI s) (nI k) (nI (48 * h + (3 * s + k))) hl ha
        rw [← cod_cvl] at r
        rw [r, m1]
      have mp : MP h I' (MACA Ib (48 * h + (3 * s + k)) (nI (acw tx f t)) (Ib 49 28) (Ib 49 29)) := MP_t a3 (MP_maca (by omega) _ _ _ _)
      rcases rc with ⟨r1, r2⟩ | ⟨r1, r2, r3, I3, r4, r5, r6, r7, r8⟩
      · refine Or.inl ?_
        rcases a6 with ⟨e1, e2⟩ | ⟨e1, _⟩
        · rw [p1] at e1 e2
          have c7' : crf tx k' f' t' g' 6 < 7 := by
            unfold crf cfk
            split
            · decide
            · split
              · split
                · split <;> decide
                · split <;> decide
              · decide
          have w2 : WR I2 (crf tx k' f' t' g' 6) f' := ⟨(m3 49 3 (by omega)).trans ((MACA_ne (by omega)).trans e2.1), (m3 49 4 (by omega)).trans ((MACA_ne (by omega)).trans e2.2)⟩
          refine OF_mk (by omega) c7' (by have := (TK_le hk2); omega) ?_ (em2.trans ?_) w2 (TK_le (TK_n hk2)).2 m2.2 (CPf_ft c3) (CPt_r T) (MP_t mp (MP_fx m3)) (Ia := I1)
          · rw [ec2, rg_61_50, r2, am_okb, am_vIi, rg_61_53, if_pos rfl]
          · rw [rg_123_7, if_neg (WR_ne w2 (by omega) c7')]
        · rw [p1] at e1; exact absurd e1 r1
      · rcases a6 with ⟨e1, _⟩ | ⟨e1, e2, e3, e4, e5⟩
        · rw [p1] at e1; exact absurd r1 e1
        obtain ⟨p3, p4⟩ := p2 r1
        have hb := bt_6 _ (kow_p r3).1 r2
        have ok := cell_ok r1 r2 bt_sub2 r3
        obtain ⟨j, ej, hj⟩ := ok_32 ok (by omega)
        have ek : k' = 2 := (kow_p r3).2.1
        subst ek
        have vv : LV D tx N h n ng d nc f I3 T Ib := by
          refine LV_keep (fun q k hq => ?_) (fun _ => rfl) (fun q k hq => ?_) v
          · rw [r8 q k (fun e => hq.2.2 ⟨e.1, by omega⟩)]
            exact c3 q k (fun e => hq.2.2 ⟨e.1, by omega⟩)
          · by_cases e34 : q = 49 ∧ (k = 3 ∨ k = 4)
            · rcases e34 with ⟨rfl, rfl | rfl⟩
              · rw [e2, h3]
              · exact e3
            · exact a4' q k (fun e => by have := hq.2.2; omega)
        have va : LV D tx N h n ng d nc f (ACA I3 (3 * s + k) (nI (acw tx f t)) (nI (crk tx 2 f' t' g')) (nI j)) T (MACA Ib (48 * h + (3 * s + k)) (nI (acw tx f t)) (nI (crk tx 2 f' t' g' + 1)) (nI j)) := LV_act (x := 3 * s + k) (by omega) (by omega) hb hj vv
        have ecm : nI (cmk (crk tx 2 f' t' g')) = nI (crk tx 2 f' t' g' + 1) := by
          rcases hb with e | e <;> rw [e] <;> rfl
        have e28 : Ib 49 28 = nI (crk tx 2 f' t' g' + 1) := by rw [e4, ← p3, ecm]
        have e29 : Ib 49 29 = nI j := by rw [e5, ← p4, ej]
        rw [e28, e29] at m3 mp
        have hk3 := TK_n hk2
        have nb3 := NB_n hk2 nb2.1 (by decide)
        have vf : LV D tx N h n ng d nc (tkf tx N t') (ACA I3 (3 * s + k) (nI (acw tx f t)) (nI (crk tx 2 f' t' g')) (nI j)) T I2 := LV_f (by omega) (LV_keep (fun _ _ _ => rfl) (fun _ => rfl) (fun q k hq => m3 q k (fun x => hq.2.2 ⟨x.1, by omega⟩)) va)
        have ih := st_loop x1 hs hD m (k + 1) (by omega) (ACA I3 (3 * s + k) (nI (acw tx f t)) (nI (crk tx 2 f' t' g')) (nI j)) I2 (tkk tx N (tkf tx N t')) (tkf tx N t') (tkt tx N (tkf tx N t')) (tkg tx (tkf tx N t') (tkt tx N (tkf tx N t'))) (.int (nI (acw tx f t))) (.int (nI (48 * h + (3 * s + k)))) vf ⟨(ACA_ne (by omega)).trans r7.1, (ACA_ne (by omega)).trans r7.2.1, (ACA_ne (by omega)).trans r7.2.2.1, (ACA_ne (by omega)).trans r7.2.2.2⟩ hk3 m2 nb3.1 (by omega) (J := J) (J' := J') (L := L) (C := C) (Lm := Lm) (Cm := Cm) (Tm := Tm) (f0 := f0)
        have ec3 : am_E 61 38 [.ref 2, .int x1, .int (nI s), .int (nI k), v4] [] (am_W I J T L C) = am_E 61 38 [.ref 2, .int x1, .int (nI s), .int (nI (k + 1)), .int (nI (acw tx f t))] [] (am_W (ACA I3 (3 * s + k) (nI (acw tx f t)) (nI (crk tx 2 f' t' g')) (nI j)) J T L C) := by
          rw [ec2, rg_61_50, r4, am_okb, am_vIi, rg_61_53, if_neg (by decide), r5, r6, ej, cl_addact I3 J T L C _ _ _ hs (by omega), am_okb, rg_61_67, nI_1]
        have cp : CPf I (ACA I3 (3 * s + k) (nI (acw tx f t)) (nI (crk tx 2 f' t' g')) (nI j)) := CPf_t (CPf_t (CPf_ft c3) (CPf_fg r8)) (CPf_aca _ _ _ _ _)
        rcases ih with o | o
        · exact Or.inl (OF_mono o cp (CPt_r T) (MP_t mp (MP_fx m3)) ec3 em2)
        · exact Or.inr (OG_mono o cp (CPt_r T) (MP_t mp (MP_fx m3)) ec3 em2 (Nat.le_refl f0))

/-! GO in both readers. -/
def AGO (I : Nat → Nat → Int32) (ng : Nat) (a b c k m : Int32) : Nat → Nat → Int32 := am_up (am_up (am_up (am_up (am_up (am_up I 7 ng a) 8 ng b) 9 ng c) 10 ng k) 11 ng m) 6 5 (nI (ng + 1))
theorem AGO_ne {I : Nat → Nat → Int32} {ng : Nat} {a b c k m : Int32} {q x : Nat} (h : q < 6 ∨ 11 < q) : AGO I ng a b c k m q x = I q x := by
  unfold AGO
  rw [am_up_ne (by omega), am_up_ne (by omega), am_up_ne (by omega), am_up_ne (by omega), am_up_ne (by omega), am_up_ne (by omega)]
theorem CPf_ago (I : Nat → Nat → Int32) (ng : Nat) (a b c k m : Int32) : CPf I (AGO I ng a b c k m) := fun q x h => by
  unfold AGO
  rw [am_up_ne (by omega), am_up_ne (by omega), am_up_ne (by omega), am_up_ne (by omega), am_up_ne (by omega), am_up_ne (by omega)]
theorem cl_addgo (I : Nat → Nat → Int32) (J : Nat → Nat → Int64) (T : Nat → Nat → Nat) (L : Nat) (C : Nat × Nat) {ng : Nat} (a b c k m : Int32) (hn : ng < 16) (h5 : I 6 5 = nI ng) : am_E 9 0 [.ref 6, .int a, .int b, .int c, .int k, .int m] [] (am_W I J T L C) = some (.null, am_W (AGO I ng a b c k m) J T L C) := by
  rw [rg_9_0, h5, lf_put (q := 7) (N := 16) rfl hn (by decide), am_okb, rg_9_6]
  have e1 : am_up I 7 ng a 6 5 = nI ng := h5
  rw [e1, lf_put (q := 8) (N := 16) rfl hn (by decide), am_okb, rg_9_12]
  have e2 : am_up (am_up I 7 ng a) 8 ng b 6 5 = nI ng := h5
  rw [e2, lf_put (q := 9) (N := 16) rfl hn (by decide), am_okb, rg_9_18]
  have e3 : am_up (am_up (am_up I 7 ng a) 8 ng b) 9 ng c 6 5 = nI ng := h5
  rw [e3, lf_put (q := 10) (N := 16) rfl hn (by decide), am_okb, rg_9_24]
  have e4 : am_up (am_up (am_up (am_up I 7 ng a) 8 ng b) 9 ng c) 10 ng k 6 5 = nI ng := h5
  rw [e4, lf_put (q := 11) (N := 16) rfl hn (by decide), am_okb, rg_9_30]
  have e5 : am_up (am_up (am_up (am_up (am_up I 7 ng a) 8 ng b) 9 ng c) 10 ng k) 11 ng m 6 5 = nI ng := h5
  rw [e5, nI_1]
  rfl
theorem MP_gow {h r z : Nat} {w : Int32} (hr : 62 ≤ r ∧ r ≤ 66) (hz : z < 16) (I : Nat → Nat → Int32) : MP h I (am_up I r (16 * h + z) w) := MP_u I (Or.inr (Or.inr (Or.inr ⟨by omega, by omega, by unfold hwd; rw [if_neg (by omega), if_neg (by omega), if_neg (by omega), if_neg (by omega), if_neg (by omega), if_pos hr.2]; omega⟩)))
theorem MP_67 {h : Nat} {w : Int32} (I : Nat → Nat → Int32) : MP h I (am_up I 67 h w) := MP_u I (Or.inr (Or.inr (Or.inr ⟨by decide, by decide, by show 1 * h ≤ h ∧ h < 1 * h + 1; omega⟩)))
theorem go_idx : ∀ h, h < 2 → ∀ g, g < 17 → 16 * nI h + (nI g - nI g / 16 * 16) = nI (16 * h + g % 16) := by decide +kernel
theorem go_111 (I : Nat → Nat → Int32) (J : Nat → Nat → Int64) (T : Nat → Nat → Nat) (L : Nat) (C : Nat × Nat) {h : Nat} (x : Int32) (y : Int64) (hh : h < 2) (h23 : I 49 23 = nI h) : am_E 126 111 [.ref 49, .int x, .long y, .null] [] (am_W I J T L C) = some (.null, am_W (am_up I 67 h (I 67 h + 1)) J T L C) := by
  have c2 : Int32.toNatClampNeg (nI h) = h := nI_clamp (by omega)
  rw [rg_126_111, h23, am_inb_ok hh (by decide), am_inb_ok hh (by decide), c2]
def cnd (tx : Nat → Nat) (f t : Nat) : Nat := if sl tx f t = wd 46 then 1 else if sl tx f t = wd 47 then 2 else 0
theorem cnd_lt (tx : Nat → Nat) (f t : Nat) : cnd tx f t < 3 := by
  unfold cnd
  split
  · decide
  · split <;> decide
theorem cl_cnd (I : Nat → Nat → Int32) (J : Nat → Nat → Int64) (T : Nat → Nat → Nat) (L : Nat) (C : Nat × Nat) {tx : Nat → Nat} {N k f t g : Nat} (m1 m2 : Int32) (v2 v3 : Value) (h : TX I 4 3 1 tx N) (hc : CK I k f t g) (hk : TK tx N k f t g) (h0 : m2 ≠ 0) : am_E 63 19 [.ref 2, .int m1, v2, v3] [.int m2] (am_W I J T L C) = am_E 63 37 [.ref 2, .int m1, .int m2, v3] [.int (nI (cnd tx f t))] (am_W I J T L C) := by
  unfold cnd
  rw [rg_63_19, if_neg h0]
  show Option.bind (am_E 48 0 [.ref 2, .ref (2001 + 46)] [] (am_W I J T L C)) _ = _
  rw [is_word I J T L C h hc hk (by decide), am_okb, am_vIi, rg_63_27]
  by_cases e1 : sl tx f t = wd 46
  · rw [if_pos e1, decide_eq_true e1, if_neg (show ¬ am_b01 true = 0 by decide)]; rfl
  rw [if_neg e1, decide_eq_false e1, if_pos (show am_b01 false = 0 from rfl)]
  show Option.bind (am_E 48 0 [.ref 2, .ref (2001 + 47)] [] (am_W I J T L C)) _ = _
  rw [is_word I J T L C h hc hk (by decide), am_okb, am_vIi, rg_63_33]
  by_cases e2 : sl tx f t = wd 47
  · rw [if_pos e2, decide_eq_true e2, if_neg (show ¬ am_b01 true = 0 by decide)]; rfl
  rw [if_neg e2, decide_eq_false e2, if_pos (show am_b01 false = 0 from rfl)]; rfl
theorem mo_cnd (I : Nat → Nat → Int32) (J : Nat → Nat → Int64) (T : Nat → Nat → Nat) (L : Nat) (C : Nat × Nat) {l : List Nat} (x : Int32) (v2 v3 : Value) (hl : ∀ c, c ∈ l → 0 < c ∧ c < 256) : am_E 126 66 [.ref 49, .int x, v2, v3] [.long (lN (cvl l))] (am_W I J T L C) = am_E 126 83 [.ref 49, .int x, .long (lN (cvl l)), .null] [.int (if l = wd 46 then 1 else if l = wd 47 then 2 else 0), .int x, .ref 64] (am_W I J T L C) := by
  have c1 := ct (W := wd 46) (y := 17993) (by decide +kernel) hl (by decide +kernel)
  have c2 := ct (W := wd 47) (y := 5129801) (by decide +kernel) hl (by decide +kernel)
  rw [rg_126_66]
  by_cases e1 : l = wd 46
  · rw [if_pos (c1.mpr e1), if_pos e1]
  rw [if_neg (fun e => e1 (c1.mp e)), if_neg e1]
  by_cases e2 : l = wd 47
  · rw [if_pos (c2.mpr e2), if_pos e2]
  rw [if_neg (fun e => e2 (c2.mp e)), if_neg e2]
theorem cnd_I (tx : Nat → Nat) (f t : Nat) : (if sl tx f t = wd 46 then (1 : Int32) else if sl tx f t = wd 47 then 2 else 0) = nI (cnd tx f t) := by
  unfold cnd
  split
  · rfl
  · split <;> rfl
/-- from the second steps on, up to the condition -/
theorem go_63 (I : Nat → Nat → Int32) (J : Nat → Nat → Int64) (T : Nat → Nat → Nat) (L : Nat) (C : Nat × Nat) {tx : Nat → Nat} {N h f t g kk z : Nat} (m : Int32) (v2 v3 : Value) (hz : z < 16) (hm : MT tx N h I) (hf : MK I f t) (hk : TK tx N kk f t g) : am_E 126 63 [.ref 49, .int (nI (16 * h + z)), v2, v3] [.int m, .int (nI (16 * h + z)), .ref 63] (am_W I J T L C) = (if nI (cnd tx f t) ≤ 0 then am_E 126 111 [.ref 49, .int (nI (16 * h + z)), .long (lN (cvl (sl tx f t))), .null] [] (am_W (am_up (am_up I 63 (16 * h + z) m) 64 (16 * h + z) (nI (cnd tx f t))) J T L C) else if I 49 3 = 0 then Option.bind (am_E 99 0 [.ref 49] [] (am_W (am_up (am_up I 63 (16 * h + z) m) 64 (16 * h + z) (nI (cnd tx f t))) J T L C)) (fun z1 => am_E 126 94 [.ref 49, .int (nI (16 * h + z)), .long (lN (cvl (sl tx f t))), .null] [] z1.2) else am_E 126 111 [.ref 49, .int (nI (16 * h + z)), .long (lN (cvl (sl tx f t))), .null] [] (am_W (am_up (am_up I 63 (16 * h + z) m) 64 (16 * h + z) (nI (cnd tx f t))) J T L C)) := by
  have hh := hm.2.1
  have hN := hm.1.2.1
  have hl := TK_hl (TX_lt hm.1) hN hk
  have cl : Int32.toNatClampNeg (nI (16 * h + z)) = 16 * h + z := nI_clamp (by omega)
  have hle := TK_le hk
  have h1 : TX (am_up I 63 (16 * h + z) m) 50 49 2 tx N := hm.1
  rw [rg_126_63, am_inb_ok (by omega) (by decide), cl, mo_code (am_up I 63 (16 * h + z) m) J T L C h1 hf.1 hf.2 hle.2 hle.1, am_okb, am_vJl, cod_cvl, mo_cnd _ J T L C _ _ _ hl, cnd_I, rg_126_83, am_inb_ok (by omega) (by decide), am_inb_ok (by omega) (by decide), cl, am_up_here]
  rfl
theorem go_w63 (I : Nat → Nat → Int32) (J : Nat → Nat → Int64) (T : Nat → Nat → Nat) (L : Nat) (C : Nat × Nat) {tx : Nat → Nat} {N h f t g kk z K p : Nat} (m : Int32) (v2 v3 : Value) (hz : z < 16) (hm : MT tx N h I) (hf : MK I f t) (hk : TK tx N kk f t g) (w : WR I K p) (h0 : 0 < K) (h7 : K < 7) : ∃ I2, am_E 126 63 [.ref 49, .int (nI (16 * h + z)), v2, v3] [.int m, .int (nI (16 * h + z)), .ref 63] (am_W I J T L C) = some (.null, am_W I2 J T L C) ∧ WR I2 K p ∧ MP h I I2 ∧ I2 49 26 = nI t := by
  have hh := hm.2.1
  refine ⟨am_up (am_up (am_up I 63 (16 * h + z) m) 64 (16 * h + z) (nI (cnd tx f t))) 67 h (I 67 h + 1), ?_, w, MP_t (MP_t (MP_gow (by omega) hz I) (MP_gow (by omega) hz _)) (MP_67 _), hf.2⟩
  have r : ∀ y, am_E 126 111 [.ref 49, .int (nI (16 * h + z)), .long y, .null] [] (am_W (am_up (am_up I 63 (16 * h + z) m) 64 (16 * h + z) (nI (cnd tx f t))) J T L C) = some (.null, am_W (am_up (am_up (am_up I 63 (16 * h + z) m) 64 (16 * h + z) (nI (cnd tx f t))) 67 h (I 67 h + 1)) J T L C) := fun y => go_111 (am_up (am_up I 63 (16 * h + z) m) 64 (16 * h + z) (nI (cnd tx f t))) J T L C _ y hh hm.2.2
  rw [go_63 I J T L C m v2 v3 hz hm hf hk, if_neg (WR_ne w h0 h7), r, ite_self]
theorem go_w51 (I : Nat → Nat → Int32) (J : Nat → Nat → Int64) (T : Nat → Nat → Nat) (L : Nat) (C : Nat × Nat) {tx : Nat → Nat} {N h f t g kk z K p : Nat} (v2 v3 : Value) (hz : z < 16) (hm : MT tx N h I) (hf : MK I f t) (hk : TK tx N kk f t g) (w : WR I K p) (h0 : 0 < K) (h7 : K < 7) : ∃ I2, am_E 126 51 [.ref 49, .int (nI (16 * h + z)), v2, v3] [] (am_W I J T L C) = some (.null, am_W I2 J T L C) ∧ WR I2 K p ∧ MP h I I2 ∧ ∃ t2, t2 ≤ N ∧ I2 49 26 = nI t2 := by
  obtain ⟨I1, e1, e2, e3⟩ := mo_next I J T L C hm.1 hf hk
  have hm1 : MT tx N h I1 := MT_k hm (fun q k' e => e3 q k' (by omega))
  have w1 : WR I1 K p := ⟨(e3 49 3 (by omega)).trans w.1, (e3 49 4 (by omega)).trans w.2⟩
  obtain ⟨I2, r1, r2, r3, r4⟩ := go_w63 I1 J T L C 0 v2 v3 hz hm1 e2 (TK_n hk) w1 h0 h7
  refine ⟨I2, ?_, r2, MP_t (MP_fx e3) r3, _, (TK_le (TK_n hk)).2, r4⟩
  rw [rg_126_51, e1, am_okb, rg_126_53, if_neg (WR_ne w1 h0 h7)]
  exact r1
theorem go_w40 (I : Nat → Nat → Int32) (J : Nat → Nat → Int64) (T : Nat → Nat → Nat) (L : Nat) (C : Nat × Nat) {tx : Nat → Nat} {N h f t g kk z K p : Nat} (b : Int32) (v2 v3 : Value) (hz : z < 16) (hm : MT tx N h I) (hf : MK I f t) (hk : TK tx N kk f t g) (w : WR I K p) (h0 : 0 < K) (h7 : K < 7) : ∃ I2, am_E 126 40 [.ref 49, .int (nI (16 * h + z)), v2, v3] [.int b, .int (nI (16 * h + z)), .ref 62] (am_W I J T L C) = some (.null, am_W I2 J T L C) ∧ WR I2 K p ∧ MP h I I2 ∧ ∃ t2, t2 ≤ N ∧ I2 49 26 = nI t2 := by
  have hh := hm.2.1
  have cl : Int32.toNatClampNeg (nI (16 * h + z)) = 16 * h + z := nI_clamp (by omega)
  have hle := TK_le hk
  have hm1 : MT tx N h (am_up I 62 (16 * h + z) b) := hm
  have w1 : WR (am_up I 62 (16 * h + z) b) K p := w
  have f1 : MK (am_up I 62 (16 * h + z) b) f t := hf
  obtain ⟨I2, r1, r2, r3, r4⟩ := go_w51 (am_up I 62 (16 * h + z) b) J T L C v2 v3 hz hm1 f1 hk w1 h0 h7
  refine ⟨I2, ?_, r2, MP_t (MP_gow (by omega) hz I) r3, r4⟩
  rw [rg_126_40, am_inb_ok (by omega) (by decide), cl, mo_code (am_up I 62 (16 * h + z) b) J T L C hm1.1 f1.1 f1.2 hle.2 hle.1, am_okb, am_vJl, rg_126_43]
  by_cases e : lg_cmp (lN (cod tx f t)) 20308 = 0
  · rw [if_pos e]; exact r1
  · rw [if_neg e, mo_fail, mfl_w (WR_ne w1 h0 h7), am_okb]; exact r1
theorem go_w35 (I : Nat → Nat → Int32) (J : Nat → Nat → Int64) (T : Nat → Nat → Nat) (L : Nat) (C : Nat × Nat) {tx : Nat → Nat} {N h f t g kk z K p : Nat} (v2 v3 : Value) (hz : z < 16) (hm : MT tx N h I) (hf : MK I f t) (hk : TK tx N kk f t g) (w : WR I K p) (h0 : 0 < K) (h7 : K < 7) : ∃ I2, am_E 126 35 [.ref 49, .int (nI (16 * h + z)), v2, v3] [] (am_W I J T L C) = some (.null, am_W I2 J T L C) ∧ WR I2 K p ∧ MP h I I2 ∧ ∃ t2, t2 ≤ N ∧ I2 49 26 = nI t2 := by
  obtain ⟨I2, r1, r2⟩ := go_w40 I J T L C 0 v2 v3 hz hm hf hk w h0 h7
  refine ⟨I2, ?_, r2⟩
  rw [rg_126_35, rg_125_0, rg_125_4, if_neg (show ¬ (3 : Int32) ≤ 0 by decide), if_neg (WR_ne w h0 h7), am_okb, am_vIi]
  exact r1
/-- the last third: the condition -/
theorem go_C {L : Nat} {C : Nat × Nat} {Lm : Nat} {Cm : Nat × Nat} {Tm : Nat → Nat → Nat} {J : Nat → Nat → Int64} {J' : Nat → Nat → Int64} {D : Nat → Nat} {tx : Nat → Nat} {N h n ng d nc f0 : Nat} {I : Nat → Nat → Int32} {T : Nat → Nat → Nat} {I' : Nat → Nat → Int32} {kk f t g : Nat} (m1 m2 : Int32) (v2 v3 w2 w3 : Value) (hng : ng < 16) (v : LV D tx N h n ng d nc f I T I') (ck : CK I kk f t g) (hk : TK tx N kk f t g) (hmk : MK I' f t) (nb : NB kk f nc) (hD : D n = d) (hf0 : f0 < f) (g62 : I' 62 (16 * h + ng) = m1) (h0 : m2 ≠ 0) (hh2 : R_hi m2) : OF N h L C Lm Cm Tm J J' I T I' (am_E 63 19 [.ref 2, .int m1, v2, v3] [.int m2] (am_W I J T L C)) (am_E 126 63 [.ref 49, .int (nI (16 * h + ng)), w2, w3] [.int m2, .int (nI (16 * h + ng)), .ref 63] (am_W I' J' Tm Lm Cm)) ∨ OG tx N h f0 I T I' (am_E 63 19 [.ref 2, .int m1, v2, v3] [.int m2] (am_W I J T L C)) (am_E 126 63 [.ref 49, .int (nI (16 * h + ng)), w2, w3] [.int m2, .int (nI (16 * h + ng)), .ref 63] (am_W I' J' Tm Lm Cm)) (cfin L C J) (mfin Lm Cm Tm J') := by
  obtain ⟨hm, h3, h4⟩ := LV_mt v
  have hN := hm.1.2.1
  have hh := hm.2.1
  have h5 : I 6 5 = nI ng := v.2.2.2.1.2.2.2.2.2.2.1
  have h67 : I' 67 h = nI ng := v.2.2.2.1.2.2.2.2.2.2.2.1
  have cc := cl_cnd I J T L C m1 m2 v2 v3 v.1 ck hk h0
  have mm := go_63 I' J' Tm Lm Cm m2 w2 w3 hng hm hmk hk
  have c3 := cnd_lt tx f t
  have v1 : LV D tx N h n ng d nc f I T (am_up (am_up I' 63 (16 * h + ng) m2) 64 (16 * h + ng) (nI (cnd tx f t))) := LV_gow (by decide) (LV_gow (by decide) v)
  have mp1 : MP h I' (am_up (am_up I' 63 (16 * h + ng) m2) 64 (16 * h + ng) (nI (cnd tx f t))) := MP_t (MP_gow (by omega) hng I') (MP_gow (by omega) hng _)
  have k62 : am_up (am_up I' 63 (16 * h + ng) m2) 64 (16 * h + ng) (nI (cnd tx f t)) 62 (16 * h + ng) = m1 := (am_up_ne (by omega)).trans ((am_up_ne (by omega)).trans g62)
  have k63 : am_up (am_up I' 63 (16 * h + ng) m2) 64 (16 * h + ng) (nI (cnd tx f t)) 63 (16 * h + ng) = m2 := (am_up_ne (by omega)).trans (am_up_here _ _ _ _)
  have k64 : am_up (am_up I' 63 (16 * h + ng) m2) 64 (16 * h + ng) (nI (cnd tx f t)) 64 (16 * h + ng) = nI (cnd tx f t) := am_up_here _ _ _ _
  have k67 : am_up (am_up I' 63 (16 * h + ng) m2) 64 (16 * h + ng) (nI (cnd tx f t)) 67 h = nI ng := h67
  have kmk : MK (am_up (am_up I' 63 (16 * h + ng) m2) 64 (16 * h + ng) (nI (cnd tx f t))) f t := hmk
  generalize am_up (am_up I' 63 (16 * h + ng) m2) 64 (16 * h + ng) (nI (cnd tx f t)) = Iw at *
  obtain ⟨hmw, h3w, h4w⟩ := LV_mt v1
  by_cases e0 : cnd tx f t = 0
  · refine Or.inr ?_
    rw [e0] at cc mm k64
    have c48 : am_E 63 19 [.ref 2, .int m1, v2, v3] [.int m2] (am_W I J T L C) = some (.int 1, am_W (AGO I ng m1 m2 0 (I 2 10) (I 2 11)) J T L C) := by
      rw [cc, rg_63_37, if_pos (show nI 0 = 0 from rfl), rg_63_48, cl_addgo I J T L C m1 m2 (nI 0) (I 2 10) (I 2 11) hng h5, am_okb, rg_63_59]
      rfl
    have m111 : am_E 126 63 [.ref 49, .int (nI (16 * h + ng)), w2, w3] [.int m2, .int (nI (16 * h + ng)), .ref 63] (am_W I' J' Tm Lm Cm) = some (.null, am_W (am_up Iw 67 h (nI (ng + 1))) J' Tm Lm Cm) := by
      rw [mm, if_pos (show nI 0 ≤ 0 by decide), go_111 Iw J' Tm Lm Cm _ _ hh hmw.2.2, k67, nI_1]
    have lv : LV D tx N h n (ng + 1) d nc f (AGO I ng m1 m2 0 (I 2 10) (I 2 11)) T (am_up Iw 67 h (nI (ng + 1))) := LV_go hng k62 k63 k64 (Or.inl rfl) hh2 v1
    exact ⟨D, n, ng + 1, d, nc, kk, f, t, g, _, T, _, c48, m111, lv, ck, hk, kmk, nb, hD, hf0, CPf_ago I _ _ _ _ _ _, CPt_r T, MP_t mp1 (MP_67 _)⟩
  · have nle : ¬ nI (cnd tx f t) ≤ 0 := nI_nle (by omega) (by omega)
    have nne : ¬ nI (cnd tx f t) = 0 := nI_ne0 (by omega) (by omega)
    have hkk : kk = 2 := by
      rcases TK_p hk with e | e | e
      · exact e.1
      · refine absurd ?_ e0
        unfold cnd
        rw [if_neg (sw_word hk (by decide) (by omega)), if_neg (sw_word hk (by decide) (by omega))]
      · refine absurd ?_ e0
        unfold cnd
        rw [if_neg (sw_word hk (by decide) (by omega)), if_neg (sw_word hk (by decide) (by omega))]
    subst hkk
    rw [if_neg nle, if_pos h3] at mm
    obtain ⟨I1, c1, c2, c3⟩ := ad_ok I J T L C v.1 (TK_le hk).2 ck.2.2.1
    have hk2 := TK_n hk
    have nb2 := NB_n hk nb (by decide)
    obtain ⟨Ia, Ib, a1, a2, a3, a4, a5, a6⟩ := mcell Iw J' Tm Lm Cm 1023 hmw kmk hk h3w
    have h1 : TX I1 4 3 1 tx N := ⟨(c3 3 1 (by omega)).trans v.1.1, hN, fun i hi => ⟨(c3 4 i (by omega)).trans (v.1.2.2 i hi).1, (v.1.2.2 i hi).2⟩⟩
    have rc := rd_cell I1 J T L C 3711 h1 c2 hk2
    obtain ⟨p1, p2⟩ := pl_all hk2 hN (TX_lt hm.1) OM_all
    have ec : am_E 63 19 [.ref 2, .int m1, v2, v3] [.int m2] (am_W I J T L C) = am_E 63 42 [.ref 2, .int m1, .int m2, .int (nI (cnd tx f t))] [] (am_W I1 J T L C) := by
      rw [cc, rg_63_37, if_neg nne, c1, am_okb]
    generalize hk' : tkk tx N (tkf tx N t) = k' at *
    generalize hf' : tkf tx N t = f' at *
    generalize ht' : tkt tx N f' = t' at *
    generalize hg' : tkg tx f' t' = g' at *
    have hm2 : MT tx N h Ib := MT_p hmw a3
    have mp2 : MP h I' (am_up (am_up Ib 65 (16 * h + ng) (Ib 49 28)) 66 (16 * h + ng) (Ib 49 29)) := MP_t (MP_t (MP_t mp1 a3) (MP_gow (by omega) hng _)) (MP_gow (by omega) hng _)
    have clx : Int32.toNatClampNeg (nI (16 * h + ng)) = (16 * h + ng) := nI_clamp (by omega)
    have hm3 : MT tx N h (am_up (am_up Ib 65 (16 * h + ng) (Ib 49 28)) 66 (16 * h + ng) (Ib 49 29)) := hm2
    obtain ⟨I2, n1, n2, n3⟩ := mo_next (am_up (am_up Ib 65 (16 * h + ng) (Ib 49 28)) 66 (16 * h + ng) (Ib 49 29)) J' Tm Lm Cm hm3.1 a5 hk2
    have hm4 : MT tx N h I2 := MT_k hm3 (fun q k' e => n3 q k' (by omega))
    have em : am_E 126 63 [.ref 49, .int (nI (16 * h + ng)), w2, w3] [.int m2, .int (nI (16 * h + ng)), .ref 63] (am_W I' J' Tm Lm Cm) = some (.null, am_W (am_up I2 67 h (I2 67 h + 1)) J' Tm Lm Cm) := by
      rw [mm, a1, am_okb, rg_126_94, a2, am_okb, rg_126_97, am_inb_ok (by omega) (by decide), am_inb_ok (by omega) (by decide), clx, n1, am_okb, go_111 I2 J' Tm Lm Cm _ _ hh hm4.2.2]
    rcases rc with ⟨r1, r2⟩ | ⟨r1, r2, r3, I3, r4, r5, r6, r7, r8⟩
    · refine Or.inl ?_
      rcases a6 with ⟨e1, e2⟩ | ⟨e1, _⟩
      · rw [p1] at e1 e2
        have c7' : crf tx k' f' t' g' 3711 < 7 := by
          unfold crf cfk
          split
          · decide
          · split
            · split
              · split <;> decide
              · split <;> decide
            · decide
        have w2 : WR (am_up I2 67 h (I2 67 h + 1)) (crf tx k' f' t' g' 3711) f' := ⟨(n3 49 3 (by omega)).trans e2.1, (n3 49 4 (by omega)).trans e2.2⟩
        refine OF_mk (by omega) c7' (by have := (TK_le hk2); omega) ?_ em w2 (TK_le (TK_n hk2)).2 n2.2 (CPf_ft c3) (CPt_r T) (MP_t (MP_t mp2 (MP_fx n3)) (MP_67 _)) (Ia := I1)
        rw [ec, rg_63_42, r2, am_okb, am_vIi, rg_63_45, if_pos rfl]
      · rw [p1] at e1; exact absurd e1 r1
    · refine Or.inr ?_
      rcases a6 with ⟨e1, _⟩ | ⟨e1, e2, e3, e4, e5⟩
      · rw [p1] at e1; exact absurd r1 e1
      obtain ⟨p3, p4⟩ := p2 r1
      have ok := cell_ok r1 r2 (fun _ _ x => x) r3
      have ek : k' = 2 := (kow_p r3).2.1
      subst ek
      have q5 : I3 6 5 = nI ng := (r8 6 5 (by omega)).trans ((c3 6 5 (by omega)).trans h5)
      have ec2 : am_E 63 19 [.ref 2, .int m1, v2, v3] [.int m2] (am_W I J T L C) = some (.int 1, am_W (AGO I3 ng m1 m2 (nI (cnd tx f t)) (nI (crk tx 2 f' t' g')) (crv tx 2 f' t' g')) J T L C) := by
        rw [ec, rg_63_42, r4, am_okb, am_vIi, rg_63_45, if_neg (by decide), rg_63_48, r5, r6, cl_addgo I3 J T L C _ _ _ _ _ hng q5, am_okb, rg_63_59]
      have vv : LV D tx N h n ng d nc f I3 T Ib := by
        refine LV_keep (fun q k hq => ?_) (fun _ => rfl) (fun q k hq => ?_) v1
        · rw [r8 q k (fun e => hq.2.2 ⟨e.1, by omega⟩)]
          exact c3 q k (fun e => hq.2.2 ⟨e.1, by omega⟩)
        · by_cases e34 : q = 49 ∧ (k = 3 ∨ k = 4)
          · rcases e34 with ⟨rfl, rfl | rfl⟩
            · rw [e2, h3w]
            · exact e3
          · exact a4 q k (fun e => by have := hq.2.2; omega)
      have vg : LV D tx N h n ng d nc f I3 T (am_up (am_up Ib 65 (16 * h + ng) (Ib 49 28)) 66 (16 * h + ng) (Ib 49 29)) := LV_gow (by decide) (LV_gow (by decide) vv)
      have vk : LV D tx N h n ng d nc f I3 T I2 := LV_keep (fun _ _ _ => rfl) (fun _ => rfl) (fun q k hq => n3 q k (fun x => hq.2.2 ⟨x.1, by omega⟩)) vg
      have i62 : I2 62 (16 * h + ng) = m1 := (n3 62 _ (by omega)).trans ((am_up_ne (by omega)).trans ((am_up_ne (by omega)).trans ((a4 62 _ (by omega)).trans k62)))
      have i63 : I2 63 (16 * h + ng) = m2 := (n3 63 _ (by omega)).trans ((am_up_ne (by omega)).trans ((am_up_ne (by omega)).trans ((a4 63 _ (by omega)).trans k63)))
      have i64 : I2 64 (16 * h + ng) = nI (cnd tx f t) := (n3 64 _ (by omega)).trans ((am_up_ne (by omega)).trans ((am_up_ne (by omega)).trans ((a4 64 _ (by omega)).trans k64)))
      have i65 : I2 65 (16 * h + ng) = nI (cmk (crk tx 2 f' t' g')) := by
        rw [n3 65 _ (by omega), am_up_ne (by omega), am_up_here, e4, p3]
      have i66 : I2 66 (16 * h + ng) = crv tx 2 f' t' g' := by
        rw [n3 66 _ (by omega), am_up_here, e5, p4]
      have i67 : I2 67 h = nI ng := (n3 67 _ (by omega)).trans ((am_up_ne (by omega)).trans ((am_up_ne (by omega)).trans ((a4 67 _ (by omega)).trans k67)))
      rw [i67, nI_1] at em
      have lv : LV D tx N h n (ng + 1) d nc f (AGO I3 ng m1 m2 (nI (cnd tx f t)) (nI (crk tx 2 f' t' g')) (crv tx 2 f' t' g')) T (am_up I2 67 h (nI (ng + 1))) := LV_go hng i62 i63 i64 (Or.inr ⟨_, rfl, ok, i65, i66⟩) hh2 vk
      have hk3 := TK_n hk2
      have nb3 := NB_n hk2 nb2.1 (by decide)
      exact ⟨D, n, ng + 1, d, nc, _, _, _, _, _, T, _, ec2, em, LV_f (by omega) lv, ⟨(AGO_ne (by omega)).trans r7.1, (AGO_ne (by omega)).trans r7.2.1, (AGO_ne (by omega)).trans r7.2.2.1, (AGO_ne (by omega)).trans r7.2.2.2⟩, hk3, n2, nb3.1, hD, by omega, CPf_t (CPf_t (CPf_ft c3) (CPf_fg r8)) (CPf_ago I3 _ _ _ _ _ _), CPt_r T, MP_t (MP_t mp2 (MP_fx n3)) (MP_67 _)⟩

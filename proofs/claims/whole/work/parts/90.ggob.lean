/-! GO in both readers, its steps; the word of a line. -/
/-- behind a fault, with bare places -/
theorem cnd83 (I : Nat → Nat → Int32) (J : Nat → Nat → Int64) (T : Nat → Nat → Nat) (L : Nat) (C : Nat × Nat) (x : Int32) (v2 v3 : Value) (y : Int64) : ∃ a : Int32, am_E 126 66 [.ref 49, .int x, v2, v3] [.long y] (am_W I J T L C) = am_E 126 83 [.ref 49, .int x, .long y, .null] [.int a, .int x, .ref 64] (am_W I J T L C) := by
  rw [rg_126_66]
  by_cases e1 : lg_cmp y 17993 = 0
  · exact ⟨1, by rw [if_pos e1]⟩
  · by_cases e2 : lg_cmp y 5129801 = 0
    · exact ⟨2, by rw [if_neg e1, if_pos e2]⟩
    · exact ⟨0, by rw [if_neg e1, if_neg e2]⟩
theorem go_wg63 (I : Nat → Nat → Int32) (J : Nat → Nat → Int64) (T : Nat → Nat → Nat) (L : Nat) (C : Nat × Nat) {tx : Nat → Nat} {N h f t z K p : Nat} (m : Int32) (v2 v3 : Value) (hz : z < 16) (hm : MT tx N h I) (hf : MK I f t) (hft : f ≤ t) (htN : t ≤ N) (w : WR I K p) (h0 : 0 < K) (h7 : K < 7) : ∃ I2, am_E 126 63 [.ref 49, .int (nI (16 * h + z)), v2, v3] [.int m, .int (nI (16 * h + z)), .ref 63] (am_W I J T L C) = some (.null, am_W I2 J T L C) ∧ WR I2 K p ∧ MP h I I2 ∧ I2 49 26 = nI t := by
  have hh := hm.2.1
  have cl : Int32.toNatClampNeg (nI (16 * h + z)) = 16 * h + z := nI_clamp (by omega)
  have h1 : TX (am_up I 63 (16 * h + z) m) 50 49 2 tx N := hm.1
  obtain ⟨a, ha⟩ := cnd83 (am_up I 63 (16 * h + z) m) J T L C (nI (16 * h + z)) v2 v3 (lN (cod tx f t))
  refine ⟨am_up (am_up (am_up I 63 (16 * h + z) m) 64 (16 * h + z) a) 67 h (I 67 h + 1), ?_, w, MP_t (MP_t (MP_gow (by omega) hz I) (MP_gow (by omega) hz _)) (MP_67 _), hf.2⟩
  have r : ∀ y, am_E 126 111 [.ref 49, .int (nI (16 * h + z)), .long y, .null] [] (am_W (am_up (am_up I 63 (16 * h + z) m) 64 (16 * h + z) a) J T L C) = some (.null, am_W (am_up (am_up (am_up I 63 (16 * h + z) m) 64 (16 * h + z) a) 67 h (I 67 h + 1)) J T L C) := fun y => go_111 (am_up (am_up I 63 (16 * h + z) m) 64 (16 * h + z) a) J T L C _ y hh hm.2.2
  rw [rg_126_63, am_inb_ok (by omega) (by decide), cl, mo_code (am_up I 63 (16 * h + z) m) J T L C h1 hf.1 hf.2 htN hft, am_okb, am_vJl, ha, rg_126_83, am_inb_ok (by omega) (by decide), am_inb_ok (by omega) (by decide), cl]
  have wn : ¬ am_up I 63 (16 * h + z) m 49 3 = 0 := WR_ne w h0 h7
  rw [if_neg wn, r, ite_self]
theorem go_wg51 (I : Nat → Nat → Int32) (J : Nat → Nat → Int64) (T : Nat → Nat → Nat) (L : Nat) (C : Nat × Nat) {tx : Nat → Nat} {N h f t z K p : Nat} (v2 v3 : Value) (hz : z < 16) (hm : MT tx N h I) (hf : MK I f t) (htN : t ≤ N) (w : WR I K p) (h0 : 0 < K) (h7 : K < 7) : ∃ I2, am_E 126 51 [.ref 49, .int (nI (16 * h + z)), v2, v3] [] (am_W I J T L C) = some (.null, am_W I2 J T L C) ∧ WR I2 K p ∧ MP h I I2 ∧ ∃ t2, t2 ≤ N ∧ I2 49 26 = nI t2 := by
  obtain ⟨I1, e1, e2, e3, e4⟩ := nx_ok I J T L C hm.1 htN hf.2
  have hk := TK_nx (tx := tx) htN
  have hm1 : MT tx N h I1 := MT_k hm (fun q k' e => e4 q k' (by omega))
  have w1 : WR I1 K p := ⟨(e4 49 3 (by omega)).trans w.1, (e4 49 4 (by omega)).trans w.2⟩
  obtain ⟨I2, r1, r2, r3, r4⟩ := go_wg63 I1 J T L C 0 v2 v3 hz hm1 ⟨e2, e3⟩ (TK_le hk).1 (TK_le hk).2 w1 h0 h7
  refine ⟨I2, ?_, r2, MP_t (MP_fx e4) r3, _, (TK_le hk).2, r4⟩
  rw [rg_126_51, e1, am_okb, rg_126_53, if_neg (WR_ne w1 h0 h7)]
  exact r1
theorem go_wg40 (I : Nat → Nat → Int32) (J : Nat → Nat → Int64) (T : Nat → Nat → Nat) (L : Nat) (C : Nat × Nat) {tx : Nat → Nat} {N h f t z K p : Nat} (b : Int32) (v2 v3 : Value) (hz : z < 16) (hm : MT tx N h I) (hf : MK I f t) (hft : f ≤ t) (htN : t ≤ N) (w : WR I K p) (h0 : 0 < K) (h7 : K < 7) : ∃ I2, am_E 126 40 [.ref 49, .int (nI (16 * h + z)), v2, v3] [.int b, .int (nI (16 * h + z)), .ref 62] (am_W I J T L C) = some (.null, am_W I2 J T L C) ∧ WR I2 K p ∧ MP h I I2 ∧ ∃ t2, t2 ≤ N ∧ I2 49 26 = nI t2 := by
  have hh := hm.2.1
  have cl : Int32.toNatClampNeg (nI (16 * h + z)) = 16 * h + z := nI_clamp (by omega)
  have hm1 : MT tx N h (am_up I 62 (16 * h + z) b) := hm
  have w1 : WR (am_up I 62 (16 * h + z) b) K p := w
  have f1 : MK (am_up I 62 (16 * h + z) b) f t := hf
  obtain ⟨I2, r1, r2, r3, r4⟩ := go_wg51 (am_up I 62 (16 * h + z) b) J T L C v2 v3 hz hm1 f1 htN w1 h0 h7
  refine ⟨I2, ?_, r2, MP_t (MP_gow (by omega) hz I) r3, r4⟩
  rw [rg_126_40, am_inb_ok (by omega) (by decide), cl, mo_code (am_up I 62 (16 * h + z) b) J T L C hm1.1 f1.1 f1.2 htN hft, am_okb, am_vJl, rg_126_43]
  by_cases e : lg_cmp (lN (cod tx f t)) 20308 = 0
  · rw [if_pos e]; exact r1
  · rw [if_neg e, mo_fail, mfl_w (WR_ne w1 h0 h7), am_okb]; exact r1
/-- the second third: TO and the steps behind it -/
theorem go_B {L : Nat} {C : Nat × Nat} {Lm : Nat} {Cm : Nat × Nat} {Tm : Nat → Nat → Nat} {J : Nat → Nat → Int64} {J' : Nat → Nat → Int64} {D : Nat → Nat} {tx : Nat → Nat} {N h n ng d nc f0 : Nat} {I : Nat → Nat → Int32} {T : Nat → Nat → Nat} {I' : Nat → Nat → Int32} {kk f t g : Nat} (m1 : Int32) (w2 w3 : Value) (hng : ng < 16) (v : LV D tx N h n ng d nc f I T I') (ck : CK I kk f t g) (hk : TK tx N kk f t g) (hmk : MK I' f t) (nb : NB kk f nc) (hD : D n = d) (hf0 : f0 < f) (h0 : m1 ≠ 0) : OF N h L C Lm Cm Tm J J' I T I' (am_E 63 2 [.ref 2, .null, .null, .null] [.int m1] (am_W I J T L C)) (am_E 126 40 [.ref 49, .int (nI (16 * h + ng)), w2, w3] [.int m1, .int (nI (16 * h + ng)), .ref 62] (am_W I' J' Tm Lm Cm)) ∨ OG tx N h f0 I T I' (am_E 63 2 [.ref 2, .null, .null, .null] [.int m1] (am_W I J T L C)) (am_E 126 40 [.ref 49, .int (nI (16 * h + ng)), w2, w3] [.int m1, .int (nI (16 * h + ng)), .ref 62] (am_W I' J' Tm Lm Cm)) (cfin L C J) (mfin Lm Cm Tm J') := by
  obtain ⟨hm, h3, h4⟩ := LV_mt v
  have hN := hm.1.2.1
  have hh := hm.2.1
  have hle := TK_le hk
  have hl := TK_hl (TX_lt hm.1) hN hk
  have cl : Int32.toNatClampNeg (nI (16 * h + ng)) = (16 * h + ng) := nI_clamp (by omega)
  have v1 : LV D tx N h n ng d nc f I T (am_up I' 62 (16 * h + ng) m1) := LV_gow (by decide) v
  have mp1 : MP h I' (am_up I' 62 (16 * h + ng) m1) := MP_gow (by omega) hng I'
  have k62 : am_up I' 62 (16 * h + ng) m1 62 (16 * h + ng) = m1 := am_up_here _ _ _ _
  have kmk : MK (am_up I' 62 (16 * h + ng) m1) f t := hmk
  have c1 := ct (W := wd 45) (y := 20308) (by decide +kernel) hl (by decide +kernel)
  have cc : am_E 63 2 [.ref 2, .null, .null, .null] [.int m1] (am_W I J T L C) = am_E 63 10 [.ref 2, .int m1, .null, .null] [.int (am_b01 (decide (sl tx f t = wd 45)))] (am_W I J T L C) := by
    rw [rg_63_2, if_neg h0]
    show Option.bind (am_E 48 0 [.ref 2, .ref (2001 + 45)] [] (am_W I J T L C)) _ = _
    rw [is_word I J T L C v.1 ck hk (by decide), am_okb, am_vIi]
  have mm : am_E 126 40 [.ref 49, .int (nI (16 * h + ng)), w2, w3] [.int m1, .int (nI (16 * h + ng)), .ref 62] (am_W I' J' Tm Lm Cm) = am_E 126 43 [.ref 49, .int (nI (16 * h + ng)), w2, w3] [.long (lN (cod tx f t))] (am_W (am_up I' 62 (16 * h + ng) m1) J' Tm Lm Cm) := by
    rw [rg_126_40, am_inb_ok (by omega) (by decide), cl, mo_code (am_up I' 62 (16 * h + ng) m1) J' Tm Lm Cm v1.2.1 kmk.1 kmk.2 hle.2 hle.1, am_okb, am_vJl]
  generalize am_up I' 62 (16 * h + ng) m1 = Iw at *
  obtain ⟨hmw, h3w, h4w⟩ := LV_mt v1
  rw [cod_cvl, rg_126_43] at mm
  by_cases e : sl tx f t = wd 45
  · rw [if_pos (c1.mpr e)] at mm
    rw [decide_eq_true e] at cc
    have hkk : kk = 2 := by
      rcases TK_p hk with q | q | q
      · exact q.1
      · exact absurd e (sw_word hk (by decide) (by omega))
      · exact absurd e (sw_word hk (by decide) (by omega))
    subst hkk
    obtain ⟨I1, c1, c2, c3⟩ := ad_ok I J T L C v.1 hle.2 ck.2.2.1
    obtain ⟨Ia, a1, a2, a3⟩ := mo_next Iw J' Tm Lm Cm hmw.1 kmk hk
    have hk2 := TK_n hk
    have nb2 := NB_n hk nb (by decide)
    have vv : LV D tx N h n ng d nc (tkf tx N t) I1 T Ia := LV_f (by omega) (LV_keep (fun q k hq => c3 q k (fun e => hq.2.2 ⟨e.1, by omega⟩)) (fun _ => rfl) (fun q k hq => a3 q k (fun e => hq.2.2 ⟨e.1, by omega⟩)) v1)
    have ec : am_E 63 2 [.ref 2, .null, .null, .null] [.int m1] (am_W I J T L C) = Option.bind (am_E 64 0 [.ref 2, .null, .null, .null] [] (am_W I1 J T L C)) (fun z1 => am_vI z1.1 fun u1 => am_E 63 19 [.ref 2, .int m1, .null, .null] [.int u1] z1.2) := by
      rw [cc, rg_63_10, if_neg (show ¬ am_b01 true = 0 by decide), c1, am_okb, rg_63_17]
    have em : am_E 126 40 [.ref 49, .int (nI (16 * h + ng)), w2, w3] [.int m1, .int (nI (16 * h + ng)), .ref 62] (am_W I' J' Tm Lm Cm) = Option.bind (am_E 125 0 [.ref 49, .null, .null, .null] [] (am_W Ia J' Tm Lm Cm)) (fun z1 => am_vI z1.1 fun u1 => am_E 126 61 [.ref 49, .int (nI (16 * h + ng)), w2, w3] [.int u1, .int (nI (16 * h + ng)), .ref 63] z1.2) := by
      rw [mm, rg_126_51, a1, am_okb, rg_126_53, if_pos ((a3 49 3 (by omega)).trans h3w)]
    have mpa : MP h I' Ia := MP_t mp1 (MP_fx a3)
    have s := sm_ok (L := L) (C := C) (Lm := Lm) (Cm := Cm) (Tm := Tm) (J := J) (J' := J') (f0 := f0) vv c2 hk2 a2 nb2.1 (by omega)
    rcases s with ⟨K, p, Ix, Iy, b, f2, t2, z1, z2, z3, z4, z5, z6, z7, z8, z9, z10, z11⟩ | ⟨mk', nc', kx, f', t', g', Ix, Iy, z1, z2, z3, z4, z5, z6, z7, z8, z9, z10, z11, z12⟩
    · refine Or.inl ?_
      have hmy : MT tx N h Iy := MT_p (MT_p hm mpa) (SMf_mp z11)
      obtain ⟨I2, r1, r2, r3, r4⟩ := go_wg63 Iy J' Tm Lm Cm b w2 w3 hng hmy z9 z7 z8 z6 z1 z2
      refine OF_mk z1 z2 z3 ?_ ?_ r2 z8 r4 (CPf_t (CPf_ft c3) z10) (CPt_r T) (MP_t (MP_t mpa (SMf_mp z11)) r3)
      · rw [ec, z4, am_okb, am_vIi, rg_63_19, if_pos rfl]
      · rw [em, z5, am_okb, am_vIi, rg_126_61]; exact r1
    · have i62 : Iy 62 (16 * h + ng) = m1 := (z12 62 _ (by omega)).trans ((a3 62 _ (by omega)).trans k62)
      have r := go_C (L := L) (C := C) (Lm := Lm) (Cm := Cm) (Tm := Tm) (J := J) (J' := J') (f0 := f0) m1 mk' .null .null w2 w3 hng z5 z6 z7 z8 z9 hD z10 i62 z3 z4
      have cp : CPf I Ix := CPf_t (CPf_ft c3) z11
      have mp : MP h I' Iy := MP_t mpa (SMf_mp z12)
      have ec2 : am_E 63 2 [.ref 2, .null, .null, .null] [.int m1] (am_W I J T L C) = am_E 63 19 [.ref 2, .int m1, .null, .null] [.int mk'] (am_W Ix J T L C) := by
        rw [ec, z1, am_okb, am_vIi]
      have em2 : am_E 126 40 [.ref 49, .int (nI (16 * h + ng)), w2, w3] [.int m1, .int (nI (16 * h + ng)), .ref 62] (am_W I' J' Tm Lm Cm) = am_E 126 63 [.ref 49, .int (nI (16 * h + ng)), w2, w3] [.int mk', .int (nI (16 * h + ng)), .ref 63] (am_W Iy J' Tm Lm Cm) := by
        rw [em, z2, am_okb, am_vIi, rg_126_61]
      rcases r with o | o
      · exact Or.inl (OF_mono o cp (CPt_r T) mp ec2 em2)
      · exact Or.inr (OG_mono o cp (CPt_r T) mp ec2 em2 (Nat.le_refl f0))
  · refine Or.inl ?_
    rw [if_neg (fun q => e (c1.mp q)), kmk.1] at mm
    change _ = Option.bind (am_E 98 0 [.ref 49, .int (nI 1), .int (nI f)] [] _) _ at mm
    rw [mo_fail, am_okb] at mm
    have w := WR_mfl h3w 1 f
    have hmf := MT_p hmw (MP_mfl h Iw (nI 1) (nI f))
    obtain ⟨I2, r1, r2, r3, t2, r4, r5⟩ := go_w51 (mfl Iw (nI 1) (nI f)) J' Tm Lm Cm w2 w3 hng hmf ⟨(mfl_ne (by omega)).trans kmk.1, (mfl_ne (by omega)).trans kmk.2⟩ hk w (by decide) (by decide)
    refine OF_mk (by decide) (by decide) (by omega) ?_ (mm.trans r1) r2 r4 r5 (CPf_r I) (CPt_r T) (MP_t (MP_t mp1 (MP_mfl h Iw _ _)) r3)
    rw [cc, decide_eq_false e, rg_63_10, if_pos (show am_b01 false = 0 from rfl)]
    show Option.bind (am_E 45 0 [.ref 2, .int (nI 1)] [] _) _ = _
    rw [cl_fail I J T L C ck.2.1, am_okb, am_vIi, rg_63_14]
    rfl
/-- the first third -/
theorem go_A {L : Nat} {C : Nat × Nat} {Lm : Nat} {Cm : Nat × Nat} {Tm : Nat → Nat → Nat} {J : Nat → Nat → Int64} {J' : Nat → Nat → Int64} {D : Nat → Nat} {tx : Nat → Nat} {N h n ng d nc f0 : Nat} {I : Nat → Nat → Int32} {T : Nat → Nat → Nat} {I' : Nat → Nat → Int32} {kk f t g : Nat} (w2 w3 : Value) (hng : ng < 16) (v : LV D tx N h n ng d nc f I T I') (ck : CK I kk f t g) (hk : TK tx N kk f t g) (hmk : MK I' f t) (nb : NB kk f nc) (hD : D n = d) (hf0 : f0 < f) : OF N h L C Lm Cm Tm J J' I T I' (am_E 63 0 [.ref 2, .null, .null, .null] [] (am_W I J T L C)) (am_E 126 35 [.ref 49, .int (nI (16 * h + ng)), w2, w3] [] (am_W I' J' Tm Lm Cm)) ∨ OG tx N h f0 I T I' (am_E 63 0 [.ref 2, .null, .null, .null] [] (am_W I J T L C)) (am_E 126 35 [.ref 49, .int (nI (16 * h + ng)), w2, w3] [] (am_W I' J' Tm Lm Cm)) (cfin L C J) (mfin Lm Cm Tm J') := by
  obtain ⟨hm, h3, h4⟩ := LV_mt v
  rw [rg_63_0, rg_126_35]
  have s := sm_ok (L := L) (C := C) (Lm := Lm) (Cm := Cm) (Tm := Tm) (J := J) (J' := J') (f0 := f0) v ck hk hmk nb hf0
  rcases s with ⟨K, p, Ix, Iy, b, f2, t2, z1, z2, z3, z4, z5, z6, z7, z8, z9, z10, z11⟩ | ⟨mk', nc', kx, f', t', g', Ix, Iy, z1, z2, z3, z4, z5, z6, z7, z8, z9, z10, z11, z12⟩
  · refine Or.inl ?_
    have hmy : MT tx N h Iy := MT_p hm (SMf_mp z11)
    obtain ⟨I2, r1, r2, r3, t3, r4, r5⟩ := go_wg40 Iy J' Tm Lm Cm b w2 w3 hng hmy z9 z7 z8 z6 z1 z2
    refine OF_mk z1 z2 z3 ?_ ?_ r2 r4 r5 z10 (CPt_r T) (MP_t (SMf_mp z11) r3)
    · rw [z4, am_okb, am_vIi, rg_63_2, if_pos rfl]
    · rw [z5, am_okb, am_vIi]; exact r1
  · have r := go_B (L := L) (C := C) (Lm := Lm) (Cm := Cm) (Tm := Tm) (J := J) (J' := J') (f0 := f0) mk' w2 w3 hng z5 z6 z7 z8 z9 hD z10 z3
    have e1 : Option.bind (am_E 64 0 [.ref 2, .null, .null, .null] [] (am_W I J T L C)) (fun z1 => am_vI z1.1 fun u1 => am_E 63 2 [.ref 2, .null, .null, .null] [.int u1] z1.2) = am_E 63 2 [.ref 2, .null, .null, .null] [.int mk'] (am_W Ix J T L C) := by rw [z1, am_okb, am_vIi]
    have e2 : Option.bind (am_E 125 0 [.ref 49, .null, .null, .null] [] (am_W I' J' Tm Lm Cm)) (fun z1 => am_vI z1.1 fun u1 => am_E 126 40 [.ref 49, .int (nI (16 * h + ng)), w2, w3] [.int u1, .int (nI (16 * h + ng)), .ref 62] z1.2) = am_E 126 40 [.ref 49, .int (nI (16 * h + ng)), w2, w3] [.int mk', .int (nI (16 * h + ng)), .ref 62] (am_W Iy J' Tm Lm Cm) := by rw [z2, am_okb, am_vIi]
    rcases r with o | o
    · exact Or.inl (OF_mono o z11 (CPt_r T) (SMf_mp z12) e1 e2)
    · exact Or.inr (OG_mono o z11 (CPt_r T) (SMf_mp z12) e1 e2 (Nat.le_refl f0))
theorem gp_go {L : Nat} {C : Nat × Nat} {Lm : Nat} {Cm : Nat × Nat} {Tm : Nat → Nat → Nat} {J : Nat → Nat → Int64} {J' : Nat → Nat → Int64} {D : Nat → Nat} {tx : Nat → Nat} {N h n ng d nc f t g : Nat} {I : Nat → Nat → Int32} {T : Nat → Nat → Nat} {I' : Nat → Nat → Int32} (x1 xm : Int32) (v2 v3 u2 u3 : Value) (p : PRE D tx N h n ng d nc f t g I T I') {i : Nat} (h1 : i = 40) (hw : sl tx f t = wd i) : OF N h L C Lm Cm Tm J J' I T I' (am_E 44 42 [.ref 2, .int x1, v2, v3] [.int 1] (am_W I J T L C)) (am_E 127 75 [.ref 49, .int xm, u2, u3] [.long (lN (cod tx f t))] (am_W I' J' Tm Lm Cm)) ∨ OG tx N h f I T I' (am_E 44 42 [.ref 2, .int x1, v2, v3] [.int 1] (am_W I J T L C)) (am_E 127 75 [.ref 49, .int xm, u2, u3] [.long (lN (cod tx f t))] (am_W I' J' Tm Lm Cm)) (fcl L C J x1 (1001 + i)) (fmo Lm Cm Tm J' xm (lN (cvl (sl tx f t)))) := by
  have pr := pr_op J L C p
  obtain ⟨v, c, k, hmk, nb, hD⟩ := p
  obtain ⟨hm, h3, h4⟩ := LV_mt v
  have hN := hm.1.2.1
  have hh := hm.2.1
  obtain ⟨hft, htN, hl⟩ := TK_wl (TX_lt hm.1) hN k
  have w := v.2.2.2.1
  have h27 : I' 49 27 = nI d := w.2.2.2.2.2.2.2.2.2.2
  have hd8 : d ≤ 8 := w.2.2.2.2.2.2.2.2.1
  have h9 : I 2 9 = nI d := w.2.2.2.2.2.2.2.2.2.1
  have hng : ng ≤ 16 := w.2.2.2.2.2.1
  have h67 : I' 67 h = nI ng := w.2.2.2.2.2.2.2.1
  have c2x : Int32.toNatClampNeg (nI h) = h := nI_clamp (by omega)
  obtain ⟨b1, b2, b3⟩ := bix_w (by omega : i < 41) hft hw
  have hfr : frm i = 13 := by rw [h1]; rfl
  have hra : rof (brk tx t) (bix tx f t) n ng d = if ng = 16 then 3 else if d = 0 then 0 else 5 := by
    rw [b1, b2]
    unfold rof ful
    rw [if_pos ⟨by omega, fun e => absurd e (by decide)⟩, if_pos hfr, alw_67 (by omega)]
    by_cases q : ng = 16
    · rw [if_pos q, decide_eq_true (show 16 ≤ ng by omega)]; rfl
    · rw [if_neg q, decide_eq_false (show ¬ 16 ≤ ng by omega), if_neg (show ¬ false = true by decide)]
      by_cases e : d = 0
      · rw [if_pos e, decide_eq_true e]; rfl
      · rw [if_neg e, decide_eq_false e]; rfl
  have mb := dsb_go I' J' Tm Lm Cm xm u2 u3 hl (by rw [hw, h1])
  have hk2 := TK_n k
  have nb2 := NB_n k nb (by decide)
  -- the model up to its first steps, at any heap
  have m20 : ∀ Iz : Nat → Nat → Int32, MT tx N h Iz → MK Iz f t → Iz 67 h = nI ng → ∃ Ia, am_E 126 20 [.ref 49, .null, .null, .null] [] (am_W Iz J' Tm Lm Cm) = am_E 126 35 [.ref 49, .int (nI (16 * h + ng % 16)), .null, .null] [] (am_W Ia J' Tm Lm Cm) ∧ MK Ia (tkf tx N t) (tkt tx N (tkf tx N t)) ∧ FX Iz Ia := by
    intro Iz y1 y2 y3
    obtain ⟨Ia, a1, a2, a3⟩ := mo_next Iz J' Tm Lm Cm y1.1 y2 k
    refine ⟨Ia, ?_, a2, a3⟩
    rw [rg_126_20, y1.2.2, am_inb_ok hh (by decide), if_neg (show ¬ (16 : Int32) = 0 by decide), a1, am_okb, c2x, y3, go_idx h hh ng (by omega)]
  have m0 : am_E 126 0 [.ref 49, .null, .null, .null] [] (am_W I' J' Tm Lm Cm) = (if ng = 16 then am_E 126 12 [.ref 49, .null, .null, .null] [] (am_W (mfl I' (nI 3) (nI f)) J' Tm Lm Cm) else am_E 126 12 [.ref 49, .null, .null, .null] [] (am_W I' J' Tm Lm Cm)) := by
    rw [rg_126_0, hm.2.2, am_inb_ok hh (by decide), c2x, h67, hmk.1]
    by_cases q : ng = 16
    · rw [if_pos (show nI ng = 16 by rw [q]; rfl), if_pos q]
      show Option.bind (am_E 98 0 [.ref 49, .int (nI 3), .int (nI f)] [] _) _ = _
      rw [mo_fail, am_okb]
    · rw [if_neg (show ¬ nI ng = 16 from nb_ne (c := ng) (n := 16) (by omega) (by decide) q), if_neg q]
  have flt' : ∀ K, 0 < K → K < 7 → rof (brk tx t) (bix tx f t) n ng d = K → ∀ Iz : Nat → Nat → Int32, MP h I' Iz → MK Iz f t → WR Iz K f → Iz 67 h = nI ng → am_E 126 0 [.ref 49, .null, .null, .null] [] (am_W I' J' Tm Lm Cm) = am_E 126 20 [.ref 49, .null, .null, .null] [] (am_W Iz J' Tm Lm Cm) → OF N h L C Lm Cm Tm J J' I T I' (am_E 44 42 [.ref 2, .int x1, v2, v3] [.int 1] (am_W I J T L C)) (am_E 127 75 [.ref 49, .int xm, u2, u3] [.long (lN (cod tx f t))] (am_W I' J' Tm Lm Cm)) := by
    intro K h0 h7 hr Iz mp y2 wz y3 e
    rw [hr] at pr
    obtain ⟨Ia, a1, a2, a3⟩ := m20 Iz (MT_p hm mp) y2 y3
    have wa : WR Ia K f := ⟨(a3 49 3 (by omega)).trans wz.1, (a3 49 4 (by omega)).trans wz.2⟩
    obtain ⟨I2, r1, r2, r3, t2, r4, r5⟩ := go_w35 Ia J' Tm Lm Cm (z := ng % 16) .null .null (by omega) (MT_p (MT_p hm mp) (MP_fx a3)) a2 hk2 wa h0 h7
    rcases pr with ⟨_, I1, s1, s2⟩ | ⟨s, _⟩
    · refine OF_mk h0 h7 (by omega) (lift_0 I J T L C x1 v2 v3 c.1 s1) ?_ r2 r4 r5 (CPf_fo s2) (CPt_r T) (MP_t (MP_t mp (MP_fx a3)) r3)
      rw [cod_cvl, mb, e, a1, r1, am_okb, rg_127_89, mt_118 I2 J' Tm Lm Cm xm _ r2 h0 h7]
    · omega
  by_cases q16 : ng = 16
  · refine Or.inl ?_
    rw [if_pos q16] at hra m0
    have mp0 := MP_mfl h I' (nI 3) (nI f)
    have w0 := WR_mfl h3 3 f
    refine flt' 3 (by decide) (by decide) hra (mfl I' (nI 3) (nI f)) mp0 ⟨(mfl_ne (by omega)).trans hmk.1, (mfl_ne (by omega)).trans hmk.2⟩ w0 ((mfl_ne (by omega)).trans h67) ?_
    have e27 : mfl I' (nI 3) (nI f) 49 27 = nI d := (mfl_ne (by omega)).trans h27
    rw [m0, rg_126_12, e27]
    by_cases e : d = 0
    · rw [if_pos (show nI d ≤ 0 by rw [e]; decide)]
    · rw [if_neg (show ¬ nI d ≤ 0 from nI_ge (a := 0) (b := d) (by omega) (by omega)), mo_fail, mfl_w (WR_ne w0 (by decide) (by decide)), am_okb]
  · rw [if_neg q16] at hra m0
    rw [rg_126_12, h27] at m0
    by_cases e0 : d = 0
    · rw [if_pos (show nI d ≤ 0 by rw [e0]; decide)] at m0
      rw [if_pos e0] at hra
      rw [hra, b1, b2] at pr
      rcases pr with ⟨r, _⟩ | ⟨_, I1, r1, r2, r3, r4, r5⟩
      · exact absurd rfl r
      have hdn : dnx false i d = d := by unfold dnx; rw [if_neg (by decide), if_neg (by omega)]
      rw [hdn] at r3
      have lf := lift_go I J T L C x1 v2 v3 c.1 (by omega : i < 41) hfr r1
      obtain ⟨Ia, a1, a2, a3⟩ := m20 I' hm hmk h67
      rw [a1, Nat.mod_eq_of_lt (show ng < 16 by omega)] at m0
      have vv : LV D tx N h n ng d nc (tkf tx N t) I1 T Ia := by
        refine LV_f (by omega) (LV_keep (fun q k hq => ?_) (fun _ => rfl) (fun q k hq => a3 q k (fun e => hq.2.2 ⟨e.1, by omega⟩)) v)
        by_cases e9 : q = 2 ∧ k = 9
        · rw [e9.1, e9.2, r3, h9]
        · exact r5 q k (fun e => hq.2.2 ⟨e.1, by omega⟩)
      have body := go_A (L := L) (C := C) (Lm := Lm) (Cm := Cm) (Tm := Tm) (J := J) (J' := J') (f0 := f) .null .null (by omega : ng < 16) vv r4 hk2 a2 nb2.1 hD nb2.2
      rw [← m0] at body
      rw [cod_cvl]
      rcases body with o | o
      · exact Or.inl (OF_mono (OF_go o lf mb) (CPf_fo r5) (CPt_r T) (MP_fx a3) rfl rfl)
      · exact Or.inr (OG_mono (OG_go o lf mb) (CPf_fo r5) (CPt_r T) (MP_fx a3) rfl rfl (Nat.le_refl f))
    · refine Or.inl ?_
      rw [if_neg e0] at hra
      rw [if_neg (show ¬ nI d ≤ 0 from nI_ge (a := 0) (b := d) (by omega) (by omega)), hmk.1] at m0
      change _ = Option.bind (am_E 98 0 [.ref 49, .int (nI 5), .int (nI f)] [] _) _ at m0
      rw [mo_fail, am_okb] at m0
      exact flt' 5 (by decide) (by decide) hra (mfl I' (nI 5) (nI f)) (MP_mfl h I' _ _) ⟨(mfl_ne (by omega)).trans hmk.1, (mfl_ne (by omega)).trans hmk.2⟩ (WR_mfl h3 5 f) ((mfl_ne (by omega)).trans h67) m0
/-- THE WORD OF A LINE and all behind it -/
theorem gp_word {L : Nat} {C : Nat × Nat} {Lm : Nat} {Cm : Nat × Nat} {Tm : Nat → Nat → Nat} {J : Nat → Nat → Int64} {J' : Nat → Nat → Int64} {D : Nat → Nat} {tx : Nat → Nat} {N h n ng d nc f t g : Nat} {I : Nat → Nat → Int32} {T : Nat → Nat → Nat} {I' : Nat → Nat → Int32} (x1 xm : Int32) (v2 v3 u2 u3 : Value) (p : PRE D tx N h n ng d nc f t g I T I') : OF N h L C Lm Cm Tm J J' I T I' (am_E 44 42 [.ref 2, .int x1, v2, v3] [.int 1] (am_W I J T L C)) (am_E 127 75 [.ref 49, .int xm, u2, u3] [.long (lN (cod tx f t))] (am_W I' J' Tm Lm Cm)) ∨ ∃ q, OG tx N h f I T I' (am_E 44 42 [.ref 2, .int x1, v2, v3] [.int 1] (am_W I J T L C)) (am_E 127 75 [.ref 49, .int xm, u2, u3] [.long (lN (cod tx f t))] (am_W I' J' Tm Lm Cm)) (fcl L C J x1 q) (fmo Lm Cm Tm J' xm (lN (cvl (sl tx f t)))) := by
  have hn : n ≤ 80 := p.1.2.2.2.1.2.2.1
  have hN := p.1.1.2.1
  have hft : f < t := (TK_wl (TX_lt p.1.1) hN p.2.2.1).1
  have hle := oix_le (sl tx f (bae tx t))
  change bix tx f t ≤ 41 at hle
  by_cases hb : bix tx f t < 41 ∧ (brk tx t = true → frm (bix tx f t) = 1)
  · have ew : sl tx f (bae tx t) = wd (bix tx f t) := oix_eq hb.1
    cases hk : brk tx t with
    | true =>
      have h40 : tx (t - 1) = 40 := of_decide_eq_true hk
      obtain ⟨h6, h22⟩ := (frm_sg _ hb.1).mp (hb.2 hk)
      by_cases e80 : n = 80
      · exact Or.inl (gp_full x1 xm v2 v3 u2 u3 p e80 (Or.inr ⟨h40, ew, h6, h22⟩))
      · rcases gp_open (L := L) (C := C) (Lm := Lm) (Cm := Cm) (Tm := Tm) (J := J) (J' := J') x1 xm v2 v3 u2 u3 p (by omega) h40 h6 h22 ew with o | o
        · exact Or.inl o
        · exact Or.inr ⟨_, o⟩
    | false =>
      have h40 : tx (t - 1) ≠ 40 := of_decide_eq_false hk
      rw [(bae_w h40).1] at ew
      generalize bix tx f t = i at *
      have hi := hb.1
      by_cases h39 : i = 39
      · rcases gp_step (L := L) (C := C) (Lm := Lm) (Cm := Cm) (Tm := Tm) (J := J) (J' := J') x1 xm v2 v3 u2 u3 p h39 ew with o | o
        · exact Or.inl o
        · exact Or.inr ⟨_, o⟩
      by_cases h40 : i = 40
      · rcases gp_go (L := L) (C := C) (Lm := Lm) (Cm := Cm) (Tm := Tm) (J := J) (J' := J') x1 xm v2 v3 u2 u3 p h40 ew with o | o
        · exact Or.inl o
        · exact Or.inr ⟨_, o⟩
      by_cases e80 : n = 80
      · exact Or.inl (gp_full x1 xm v2 v3 u2 u3 p e80 (Or.inl ⟨ew, by omega⟩))
      have r : OF N h L C Lm Cm Tm J J' I T I' (am_E 44 42 [.ref 2, .int x1, v2, v3] [.int 1] (am_W I J T L C)) (am_E 127 75 [.ref 49, .int xm, u2, u3] [.long (lN (cod tx f t))] (am_W I' J' Tm Lm Cm)) ∨ OG tx N h f I T I' (am_E 44 42 [.ref 2, .int x1, v2, v3] [.int 1] (am_W I J T L C)) (am_E 127 75 [.ref 49, .int xm, u2, u3] [.long (lN (cod tx f t))] (am_W I' J' Tm Lm Cm)) (fcl L C J x1 (1001 + i)) (fmo Lm Cm Tm J' xm (lN (cvl (sl tx f t)))) := by
        by_cases h23 : i < 23
        · exact gp_cell x1 xm v2 v3 u2 u3 p (by omega) h23 ew
        by_cases h25 : i < 25
        · exact gp_close x1 xm v2 v3 u2 u3 p (by omega) (by omega) ew
        by_cases h28 : i < 28
        · exact gp_jump x1 xm v2 v3 u2 u3 p (by omega) (by omega) (by omega) ew
        by_cases h31 : i < 31
        · exact gp_ret x1 xm v2 v3 u2 u3 p (by omega) (by omega) (by omega) ew
        exact gp_blk x1 xm v2 v3 u2 u3 p (by omega) (by omega) (by omega) ew
      rcases r with o | o
      · exact Or.inl o
      · exact Or.inr ⟨_, o⟩
  · exact Or.inl (gp_none x1 xm v2 v3 u2 u3 p hb)

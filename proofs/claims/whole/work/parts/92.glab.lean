/-! A LABEL; all lines in both readers. -/
theorem numJ_ne {v : Nat} (h : v ≤ 10000000000) : ¬ lg_cmp (lN v) (-1) = 0 := by
  intro e
  have e2 := (lg_cmp_eq _ _).mp e
  have e3 : (-1 : Int64) = lN 18446744073709551615 := by decide +kernel
  rw [e3] at e2
  have := lN_inj64 (by omega) (by decide) e2
  omega
theorem cl_isl (I : Nat → Nat → Int32) (J : Nat → Nat → Int64) (T : Nat → Nat → Nat) (L : Nat) (C : Nat × Nat) {tx : Nat → Nat} {N f t g : Nat} (h : TX I 4 3 1 tx N) (hc : CK I 2 f t g) (hk : TK tx N 2 f t g) : am_E 50 0 [.ref 2] [] (am_W I J T L C) = some (.int (if tx f = 76 ∧ tx (t - 1) = 58 ∧ (numv (sl tx (f + 1) (t - 1))).isSome = true then 1 else 0), (am_W I J T L C)) := by
  have hN := h.2.1
  have hx := TX_lt h
  obtain ⟨hft, htN, _⟩ := TK_wl hx hN hk
  have b1 : bya tx N f = tx f := if_pos (by omega)
  have b2 : bya tx N (t - 1) = tx (t - 1) := if_pos (by omega)
  rw [rg_50_0, hc.1, if_pos (show nI 2 = 2 from rfl), hc.2.1, by_at I J T L C h (by omega), am_okb, am_vIi, rg_50_9, b1]
  by_cases e1 : tx f = 76
  · rw [if_pos (show nI (tx f) = 76 by rw [e1]; rfl), hc.2.2.1, nI_m1 (by omega), by_at I J T L C h (by omega), am_okb, am_vIi, rg_50_18, b2]
    by_cases e2 : tx (t - 1) = 58
    · rw [if_pos (show nI (tx (t - 1)) = 58 by rw [e2]; rfl), hc.2.1, hc.2.2.1, nI_1, nI_m1 (by omega), nu_ok I J T L C h (by omega) (by omega), am_okb, am_vJl, rg_50_31]
      cases hv : numv (sl tx (f + 1) (t - 1)) with
      | none => rw [if_pos (show lg_cmp (numJ none) (-1) = 0 by decide +kernel), if_neg (show ¬ (tx f = 76 ∧ tx (t - 1) = 58 ∧ (none : Option Nat).isSome = true) from fun q => absurd q.2.2 (by decide))]
      | some v => rw [if_pos (show tx f = 76 ∧ tx (t - 1) = 58 ∧ (some v).isSome = true from ⟨e1, e2, rfl⟩), numJ_s, if_neg (numJ_ne (numv_le hv))]
    · rw [if_neg (show ¬ nI (tx (t - 1)) = 58 from nb_ne (c := tx (t - 1)) (n := 58) (hx _ (by omega)) (by decide) e2), if_neg (fun q => e2 q.2.1)]
  · rw [if_neg (show ¬ nI (tx f) = 76 from nb_ne (c := tx f) (n := 76) (hx _ (by omega)) (by decide) e1), if_neg (fun q => e1 q.1)]
/-- the model up to the word behind a label -/
theorem mo_l0 (I : Nat → Nat → Int32) (J : Nat → Nat → Int64) (T : Nat → Nat → Nat) (L : Nat) (C : Nat × Nat) {tx : Nat → Nat} {N f t g : Nat} (h : TX I 50 49 2 tx N) (hf : MK I f t) (hk : TK tx N 2 f t g) : am_E 127 0 [.ref 49, .null, .null, .null] [] (am_W I J T L C) = (if tx f = 76 ∧ tx (t - 1) = 58 then Option.bind (am_E 118 0 [.ref 49, .int (nI (t - 1))] [] (am_W I J T L C)) (fun z1 => am_vI z1.1 fun u1 => am_E 127 20 [.ref 49, .int (nI (t - 1)), .null, .null] [.int u1] z1.2) else am_E 127 66 [.ref 49, .int (nI (t - 1)), .null, .null] [] (am_W I J T L C)) := by
  have hN := h.2.1
  have hx := TX_lt h
  obtain ⟨hft, htN, _⟩ := TK_wl hx hN hk
  have b1 : bya tx t f = tx f := if_pos hft
  rw [rg_127_0, hf.1, mo_byte I J T L C h hf.2 htN (by omega), am_okb, am_vIi, hf.2, nI_m1 (by omega), rg_127_9, b1]
  by_cases e1 : tx f = 76
  · rw [if_pos (show nI (tx f) = 76 by rw [e1]; rfl), am_inb_ok (by omega) (by decide), nI_clamp (by omega), (h.2.2 (t - 1) (by omega)).1]
    by_cases e2 : tx (t - 1) = 58
    · rw [if_pos (show nI (tx (t - 1)) = 58 by rw [e2]; rfl), if_pos (show tx f = 76 ∧ tx (t - 1) = 58 from ⟨e1, e2⟩)]
    · rw [if_neg (show ¬ nI (tx (t - 1)) = 58 from nb_ne (c := tx (t - 1)) (n := 58) (hx _ (by omega)) (by decide) e2), if_neg (fun q => e2 q.2)]
  · rw [if_neg (show ¬ nI (tx f) = 76 from nb_ne (c := tx f) (n := 76) (hx _ (by omega)) (by decide) e1), if_neg (fun q => e1 q.1)]
theorem lb_w47 (I : Nat → Nat → Int32) (J : Nat → Nat → Int64) (T : Nat → Nat → Nat) (L : Nat) (C : Nat × Nat) {tx : Nat → Nat} {N h t k p : Nat} (x1 x2 : Int32) (v3 : Value) (hm : MT tx N h I) (ht : I 49 26 = nI t) (htN : t ≤ N) (w : WR I k p) (h0 : 0 < k) (h7 : k < 7) : ∃ I2, am_E 127 47 [.ref 49, .int x1, .int x2, v3] [] (am_W I J T L C) = some (.null, am_W I2 J T L C) ∧ WR I2 k p ∧ FX I I2 ∧ ∃ t2, t2 ≤ N ∧ I2 49 26 = nI t2 := by
  obtain ⟨I1, e1, e2, e3, e4⟩ := nx_ok I J T L C hm.1 htN ht
  have w' : WR I1 k p := ⟨(e4 49 3 (by omega)).trans w.1, (e4 49 4 (by omega)).trans w.2⟩
  refine ⟨I1, ?_, w', e4, _, (TK_le (TK_nx htN)).2, e3⟩
  have hp : (0 : Int32) < I1 49 3 := by rw [w'.1]; exact nI_lt (a := 0) (b := k) h0 (by omega)
  rw [rg_127_47, if_neg (WR_ne w h0 h7), rg_127_64, e1, am_okb, rg_127_66, if_pos hp]
theorem lb_w39 (I : Nat → Nat → Int32) (J : Nat → Nat → Int64) (T : Nat → Nat → Nat) (L : Nat) (C : Nat × Nat) {tx : Nat → Nat} {N h t k p : Nat} (x1 x2 : Int32) (v3 : Value) (hm : MT tx N h I) (ht : I 49 26 = nI t) (htN : t ≤ N) (w : WR I k p) (h0 : 0 < k) (h7 : k < 7) : ∃ I2, am_E 127 39 [.ref 49, .int x1, .int x2, v3] [] (am_W I J T L C) = some (.null, am_W I2 J T L C) ∧ WR I2 k p ∧ FX I I2 ∧ ∃ t2, t2 ≤ N ∧ I2 49 26 = nI t2 := by
  obtain ⟨I2, r1, r2⟩ := lb_w47 I J T L C x1 x2 v3 hm ht htN w h0 h7
  refine ⟨I2, ?_, r2⟩
  rw [rg_127_39]
  by_cases e : I 49 27 ≤ 0
  · rw [if_pos e]; exact r1
  · rw [if_neg e, mo_fail, mfl_w (WR_ne w h0 h7), am_okb]; exact r1
theorem wd_58 : ∀ i, i < 41 → (wd i).getD ((wd i).length - 1) 0 ≠ 58 := by decide +kernel
theorem mo_32 {h s : Nat} (hh : h < 2) : 32 * nI h + nI s = nI (32 * h + s) := by
  have q1 : ∀ h, h < 2 → 32 * nI h = nI (32 * h) := by decide +kernel
  rw [q1 h hh, nI_add]
/-- a line that begins with a word -/
theorem ln_word {L : Nat} {C : Nat × Nat} {Lm : Nat} {Cm : Nat × Nat} {Tm : Nat → Nat → Nat} {J : Nat → Nat → Int64} {J' : Nat → Nat → Int64} {D : Nat → Nat} {tx : Nat → Nat} {N h n ng d nc f0 : Nat} {I : Nat → Nat → Int32} {T : Nat → Nat → Nat} {I' : Nat → Nat → Int32} {kk f t g : Nat} (x1 : Int32) (v2 v3 w1 w2 w3 : Value) (hx1 : ¬ 700 < x1) (v : LV D tx N h n ng d nc f I T I') (ck : CK I kk f t g) (hk : TK tx N kk f t g) (hmk : MK I' f t) (nb : NB kk f nc) (hD : D n = d) (hf0 : f0 ≤ f) (hkk : kk = 2) : OFL N h w1 w2 w3 L C Lm Cm Tm J J' I T I' (am_E 44 27 [.ref 2, .int x1, v2, v3] [] (am_W I J T L C)) (Option.bind (am_E 127 0 [.ref 49, .null, .null, .null] [] (am_W I' J' Tm Lm Cm)) (fun z1 => am_E 129 18 [.ref 49, w1, w2, w3] [] z1.2)) ∨ OGL tx N h f0 w1 w2 w3 x1 L C Lm Cm Tm J J' I T I' (am_E 44 27 [.ref 2, .int x1, v2, v3] [] (am_W I J T L C)) (Option.bind (am_E 127 0 [.ref 49, .null, .null, .null] [] (am_W I' J' Tm Lm Cm)) (fun z1 => am_E 129 18 [.ref 49, w1, w2, w3] [] z1.2)) := by
  subst hkk
  obtain ⟨hm, h3, h4⟩ := LV_mt v
  have hN := hm.1.2.1
  have hh := hm.2.1
  obtain ⟨hft, htN, hl⟩ := TK_wl (TX_lt hm.1) hN hk
  have w := v.2.2.2.1
  have h27 : I' 49 27 = nI d := w.2.2.2.2.2.2.2.2.2.2
  have h9 : I 2 9 = nI d := w.2.2.2.2.2.2.2.2.2.1
  have hd8 : d ≤ 8 := w.2.2.2.2.2.2.2.2.1
  have hn : n ≤ 80 := w.2.2.1
  have h5n : I 5 6 = nI n := w.2.2.2.1
  have h56 : I' 56 h = nI n := w.2.2.2.2.1
  have ec : am_E 44 27 [.ref 2, .int x1, v2, v3] [] (am_W I J T L C) = am_E 44 35 [.ref 2, .int x1, v2, v3] [.int (if tx f = 76 ∧ tx (t - 1) = 58 ∧ (numv (sl tx (f + 1) (t - 1))).isSome = true then 1 else 0)] (am_W I J T L C) := by
    rw [rg_44_27, if_neg hx1, ck.1, if_neg (show ¬ nI 2 = 0 by decide), cl_isl I J T L C v.1 ck hk, am_okb, am_vIi]
  have em := mo_l0 I' J' Tm Lm Cm hm.1 hmk hk
  by_cases hlb : tx f = 76 ∧ tx (t - 1) = 58
  · rw [if_pos hlb, mo_lab I' J' Tm Lm Cm (e := t - 1) hm.1 hmk.1 hmk.2 hk (by omega), am_okb, am_vIi] at em
    have el : lef tx f t (t - 1) 76 31 = smf tx (f + 1) (t - 1) 31 := by
      unfold lef
      rw [show bya tx t f = tx f from if_pos hft, if_pos hlb.1]
    rw [el] at em
    -- the model behind a fault of the label's number
    have mflt : smf tx (f + 1) (t - 1) 31 ≠ 0 → ∃ I2, am_E 127 0 [.ref 49, .null, .null, .null] [] (am_W I' J' Tm Lm Cm) = some (.null, am_W I2 J' Tm Lm Cm) ∧ WR I2 (smf tx (f + 1) (t - 1) 31) f ∧ MP h I' I2 ∧ ∃ t2, t2 ≤ N ∧ I2 49 26 = nI t2 := by
      intro q
      have s7 := smf_lt tx (f + 1) (t - 1) 31
      have w2 := WR_mfl h3 (smf tx (f + 1) (t - 1) 31) f
      have mp := MP_mfl h I' (nI (smf tx (f + 1) (t - 1) 31)) (nI f)
      have ef : mfo I' (smf tx (f + 1) (t - 1) 31) f = mfl I' (nI (smf tx (f + 1) (t - 1) 31)) (nI f) := if_neg q
      rw [ef] at em
      generalize mvo (smf tx (f + 1) (t - 1) 31) (nI (smv tx (f + 1) (t - 1))) = V at *
      generalize smf tx (f + 1) (t - 1) 31 = K at *
      obtain ⟨I2, r1, r2, r3, r4⟩ := lb_w39 (mfl I' (nI K) (nI f)) J' Tm Lm Cm (nI (t - 1)) V .null (MT_p hm mp) ((mfl_ne (by omega)).trans hmk.2) htN w2 (by omega) s7
      refine ⟨I2, ?_, r2, MP_t mp (MP_fx r3), r4⟩
      rw [em, rg_127_20, if_neg (WR_ne w2 (by omega) s7)]
      exact r1
    cases hv : numv (sl tx (f + 1) (t - 1)) with
    | none =>
      refine Or.inl ?_
      have s1 : smf tx (f + 1) (t - 1) 31 = 1 := by unfold smf; rw [hv]
      rw [s1] at mflt
      obtain ⟨I2, r1, r2, r3, t2, r4, r5⟩ := mflt (by decide)
      rw [if_neg (fun q => absurd q.2.2 (by rw [hv]; decide)), rg_44_35, if_pos rfl, rg_44_39] at ec
      have ne : ∀ j, j < 41 → sl tx f t ≠ wd j := fun j hj e => by
        have q := wd_58 j hj
        rw [← e, sl_len, sl_get tx (by omega), show f + (t - f - 1) = t - 1 by omega] at q
        exact q hlb.2
      obtain ⟨b1, b2⟩ := bae_w (show tx (t - 1) ≠ 40 by rw [hlb.2]; decide)
      have hr : rof (brk tx t) (bix tx f t) n ng d = 1 := by
        refine if_neg (fun q => ?_)
        have ew := oix_eq (w := sl tx f (bae tx t)) q.1
        rw [b1] at ew
        exact ne _ (by rw [← b1]; exact q.1) ew
      have pr := pr_op J L C (I' := I') (f := f) ⟨v, ck, hk, hmk, nb, hD⟩
      rw [hr] at pr
      rcases pr with ⟨_, I1, s1, s2⟩ | ⟨s, _⟩
      · rw [ec]
        exact OF_ln w1 w2 w3 hm (OF_mk (by decide) (by decide) (by omega) (lift_0 I J T L C x1 v2 v3 ck.1 s1) r1 r2 r4 r5 (CPf_fo s2) (CPt_r T) r3) rfl
      · exact absurd s (by decide)
    | some u =>
      have hlen : 3 ≤ t - f := by
        rcases Nat.lt_or_ge (f + 1) (t - 1) with q | q
        · omega
        · rw [sl_nil q, show numv [] = none from rfl] at hv; cases hv
      have hu := numv_le hv
      have esv : smv tx (f + 1) (t - 1) = u := by unfold smv; rw [hv]; rfl
      have esm : smf tx (f + 1) (t - 1) 31 = if 2 < t - 1 - (f + 1) ∨ 31 < u then 2 else 0 := by unfold smf; rw [hv]
      rw [if_pos (show tx f = 76 ∧ tx (t - 1) = 58 ∧ (numv (sl tx (f + 1) (t - 1))).isSome = true from ⟨hlb.1, hlb.2, by rw [hv]; rfl⟩), rg_44_35, if_neg (show ¬ (1 : Int32) = 0 by decide), rg_51_0, ck.2.1, ck.2.2.1, nI_1, nI_m1 (by omega), nu_ok I J T L C v.1 (by omega) (by omega), hv, numJ_s, am_okb, am_vJl, rg_51_11, ck.2.1, ck.2.2.1] at ec
      have es : nI t - nI f = nI (t - f) := by
        have := nI_subl f (t - f)
        rw [show f + (t - f) = t by omega] at this
        exact this
      have es2 : nI (t - f) - 2 = nI (t - f - 2) := by
        have := nI_subl 2 (t - f - 2)
        rw [show 2 + (t - f - 2) = t - f by omega] at this
        have q : nI (t - f) - 2 = nI (2 + (t - f - 2)) - nI 2 := by rw [show 2 + (t - f - 2) = t - f by omega]; rfl
        rw [q, nI_subl]
      rw [es, es2] at ec
      have fail : ∀ K, am_E 45 0 [.ref 2, .int (nI K)] [] (am_W I J T L C) = some (.int 0, am_W (flt I K f) J T L C) := fun K => cl_fail I J T L C ck.2.1
      have c29 : am_E 51 29 [.ref 2, .long (lN u), .null, .null] [] (am_W I J T L C) = some (.int 0, am_W (flt I 2 f) J T L C) := by
        rw [rg_51_29]
        show Option.bind (am_E 45 0 [.ref 2, .int (nI 2)] [] _) _ = _
        rw [fail 2, am_okb, am_vIi, rg_51_32]
        rfl
      have c38 : ∀ Ix : Nat → Nat → Int32, am_E 44 38 [.ref 2, .int x1, v2, v3] [.int 0] (am_W Ix J T L C) = some (.int 0, am_W Ix J T L C) := fun Ix => by
        rw [rg_44_38, if_pos rfl, rg_44_42, if_pos rfl, rg_44_78, if_pos rfl]
      have c38' : ∀ Ix : Nat → Nat → Int32, am_E 44 38 [.ref 2, .int x1, v2, v3] [.int 1] (am_W Ix J T L C) = am_E 44 42 [.ref 2, .int x1, v2, v3] [.int 1] (am_W Ix J T L C) := fun Ix => by
        rw [rg_44_38, if_neg (by decide), rg_44_39]
      by_cases hbad : 2 < t - 1 - (f + 1) ∨ 31 < u
      · refine Or.inl ?_
        rw [if_pos hbad] at esm
        rw [esm] at mflt
        obtain ⟨I2, r1, r2, r3, t2, r4, r5⟩ := mflt (by decide)
        refine OF_ln w1 w2 w3 hm (OF_mk (Ia := I) (k := 2) (p := f) (by decide) (by decide) (by omega) ?_ r1 r2 r4 r5 (CPf_r I) (CPt_r T) r3) rfl
        rw [ec]
        by_cases q1 : 2 < t - f - 2
        · rw [if_pos (show (2 : Int32) < nI (t - f - 2) from nI_lt (a := 2) (b := t - f - 2) q1 (by omega)), c29, am_okb, am_vIi, c38]
        · have q2 : 31 < u := by omega
          rw [if_neg (show ¬ (2 : Int32) < nI (t - f - 2) from nI_nlt (a := 2) (b := t - f - 2) (by omega) (by decide)), if_neg (show ¬ lg_cmp (lN u) 32 < 0 from fun e => absurd ((pk_lLT (a := u) (b := 32) (by omega) (by omega)).mp ((lg_cmp_lt _ _).mp e)) (show ¬ u < 32 by omega)), c29, ite_self, am_okb, am_vIi, c38]
      · rw [if_neg hbad] at esm
        have u32 : u < 32 := by omega
        rw [esm, esv] at em
        have ef : mfo I' 0 f = I' := if_pos rfl
        have ev : mvo 0 (nI u) = nI u := rfl
        have vl := v.2.2.2.2.2.1 u u32
        have cl2 : Int32.toNatClampNeg (nI (32 * h + u)) = 32 * h + u := nI_clamp (by omega)
        rw [ef, ev, rg_127_20, if_pos h3, hm.2.2, mo_32 hh, am_inb_ok (by omega) (by decide), cl2, vl.1] at em
        have nlt0 : ¬ lg_cmp (lN u) 0 < 0 := fun e => absurd ((pk_lLT (a := u) (b := 0) (by omega) (by omega)).mp ((lg_cmp_lt _ _).mp e)) (show ¬ u < 0 by omega)
        have lt32 : lg_cmp (lN u) 32 < 0 := (lg_cmp_lt _ _).mpr ((pk_lLT (a := u) (b := 32) (by omega) (by omega)).mpr u32)
        rw [if_neg (show ¬ (2 : Int32) < nI (t - f - 2) from nI_nlt (a := 2) (b := t - f - 2) (by omega) (by decide)), if_neg nlt0, if_pos lt32, lN_i, lf_at (q := 19) (N := 32) rfl u32 (by decide), am_okb, am_vIi, rg_51_41] at ec
        by_cases e19 : I 19 u = -1
        · rw [if_pos e19, h9] at ec
          rw [e19, if_pos (show (-1 : Int32) < 0 by decide), rg_127_39, h27] at em
          by_cases e0 : d = 0
          · rw [if_pos (show nI d ≤ 0 by rw [e0]; decide)] at ec em
            rw [rg_127_47, if_pos h3, hm.2.2, am_inb_ok hh (by decide), mo_32 hh, am_inb_ok (by omega) (by decide), cl2, nI_clamp (by omega : h < 2 ^ 31), h56] at em
            rw [h5n, lf_put (q := 19) (N := 32) rfl u32 (by decide), am_okb, rg_51_62] at ec
            have vb : LV D tx N h n ng d nc f (am_up I 19 u (nI n)) T (am_up I' 57 (32 * h + u) (nI n)) := LV_lab u32 (hD.trans e0) v
            obtain ⟨hmb, h3b, _⟩ := LV_mt vb
            obtain ⟨I1, c1, c2, c3⟩ := ad_ok (am_up I 19 u (nI n)) J T L C vb.1 htN ((am_up_ne (by omega)).trans ck.2.2.1)
            obtain ⟨I2, n1, n2, n3⟩ := mo_next (am_up I' 57 (32 * h + u) (nI n)) J' Tm Lm Cm hmb.1 ⟨(am_up_ne (by omega)).trans hmk.1, (am_up_ne (by omega)).trans hmk.2⟩ hk
            have hk2 := TK_n hk
            have nb2 := NB_n hk nb (by decide)
            have vf : LV D tx N h n ng d nc (tkf tx N t) I1 T I2 := LV_f (by omega) (LV_keep (fun q k hq => c3 q k (fun e => hq.2.2 ⟨e.1, by omega⟩)) (fun _ => rfl) (fun q k hq => n3 q k (fun e => hq.2.2 ⟨e.1, by omega⟩)) vb)
            rw [rg_127_64, n1, am_okb] at em
            rw [c1, am_okb, rg_51_64, am_okb, am_vIi, c38'] at ec
            have cp : CPf I I1 := CPf_t (CPf_u I (Or.inr (by decide))) (CPf_ft c3)
            have mp : MP h I' I2 := MP_t (MP_u I' (Or.inr (Or.inr (Or.inr ⟨by decide, by decide, by show 32 * h ≤ 32 * h + u ∧ 32 * h + u < 32 * h + 32; omega⟩)))) (MP_fx n3)
            have r := ln_body (L := L) (C := C) (Lm := Lm) (Cm := Cm) (Tm := Tm) (J := J) (J' := J') (f0 := f0) x1 (nI (t - 1)) v2 v3 (.int (nI u)) .null w1 w2 w3 vf c2 hk2 n2 nb2.1 hD (by omega)
            rw [ec, em]
            rcases r with o | o
            · exact Or.inl (OFL_mono o cp (CPt_r T) mp rfl rfl)
            · exact Or.inr (OGL_mono o cp (CPt_r T) mp rfl rfl (Nat.le_refl f0))
          · refine Or.inl ?_
            rw [if_neg (show ¬ nI d ≤ 0 from nI_ge (a := 0) (b := d) (by omega) (by omega))] at ec em
            rw [hmk.1] at em
            change _ = Option.bind (am_E 98 0 [.ref 49, .int (nI 5), .int (nI f)] [] _) _ at em
            rw [mo_fail, am_okb] at em
            have wr2 := WR_mfl h3 5 f
            have mp := MP_mfl h I' (nI 5) (nI f)
            obtain ⟨I2, r1, r2, r3, t2, r4, r5⟩ := lb_w47 (mfl I' (nI 5) (nI f)) J' Tm Lm Cm (nI (t - 1)) (nI u) .null (MT_p hm mp) ((mfl_ne (by omega)).trans hmk.2) htN wr2 (by decide) (by decide)
            refine OF_ln w1 w2 w3 hm (OF_mk (Ia := I) (k := 5) (p := f) (by decide) (by decide) (by omega) ?_ (em.trans r1) r2 r4 r5 (CPf_r I) (CPt_r T) (MP_t mp (MP_fx r3))) rfl
            have c45 : am_E 45 0 [.ref 2, .int 5] [] (am_W I J T L C) = some (.int 0, am_W (flt I 5 f) J T L C) := fail 5
            rw [ec, c45, am_okb, am_vIi, rg_51_53]
            exact c38 _
        · refine Or.inl ?_
          rw [if_neg e19] at ec
          obtain ⟨tt, t1, t2', t3⟩ := vl.2.resolve_left e19
          rw [t2', if_neg (show ¬ nI tt < 0 from nI_pos (by omega)), hmk.1] at em
          change _ = Option.bind (am_E 98 0 [.ref 49, .int (nI 4), .int (nI f)] [] _) _ at em
          rw [mo_fail, am_okb] at em
          have wr2 := WR_mfl h3 4 f
          have mp := MP_mfl h I' (nI 4) (nI f)
          obtain ⟨I2, r1, r2, r3, t2, r4, r5⟩ := lb_w39 (mfl I' (nI 4) (nI f)) J' Tm Lm Cm (nI (t - 1)) (nI u) .null (MT_p hm mp) ((mfl_ne (by omega)).trans hmk.2) htN wr2 (by decide) (by decide)
          refine OF_ln w1 w2 w3 hm (OF_mk (Ia := I) (k := 4) (p := f) (by decide) (by decide) (by omega) ?_ (em.trans r1) r2 r4 r5 (CPf_r I) (CPt_r T) (MP_t mp (MP_fx r3))) rfl
          have c45 : am_E 45 0 [.ref 2, .int 4] [] (am_W I J T L C) = some (.int 0, am_W (flt I 4 f) J T L C) := fail 4
          rw [ec, c45, am_okb, am_vIi, rg_51_46]
          exact c38 _
  · rw [if_neg hlb] at em
    rw [if_neg (fun q => hlb ⟨q.1, q.2.1⟩), rg_44_35, if_pos rfl, rg_44_39] at ec
    rw [ec, em]
    exact ln_body x1 (nI (t - 1)) v2 v3 .null .null w1 w2 w3 v ck hk hmk nb hD hf0
/-- a line -/
theorem ln_one {L : Nat} {C : Nat × Nat} {Lm : Nat} {Cm : Nat × Nat} {Tm : Nat → Nat → Nat} {J : Nat → Nat → Int64} {J' : Nat → Nat → Int64} {D : Nat → Nat} {tx : Nat → Nat} {N h n ng d nc f0 : Nat} {I : Nat → Nat → Int32} {T : Nat → Nat → Nat} {I' : Nat → Nat → Int32} {kk f t g : Nat} (x1 : Int32) (v2 v3 w1 w2 w3 : Value) (hx1 : ¬ 700 < x1) (v : LV D tx N h n ng d nc f I T I') (ck : CK I kk f t g) (hk : TK tx N kk f t g) (hmk : MK I' f t) (nb : NB kk f nc) (hD : D n = d) (hf0 : f0 ≤ f) (hk0 : kk ≠ 0) : OFL N h w1 w2 w3 L C Lm Cm Tm J J' I T I' (am_E 44 27 [.ref 2, .int x1, v2, v3] [] (am_W I J T L C)) (am_E 129 7 [.ref 49, w1, w2, w3] [] (am_W I' J' Tm Lm Cm)) ∨ OGL tx N h f0 w1 w2 w3 x1 L C Lm Cm Tm J J' I T I' (am_E 44 27 [.ref 2, .int x1, v2, v3] [] (am_W I J T L C)) (am_E 129 7 [.ref 49, w1, w2, w3] [] (am_W I' J' Tm Lm Cm)) := by
  obtain ⟨hm, h3, h4⟩ := LV_mt v
  have hN := hm.1.2.1
  have e7 : am_E 129 7 [.ref 49, w1, w2, w3] [] (am_W I' J' Tm Lm Cm) = am_E 129 15 [.ref 49, w1, w2, w3] [.int (am_b01 (decide (kk = 1)))] (am_W I' J' Tm Lm Cm) := by
    rw [rg_129_7, if_pos h3, mo_end I' J' Tm Lm Cm hm.1 hmk.1 hk, am_okb, am_vIi, rg_129_12, decide_eq_false hk0, if_pos (show am_b01 false = 0 from rfl), mo_le I' J' Tm Lm Cm hm.1 hmk.1 hk, am_okb, am_vIi]
  rcases TK_p hk with e | e | e
  · obtain ⟨rfl, _⟩ := e
    have e8 : am_E 129 7 [.ref 49, w1, w2, w3] [] (am_W I' J' Tm Lm Cm) = Option.bind (am_E 127 0 [.ref 49, .null, .null, .null] [] (am_W I' J' Tm Lm Cm)) (fun z1 => am_E 129 18 [.ref 49, w1, w2, w3] [] z1.2) := by
      rw [e7, rg_129_15, if_pos (show am_b01 (decide (2 = 1)) = 0 by decide)]
    rw [e8]
    exact ln_word x1 v2 v3 w1 w2 w3 hx1 v ck hk hmk nb hD hf0 rfl
  · obtain ⟨rfl, e2, e3, e4⟩ := e
    have e8 : am_E 129 7 [.ref 49, w1, w2, w3] [] (am_W I' J' Tm Lm Cm) = Option.bind (some (Value.null, (am_W I' J' Tm Lm Cm))) (fun z1 => am_E 129 18 [.ref 49, w1, w2, w3] [] z1.2) := by
      rw [e7, rg_129_15, if_neg (show ¬ am_b01 (decide (1 = 1)) = 0 by decide), am_okb]
    have ec : am_E 44 27 [.ref 2, .int x1, v2, v3] [] (am_W I J T L C) = am_E 44 42 [.ref 2, .int x1, v2, v3] [.int 1] (am_W I J T L C) := by
      rw [rg_44_27, if_neg hx1, ck.1, if_neg (show ¬ nI 1 = 0 by decide), rg_50_0, ck.1, if_neg (show ¬ nI 1 = 2 by decide), am_okb, am_vIi, rg_44_35, if_pos rfl, rg_44_39]
    have r := ln_body (L := L) (C := C) (Lm := Lm) (Cm := Cm) (Tm := Tm) (J := J) (J' := J') (f0 := f0) x1 0 v2 v3 .null .null w1 w2 w3 v ck hk hmk nb hD hf0
    have e66 : am_E 127 66 [.ref 49, .int 0, .null, .null] [] (am_W I' J' Tm Lm Cm) = some (.null, (am_W I' J' Tm Lm Cm)) := by
      rw [rg_127_66, h3, if_neg (show ¬ (0 : Int32) < 0 by decide), mo_le I' J' Tm Lm Cm hm.1 hmk.1 hk, am_okb, am_vIi, rg_127_71, if_neg (show ¬ am_b01 (decide (1 = 1)) = 0 by decide)]
    rw [e66] at r
    rw [e8, ec]
    exact r
  · exact absurd e.1 hk0
/-- all lines: a fault, or both at the text's end -/
theorem ln_all {L : Nat} {C : Nat × Nat} {Lm : Nat} {Cm : Nat × Nat} {Tm : Nat → Nat → Nat} {J : Nat → Nat → Int64} {J' : Nat → Nat → Int64} {tx : Nat → Nat} {N h : Nat} (w1 w2 w3 : Value) : ∀ (e m : Nat) (D : Nat → Nat) (n ng d nc kk f t g : Nat) (I : Nat → Nat → Int32) (T : Nat → Nat → Nat) (I' : Nat → Nat → Int32) (v2 v3 : Value), N ≤ f + e → m ≤ f → LV D tx N h n ng d nc f I T I' → CK I kk f t g → TK tx N kk f t g → MK I' f t → NB kk f nc → D n = d → OFL N h w1 w2 w3 L C Lm Cm Tm J J' I T I' (am_E 44 27 [.ref 2, .int (nI m), v2, v3] [] (am_W I J T L C)) (am_E 129 7 [.ref 49, w1, w2, w3] [] (am_W I' J' Tm Lm Cm)) ∨ ∃ (D' : Nat → Nat) (n' ng' d' nc' : Nat) (I1 : Nat → Nat → Int32) (T1 : Nat → Nat → Nat) (I2 : Nat → Nat → Int32) (x1' : Int32) (v2' v3' : Value), am_E 44 27 [.ref 2, .int (nI m), v2, v3] [] (am_W I J T L C) = am_E 44 94 [.ref 2, .int x1', v2', v3'] [] (am_W I1 J T1 L C) ∧ am_E 129 7 [.ref 49, w1, w2, w3] [] (am_W I' J' Tm Lm Cm) = am_E 129 21 [.ref 49, w1, w2, w3] [] (am_W I2 J' Tm Lm Cm) ∧ LV D' tx N h n' ng' d' nc' N I1 T1 I2 ∧ I1 2 5 = nI N ∧ nc' < 400 ∧ D' n' = d' ∧ CPf I I1 ∧ CPt T T1 ∧ MP h I' I2 := by
  intro e
  induction e with
  | zero =>
    intro m D n ng d nc kk f t g I T I' v2 v3 he hmf v ck hk hmk nb hD
    obtain ⟨hm, h3, h4⟩ := LV_mt v
    have hN := hm.1.2.1
    have k0 : kk = 0 := by
      rcases TK_p hk with e | e | e <;> omega
    subst k0
    have hfN : f = N := by
      rcases TK_p hk with e | e | e <;> omega
    subst hfN
    refine Or.inr ⟨D, n, ng, d, nc, I, T, I', nI m, v2, v3, ?_, ?_, v, ck.2.1, by have := nb.1; omega, hD, CPf_r I, CPt_r T, MP_r h I'⟩
    · rw [rg_44_27, if_neg (show ¬ (700 : Int32) < nI m from nI_nlt (a := 700) (b := m) (by omega) (by decide)), ck.1, if_pos (show nI 0 = 0 from rfl)]
    · rw [rg_129_7, if_pos h3, mo_end I' J' Tm Lm Cm hm.1 hmk.1 hk, am_okb, am_vIi, rg_129_12, if_neg (show ¬ am_b01 (decide (0 = 0)) = 0 by decide)]
  | succ e ih =>
    intro m D n ng d nc kk f t g I T I' v2 v3 he hmf v ck hk hmk nb hD
    obtain ⟨hm, h3, h4⟩ := LV_mt v
    have hN := hm.1.2.1
    have hle := TK_le hk
    have hx : ¬ (700 : Int32) < nI m := nI_nlt (a := 700) (b := m) (by omega) (by decide)
    by_cases k0 : kk = 0
    · subst k0
      have hfN : f = N := by
        rcases TK_p hk with e | e | e <;> omega
      subst hfN
      refine Or.inr ⟨D, n, ng, d, nc, I, T, I', nI m, v2, v3, ?_, ?_, v, ck.2.1, by have := nb.1; omega, hD, CPf_r I, CPt_r T, MP_r h I'⟩
      · rw [rg_44_27, if_neg hx, ck.1, if_pos (show nI 0 = 0 from rfl)]
      · rw [rg_129_7, if_pos h3, mo_end I' J' Tm Lm Cm hm.1 hmk.1 hk, am_okb, am_vIi, rg_129_12, if_neg (show ¬ am_b01 (decide (0 = 0)) = 0 by decide)]
    · rcases ln_one (L := L) (C := C) (Lm := Lm) (Cm := Cm) (Tm := Tm) (J := J) (J' := J') (f0 := f) (nI m) v2 v3 w1 w2 w3 hx v ck hk hmk nb hD (Nat.le_refl f) k0 with o | o
      · exact Or.inl o
      · obtain ⟨D', n', ng', d', nc', k', f', t', g', I1, T1, I2, v2', v3', z1, z2, z3, z4, z5, z6, z7, z8, z9, z10, z11, z12⟩ := o
        rw [nI_1] at z1
        rcases ih (m + 1) D' n' ng' d' nc' k' f' t' g' I1 T1 I2 v2' v3' (by omega) (by omega) z3 z4 z5 z6 z7 z8 with o | ⟨D2, n2, ng2, d2, nc2, I3, T3, I4, x1', y2, y3, q1, q2, q3, q4, q4b, q5, q6, q7, q8⟩
        · exact Or.inl (OFL_mono o z10 z11 z12 z1 z2)
        · exact Or.inr ⟨D2, n2, ng2, d2, nc2, I3, T3, I4, x1', y2, y3, z1.trans q1, z2.trans q2, q3, q4, q4b, q5, CPf_t z10 q6, fun q k x => (q7 q k x).trans (z11 q k x), MP_t z12 q8⟩

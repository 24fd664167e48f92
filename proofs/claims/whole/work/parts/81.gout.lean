/-! WHAT A LINE COMES TO in both readers. -/
def PRE (D : Nat → Nat) (tx : Nat → Nat) (N h n ng d nc f t g : Nat) (I : Nat → Nat → Int32) (T : Nat → Nat → Nat) (I' : Nat → Nat → Int32) : Prop := LV D tx N h n ng d nc f I T I' ∧ CK I 2 f t g ∧ TK tx N 2 f t g ∧ MK I' f t ∧ NB 2 f nc ∧ D n = d
/-- a fault, the same in both -/
def OF (N h : Nat) (L : Nat) (C : Nat × Nat) (Lm : Nat) (Cm : Nat × Nat) (Tm : Nat → Nat → Nat) (J J' : Nat → Nat → Int64) (I : Nat → Nat → Int32) (T : Nat → Nat → Nat) (I' : Nat → Nat → Int32) (cl mo : am_R) : Prop := ∃ k p I1 T1 I2 t2, 0 < k ∧ k < 7 ∧ p ≤ 700 ∧ cl = some (.int 0, am_W I1 J T1 L C) ∧ mo = some (.null, am_W I2 J' Tm Lm Cm) ∧ I1 2 2 = nI k ∧ I1 2 3 = nI p ∧ WR I2 k p ∧ t2 ≤ N ∧ I2 49 26 = nI t2 ∧ CPf I I1 ∧ CPt T T1 ∧ MP h I' I2
/-- no fault: the relation stands again, at a later token -/
def OG (tx : Nat → Nat) (N h f : Nat) (I : Nat → Nat → Int32) (T : Nat → Nat → Nat) (I' : Nat → Nat → Int32) (cl mo : am_R) (fc : (Nat → Nat → Int32) → (Nat → Nat → Nat) → am_R) (fm : (Nat → Nat → Int32) → am_R) : Prop := ∃ (D : Nat → Nat) (n ng d nc k f' t g : Nat) (I1 : Nat → Nat → Int32) (T1 : Nat → Nat → Nat) (I2 : Nat → Nat → Int32), cl = fc I1 T1 ∧ mo = fm I2 ∧ LV D tx N h n ng d nc f' I1 T1 I2 ∧ CK I1 k f' t g ∧ TK tx N k f' t g ∧ MK I2 f' t ∧ NB k f' nc ∧ D n = d ∧ f < f' ∧ CPf I I1 ∧ CPt T T1 ∧ MP h I' I2
theorem LV_mt {D : Nat → Nat} {tx : Nat → Nat} {N h n ng d nc f : Nat} {I : Nat → Nat → Int32} {T : Nat → Nat → Nat} {I' : Nat → Nat → Int32} (v : LV D tx N h n ng d nc f I T I') : MT tx N h I' ∧ I' 49 3 = 0 ∧ I' 49 4 = -1 := ⟨⟨v.2.1, v.2.2.2.1.1, v.2.2.2.1.2.1⟩, v.2.2.1.2.2.1, v.2.2.1.2.2.2⟩
theorem flt_2 (I : Nat → Nat → Int32) (k p : Nat) : flt I k p 2 2 = nI k ∧ flt I k p 2 3 = nI p := ⟨(am_up_ne (by omega)).trans (am_up_here I 2 2 (nI k)), am_up_here _ 2 3 (nI p)⟩
theorem OF_mk {N h L : Nat} {C : Nat × Nat} {Lm : Nat} {Cm : Nat × Nat} {Tm : Nat → Nat → Nat} {J J' : Nat → Nat → Int64} {I : Nat → Nat → Int32} {T T1 : Nat → Nat → Nat} {I' Ia I2 : Nat → Nat → Int32} {cl mo : am_R} {k p t2 : Nat} (h0 : 0 < k) (h7 : k < 7) (hp : p ≤ 700) (hc : cl = some (.int 0, am_W (flt Ia k p) J T1 L C)) (hm : mo = some (.null, am_W I2 J' Tm Lm Cm)) (w : WR I2 k p) (ht : t2 ≤ N) (h26 : I2 49 26 = nI t2) (fc : CPf I Ia) (ft : CPt T T1) (fm : MP h I' I2) : OF N h L C Lm Cm Tm J J' I T I' cl mo := ⟨k, p, flt Ia k p, T1, I2, t2, h0, h7, hp, hc, hm, (flt_2 Ia k p).1, (flt_2 Ia k p).2, w, ht, h26, CPf_t fc (CPf_flt Ia k p), ft, fm⟩
theorem bt_ref0 (L : Nat) : (Nat.beq (am_SF L 0).1 30 || Nat.beq 0 0) = true := by rw [show Nat.beq 0 0 = true from rfl, Bool.or_true]
theorem lift_0 (I : Nat → Nat → Int32) (J : Nat → Nat → Int64) (T : Nat → Nat → Nat) (L : Nat) (C : Nat × Nat) (x1 : Int32) (v2 v3 : Value) {I1 : Nat → Nat → Int32} (h4 : I 2 4 = nI 2) (e : am_E 52 0 [.ref 2, .null] [] (am_W I J T L C) = some (.ref 0, am_W I1 J T L C)) : am_E 44 42 [.ref 2, .int x1, v2, v3] [.int 1] (am_W I J T L C) = some (.int 0, am_W I1 J T L C) := by
  rw [rg_44_42, if_neg (show ¬ (1 : Int32) = 0 by decide), h4, if_pos (show nI 2 = 2 from rfl), e, am_okb, am_vRr, rg_44_51, bt_ref0]
  show am_E 44 76 [.ref 2, .int x1, .int 1, .ref 0] [] (am_W I1 J T L C) = _
  rw [rg_44_76, rg_44_77, rg_44_78, if_pos rfl]
theorem lift_op (I : Nat → Nat → Int32) (J : Nat → Nat → Int64) (T : Nat → Nat → Nat) (L : Nat) (C : Nat × Nat) {i : Nat} (x1 : Int32) (v2 v3 : Value) {I1 : Nat → Nat → Int32} (h4 : I 2 4 = nI 2) (hi : i < 41) (h12 : frm i ≠ 12) (h13 : frm i ≠ 13) (e : am_E 52 0 [.ref 2, .null] [] (am_W I J T L C) = some (.ref (1001 + i), am_W I1 J T L C)) : am_E 44 42 [.ref 2, .int x1, v2, v3] [.int 1] (am_W I J T L C) = Option.bind (am_E 56 0 [.ref 2, .ref (1001 + i), .null, .null, .null, .null, .null] [] (am_W I1 J T L C)) (fun z1 => am_vI z1.1 fun u1 => am_E 44 73 [.ref 2, .int x1, .int 1, .ref (1001 + i)] [.int u1] z1.2) := by
  have h14 := (frm_ok i hi).2
  rw [rg_44_42, if_neg (show ¬ (1 : Int32) = 0 by decide), h4, if_pos (show nI 2 = 2 from rfl), e, am_okb, am_vRr, rg_44_51, sf_op L hi, (frm_ok i hi).1, if_neg (by omega), if_neg (show ¬ nI (frm i) = 13 from nb_ne (c := frm i) (n := 13) (by omega) (by decide) h13), if_neg (show ¬ nI (frm i) = 12 from nb_ne (c := frm i) (n := 12) (by omega) (by decide) h12)]
  rfl
theorem lift_st (I : Nat → Nat → Int32) (J : Nat → Nat → Int64) (T : Nat → Nat → Nat) (L : Nat) (C : Nat × Nat) {i : Nat} (x1 : Int32) (v2 v3 : Value) {I1 : Nat → Nat → Int32} (h4 : I 2 4 = nI 2) (hi : i < 41) (h12 : frm i = 12) (e : am_E 52 0 [.ref 2, .null] [] (am_W I J T L C) = some (.ref (1001 + i), am_W I1 J T L C)) : am_E 44 42 [.ref 2, .int x1, v2, v3] [.int 1] (am_W I J T L C) = Option.bind (am_E 61 0 [.ref 2, .null, .null, .null, .null] [] (am_W I1 J T L C)) (fun z1 => am_vI z1.1 fun u1 => am_E 44 68 [.ref 2, .int x1, .int 1, .ref (1001 + i)] [.int u1] z1.2) := by
  rw [rg_44_42, if_neg (show ¬ (1 : Int32) = 0 by decide), h4, if_pos (show nI 2 = 2 from rfl), e, am_okb, am_vRr, rg_44_51, sf_op L hi, (frm_ok i hi).1, if_neg (by omega), h12]
  rfl
theorem lift_go (I : Nat → Nat → Int32) (J : Nat → Nat → Int64) (T : Nat → Nat → Nat) (L : Nat) (C : Nat × Nat) {i : Nat} (x1 : Int32) (v2 v3 : Value) {I1 : Nat → Nat → Int32} (h4 : I 2 4 = nI 2) (hi : i < 41) (h13 : frm i = 13) (e : am_E 52 0 [.ref 2, .null] [] (am_W I J T L C) = some (.ref (1001 + i), am_W I1 J T L C)) : am_E 44 42 [.ref 2, .int x1, v2, v3] [.int 1] (am_W I J T L C) = Option.bind (am_E 63 0 [.ref 2, .null, .null, .null] [] (am_W I1 J T L C)) (fun z1 => am_vI z1.1 fun u1 => am_E 44 60 [.ref 2, .int x1, .int 1, .ref (1001 + i)] [.int u1] z1.2) := by
  rw [rg_44_42, if_neg (show ¬ (1 : Int32) = 0 by decide), h4, if_pos (show nI 2 = 2 from rfl), e, am_okb, am_vRr, rg_44_51, sf_op L hi, (frm_ok i hi).1, if_neg (by omega), h13]
  rfl
theorem t73_0 (I : Nat → Nat → Int32) (J : Nat → Nat → Int64) (T : Nat → Nat → Nat) (L : Nat) (C : Nat × Nat) (x1 x2 : Int32) (q : Nat) : am_E 44 73 [.ref 2, .int x1, .int x2, .ref q] [.int 0] (am_W I J T L C) = some (.int 0, (am_W I J T L C)) := by
  rw [rg_44_73, if_pos rfl, rg_44_76, rg_44_77, rg_44_78, if_pos rfl]
theorem t73_1 (I : Nat → Nat → Int32) (J : Nat → Nat → Int64) (T : Nat → Nat → Nat) (L : Nat) (C : Nat × Nat) (x1 x2 : Int32) (q : Nat) : am_E 44 73 [.ref 2, .int x1, .int x2, .ref q] [.int 1] (am_W I J T L C) = am_E 44 78 [.ref 2, .int x1, .int 1, .ref q] [] (am_W I J T L C) := by
  rw [rg_44_73, if_neg (by decide), rg_44_74, rg_44_77]
theorem t68_0 (I : Nat → Nat → Int32) (J : Nat → Nat → Int64) (T : Nat → Nat → Nat) (L : Nat) (C : Nat × Nat) (x1 x2 : Int32) (q : Nat) : am_E 44 68 [.ref 2, .int x1, .int x2, .ref q] [.int 0] (am_W I J T L C) = some (.int 0, (am_W I J T L C)) := by
  rw [rg_44_68, if_pos rfl, rg_44_76, rg_44_77, rg_44_78, if_pos rfl]
theorem t68_1 (I : Nat → Nat → Int32) (J : Nat → Nat → Int64) (T : Nat → Nat → Nat) (L : Nat) (C : Nat × Nat) (x1 x2 : Int32) (q : Nat) : am_E 44 68 [.ref 2, .int x1, .int x2, .ref q] [.int 1] (am_W I J T L C) = am_E 44 78 [.ref 2, .int x1, .int 1, .ref q] [] (am_W I J T L C) := by
  rw [rg_44_68, if_neg (by decide), rg_44_74, rg_44_77]
theorem t60_0 (I : Nat → Nat → Int32) (J : Nat → Nat → Int64) (T : Nat → Nat → Nat) (L : Nat) (C : Nat × Nat) (x1 x2 : Int32) (q : Nat) : am_E 44 60 [.ref 2, .int x1, .int x2, .ref q] [.int 0] (am_W I J T L C) = some (.int 0, (am_W I J T L C)) := by
  rw [rg_44_60, if_pos rfl, rg_44_76, rg_44_77, rg_44_78, if_pos rfl]
theorem t60_1 (I : Nat → Nat → Int32) (J : Nat → Nat → Int64) (T : Nat → Nat → Nat) (L : Nat) (C : Nat × Nat) (x1 x2 : Int32) (q : Nat) : am_E 44 60 [.ref 2, .int x1, .int x2, .ref q] [.int 1] (am_W I J T L C) = am_E 44 78 [.ref 2, .int x1, .int 1, .ref q] [] (am_W I J T L C) := by
  rw [rg_44_60, if_neg (by decide), rg_44_74, rg_44_77]
/-- where a good line goes on, behind its last operand -/
noncomputable def fcl (L : Nat) (C : Nat × Nat) (J : Nat → Nat → Int64) (x1 : Int32) (q : Nat) (I1 : Nat → Nat → Int32) (T1 : Nat → Nat → Nat) : am_R := am_E 44 78 [.ref 2, .int x1, .int 1, .ref q] [] (am_W I1 J T1 L C)
noncomputable def fmo (Lm : Nat) (Cm : Nat × Nat) (Tm : Nat → Nat → Nat) (J' : Nat → Nat → Int64) (x1 : Int32) (y : Int64) (I2 : Nat → Nat → Int32) : am_R := am_E 127 118 [.ref 49, .int x1, .long y, .null] [] (am_W I2 J' Tm Lm Cm)
theorem bix_w {tx : Nat → Nat} {f t i : Nat} (hi : i < 41) (hft : f < t) (e : sl tx f t = wd i) : bix tx f t = i ∧ brk tx t = false ∧ bae tx t = t := by
  have h := bae_w (wd_last hi hft e)
  refine ⟨?_, h.2, h.1⟩
  unfold bix
  rw [h.1, e, oix_wd i hi]
theorem bix_b {tx : Nat → Nat} {f t i : Nat} (hi : i < 41) (e0 : tx (t - 1) = 40) (e : sl tx f (bae tx t) = wd i) : bix tx f t = i ∧ brk tx t = true := by
  unfold bix brk
  rw [e, oix_wd i hi, decide_eq_true e0]
  exact ⟨rfl, rfl⟩
theorem frm_39 : ∀ i, i < 39 → frm i ≠ 12 ∧ frm i ≠ 13 := by decide +kernel
theorem frm_sg : ∀ i, i < 41 → (frm i = 1 ↔ 6 ≤ i ∧ i ≤ 22) := by decide +kernel
/-- the class's word, in the relation -/
theorem pr_op (J : Nat → Nat → Int64) (L : Nat) (C : Nat × Nat) {D : Nat → Nat} {tx : Nat → Nat} {N h n ng d nc f t g : Nat} {I : Nat → Nat → Int32} {T : Nat → Nat → Nat} {I' : Nat → Nat → Int32} (p : PRE D tx N h n ng d nc f t g I T I') : (rof (brk tx t) (bix tx f t) n ng d ≠ 0 ∧ ∃ I1, am_E 52 0 [.ref 2, .null] [] (am_W I J T L C) = some (.ref 0, am_W (flt I1 (rof (brk tx t) (bix tx f t) n ng d) f) J T L C) ∧ FO I I1) ∨ (rof (brk tx t) (bix tx f t) n ng d = 0 ∧ ∃ I1, am_E 52 0 [.ref 2, .null] [] (am_W I J T L C) = some (.ref (1001 + bix tx f t), am_W I1 J T L C) ∧ I1 2 8 = am_b01 (brk tx t) ∧ I1 2 9 = nI (dnx (brk tx t) (bix tx f t) d) ∧ CN I1 tx N t ∧ FO I I1) := by
  obtain ⟨v, c, k, _⟩ := p
  obtain ⟨a, _, _, ⟨w1, w2, w3, w4, w5, w6, w7, w8, w9, w10, w11⟩, _⟩ := v
  exact rd_op I J T L C a c k w4 w3 w7 w6 w10 w9
theorem gp_full {L : Nat} {C : Nat × Nat} {Lm : Nat} {Cm : Nat × Nat} {Tm : Nat → Nat → Nat} {J : Nat → Nat → Int64} {J' : Nat → Nat → Int64} {D : Nat → Nat} {tx : Nat → Nat} {N h n ng d nc f t g : Nat} {I : Nat → Nat → Int32} {T : Nat → Nat → Nat} {I' : Nat → Nat → Int32} (x1 xm : Int32) (v2 v3 u2 u3 : Value) (p : PRE D tx N h n ng d nc f t g I T I') {i : Nat} (hn : n = 80) (hw : (sl tx f t = wd i ∧ i < 39) ∨ (tx (t - 1) = 40 ∧ sl tx f (bae tx t) = wd i ∧ 6 ≤ i ∧ i ≤ 22)) : OF N h L C Lm Cm Tm J J' I T I' (am_E 44 42 [.ref 2, .int x1, v2, v3] [.int 1] (am_W I J T L C)) (am_E 127 75 [.ref 49, .int xm, u2, u3] [.long (lN (cod tx f t))] (am_W I' J' Tm Lm Cm)) := by
  have pr := pr_op J L C p
  obtain ⟨v, c, k, mk, nb, hD⟩ := p
  obtain ⟨hm, h3, h4⟩ := LV_mt v
  have hN := hm.1.2.1
  obtain ⟨hft, htN, hl⟩ := TK_wl (TX_lt hm.1) hN k
  have h56 : I' 56 h = nI n := v.2.2.2.1.2.2.2.2.1
  subst hn
  have mo := m_full I' J' Tm Lm Cm xm u2 u3 hm mk k h3 h56 hw
  have w := WR_mfl h3 3 f
  obtain ⟨I2, e1, e2, ⟨t2, e3, e4⟩, e5⟩ := mt_110 (mfl I' (nI 3) (nI f)) J' Tm Lm Cm (k := 3) (p := f) xm (lN (cvl (sl tx f t))) (MT_p hm (MP_mfl h I' _ _)).1 ((mfl_ne (by omega)).trans mk.2) htN w (by decide) (by decide)
  have hr : rof (brk tx t) (bix tx f t) 80 ng d = 3 := by
    rcases hw with ⟨e, hi⟩ | ⟨e0, e, h6, h22⟩
    · obtain ⟨b1, b2, b3⟩ := bix_w (by omega : i < 41) hft e
      obtain ⟨q1, q2⟩ := frm_39 i hi
      rw [b1, b2]
      unfold rof ful
      rw [if_pos ⟨by omega, fun e => absurd e (by decide)⟩, if_neg q2, if_neg q1]
      rfl
    · obtain ⟨b1, b2⟩ := bix_b (by omega : i < 41) e0 e
      have q := (frm_sg i (by omega)).mpr ⟨h6, h22⟩
      rw [b1, b2]
      unfold rof ful
      rw [if_pos ⟨by omega, fun _ => q⟩, q]
      rfl
  rcases pr with ⟨_, I1, r1, r2⟩ | ⟨r, _⟩
  · rw [hr] at r1
    exact OF_mk (by decide) (by decide) (by omega) (lift_0 I J T L C x1 v2 v3 c.1 r1) (mo.trans e1) e5 e3 e4 (CPf_fo r2) (CPt_r T) (MP_t (MP_mfl h I' _ _) (MP_fx e2))
  · rw [hr] at r; exact absurd r (by decide)
theorem gp_none {L : Nat} {C : Nat × Nat} {Lm : Nat} {Cm : Nat × Nat} {Tm : Nat → Nat → Nat} {J : Nat → Nat → Int64} {J' : Nat → Nat → Int64} {D : Nat → Nat} {tx : Nat → Nat} {N h n ng d nc f t g : Nat} {I : Nat → Nat → Int32} {T : Nat → Nat → Nat} {I' : Nat → Nat → Int32} (x1 xm : Int32) (v2 v3 u2 u3 : Value) (p : PRE D tx N h n ng d nc f t g I T I') (hn : ¬ (bix tx f t < 41 ∧ (brk tx t = true → frm (bix tx f t) = 1))) : OF N h L C Lm Cm Tm J J' I T I' (am_E 44 42 [.ref 2, .int x1, v2, v3] [.int 1] (am_W I J T L C)) (am_E 127 75 [.ref 49, .int xm, u2, u3] [.long (lN (cod tx f t))] (am_W I' J' Tm Lm Cm)) := by
  have pr := pr_op J L C p
  obtain ⟨v, c, k, mk, nb, hD⟩ := p
  obtain ⟨hm, h3, h4⟩ := LV_mt v
  have hN := hm.1.2.1
  obtain ⟨hft, htN, hl⟩ := TK_wl (TX_lt hm.1) hN k
  have hr : rof (brk tx t) (bix tx f t) n ng d = 1 := if_neg hn
  have ha : (∀ j, j < 41 → sl tx f t ≠ wd j) ∧ ∀ a, a < 17 → sl tx f (bae tx t) ≠ wd (6 + a) := by
    by_cases e0 : tx (t - 1) = 40
    · refine ⟨sl_ne_wd hft e0, fun a ha e => ?_⟩
      obtain ⟨b1, b2⟩ := bix_b (by omega : 6 + a < 41) e0 e
      exact hn ⟨by omega, fun _ => by rw [b1]; exact (frm_sg _ (by omega)).mpr ⟨by omega, by omega⟩⟩
    · obtain ⟨b1, b2⟩ := bae_w e0
      have q : ∀ j, j < 41 → sl tx f t ≠ wd j := fun j hj e => by
        obtain ⟨c1, c2, c3⟩ := bix_w hj hft e
        exact hn ⟨by omega, fun x => by rw [b2] at x; exact absurd x (by decide)⟩
      exact ⟨q, fun a ha => by rw [b1]; exact q _ (by omega)⟩
  have mo := ds_6 I' J' Tm Lm Cm xm u2 u3 hl ha.1 (is_signm I' J' Tm Lm Cm hm.1 mk k ha.2) mk.1
  rw [← cod_cvl] at mo
  have w := WR_mfl h3 1 f
  rcases pr with ⟨_, I1, r1, r2⟩ | ⟨r, _⟩
  · rw [hr] at r1
    exact OF_mk (by decide) (by decide) (by omega) (lift_0 I J T L C x1 v2 v3 c.1 r1) (mo.trans (mt_118 (mfl I' (nI 1) (nI f)) J' Tm Lm Cm xm _ w (by decide) (by decide))) w htN ((mfl_ne (by omega)).trans mk.2) (CPf_fo r2) (CPt_r T) (MP_mfl h I' _ _)
  · rw [hr] at r; exact absurd r (by decide)

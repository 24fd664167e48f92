/-! ONE TO THREE STEPS in both readers. -/
def SMf (I I2 : Nat → Nat → Int32) : Prop := ∀ q k, ¬ (q = 68 ∨ q = 69 ∨ (q = 49 ∧ (k = 3 ∨ k = 4 ∨ (24 ≤ k ∧ k ≤ 26) ∨ k = 32))) → I2 q k = I q k
def SF (N h : Nat) (L : Nat) (C : Nat × Nat) (Lm : Nat) (Cm : Nat × Nat) (Tm : Nat → Nat → Nat) (J J' : Nat → Nat → Int64) (I : Nat → Nat → Int32) (T : Nat → Nat → Nat) (I' : Nat → Nat → Int32) (cl mo : am_R) : Prop := ∃ K p Ix I2 b f2 t2, 0 < K ∧ K < 7 ∧ p ≤ 700 ∧ cl = some (.int 0, am_W (flt Ix K p) J T L C) ∧ mo = some (.int b, am_W I2 J' Tm Lm Cm) ∧ WR I2 K p ∧ f2 ≤ t2 ∧ t2 ≤ N ∧ MK I2 f2 t2 ∧ CPf I Ix ∧ SMf I' I2
def SG (D : Nat → Nat) (tx : Nat → Nat) (N h n ng d f0 : Nat) (L : Nat) (C : Nat × Nat) (Lm : Nat) (Cm : Nat × Nat) (Tm : Nat → Nat → Nat) (J J' : Nat → Nat → Int64) (I : Nat → Nat → Int32) (T : Nat → Nat → Nat) (I' : Nat → Nat → Int32) (cl mo : am_R) : Prop := ∃ mask nc' kk f' t g I1 I2, cl = some (.int mask, am_W I1 J T L C) ∧ mo = some (.int mask, am_W I2 J' Tm Lm Cm) ∧ mask ≠ 0 ∧ R_hi mask ∧ LV D tx N h n ng d nc' f' I1 T I2 ∧ CK I1 kk f' t g ∧ TK tx N kk f' t g ∧ MK I2 f' t ∧ NB kk f' nc' ∧ f0 < f' ∧ CPf I I1 ∧ SMf I' I2
theorem SMf_mp {h : Nat} {I I2 : Nat → Nat → Int32} (a : SMf I I2) : MP h I I2 := fun q k x => a q k (fun e => x (by rcases e with e | e | ⟨e1, e⟩; exact Or.inr (Or.inl e); exact Or.inr (Or.inr (Or.inl e)); exact Or.inl ⟨e1, by omega⟩))
theorem SMf_t {I I1 I2 : Nat → Nat → Int32} (a : SMf I I1) (b : SMf I1 I2) : SMf I I2 := fun q k x => (b q k x).trans (a q k x)
theorem SMf_fx {I I1 : Nat → Nat → Int32} (a : FX I I1) : SMf I I1 := fun q k x => a q k (by omega)
theorem SMf_mfl (I : Nat → Nat → Int32) (a b : Int32) : SMf I (mfl I a b) := fun q k x => mfl_ne (by omega)
theorem SMf_nam (I : Nat → Nat → Int32) (nc : Nat) (v : Int32) (f : Nat) : SMf I (NAM I nc v f) := fun q k x => NAM_ne (by omega)
theorem wb_ne0 (m : Int32) {s : Nat} (hs : s < 32) : am_wb m s true ≠ 0 := by
  intro e
  have h := (bt_zero (am_wb m s true)).mp e s hs
  rw [bt_wb hs hs, if_pos rfl] at h
  exact absurd h (by decide)
theorem wb_hi {m : Int32} {s : Nat} (hs : s < 16) (h : R_hi m) : R_hi (am_wb m s true) := by
  intro j h1 h2
  rw [bt_wb (by omega) h2, if_neg (by omega)]
  exact h j h1 h2
theorem sm_body {L : Nat} {C : Nat × Nat} {Lm : Nat} {Cm : Nat × Nat} {Tm : Nat → Nat → Nat} {J : Nat → Nat → Int64} {J' : Nat → Nat → Int64} {D : Nat → Nat} {tx : Nat → Nat} {N h n ng d f0 nc : Nat} {T : Nat → Nat → Nat} {k kk f t g : Nat} {mask : Int32} {I I' : Nat → Nat → Int32} (v3 w3 : Value) (hk3 : k < 3) (v : LV D tx N h n ng d nc f I T I') (ck : CK I kk f t g) (hk : TK tx N kk f t g) (hmk : MK I' f t) (nb : NB kk f nc) (hf0 : f0 < f) (hh : R_hi mask) (ih : ∀ (I1 I2 : Nat → Nat → Int32) (nc kk f t g : Nat) (mask : Int32) (v3 w3 : Value), mask ≠ 0 → R_hi mask → LV D tx N h n ng d nc f I1 T I2 → CK I1 kk f t g → TK tx N kk f t g → MK I2 f t → NB kk f nc → f0 < f → SF N h L C Lm Cm Tm J J' I1 T I2 (am_E 64 4 [.ref 2, .int mask, .int (nI (k + 1)), v3] [] (am_W I1 J T L C)) (am_E 125 4 [.ref 49, .int mask, .int (nI (k + 1)), w3] [] (am_W I2 J' Tm Lm Cm)) ∨ SG D tx N h n ng d f0 L C Lm Cm Tm J J' I1 T I2 (am_E 64 4 [.ref 2, .int mask, .int (nI (k + 1)), v3] [] (am_W I1 J T L C)) (am_E 125 4 [.ref 49, .int mask, .int (nI (k + 1)), w3] [] (am_W I2 J' Tm Lm Cm))) : SF N h L C Lm Cm Tm J J' I T I' (am_E 64 12 [.ref 2, .int mask, .int (nI k), v3] [] (am_W I J T L C)) (am_E 125 19 [.ref 49, .int mask, .int (nI k), w3] [] (am_W I' J' Tm Lm Cm)) ∨ SG D tx N h n ng d f0 L C Lm Cm Tm J J' I T I' (am_E 64 12 [.ref 2, .int mask, .int (nI k), v3] [] (am_W I J T L C)) (am_E 125 19 [.ref 49, .int mask, .int (nI k), w3] [] (am_W I' J' Tm Lm Cm)) := by
  obtain ⟨hm, h3, h4⟩ := LV_mt v
  have hN := hm.1.2.1
  have hle := TK_le hk
  have h32 : I' 49 32 = nI nc := v.2.2.2.2.2.2.2.2.2.1
  have hnc : nc < 400 := by have := nb.1; omega
  have rf := rd_figs I J T L C (mf := 2) (most := 15) v.1 ck hk (by decide) (by decide)
  rw [rff_smf] at rf
  have ms := mo_small I' J' Tm Lm Cm (a := f) (b := t) (most := 15) hm.1 hle.2 (by omega) hmk.1 (by decide)
  rw [← hmk.1, ← hmk.2] at ms
  have m1 : am_E 125 19 [.ref 49, .int mask, .int (nI k), w3] [] (am_W I' J' Tm Lm Cm) = am_E 125 26 [.ref 49, .int mask, .int (nI k), w3] [.int (mvo (smf tx f t 15) (nI (smv tx f t)))] (am_W (mfo I' (smf tx f t 15) f) J' Tm Lm Cm) := by
    rw [rg_125_19]
    change Option.bind (am_E 106 0 [.ref 49, .int (I' 49 25), .int (I' 49 26), .int (nI 15)] [] _) _ = _
    rw [ms, am_okb, am_vIi]
  have c1 : am_E 64 12 [.ref 2, .int mask, .int (nI k), v3] [] (am_W I J T L C) = Option.bind (am_E 60 0 [.ref 2, .int (nI 2), .int (nI 15), .null, .null] [] (am_W I J T L C)) (fun z1 => am_vI z1.1 fun u1 => am_E 64 19 [.ref 2, .int mask, .int (nI k), .int (nI f)] [.int u1] z1.2) := by
    rw [rg_64_12, ck.2.1]; rfl
  rcases rf with ⟨q1, q2⟩ | ⟨q1, I3, q2, q3, q4, q5⟩
  · refine Or.inl ?_
    have s7 := smf_lt tx f t 15
    generalize smf tx f t 15 = K at *
    have ef : mfo I' K f = mfl I' (nI K) (nI f) := if_neg q1
    have ev : mvo K (nI (smv tx f t)) = -1 := if_neg q1
    rw [ef, ev] at m1
    have w0 := WR_mfl h3 K f
    have g25 : mfl I' (nI K) (nI f) 49 25 = nI f := (mfl_ne (by omega)).trans hmk.1
    have g26 : mfl I' (nI K) (nI f) 49 26 = nI t := (mfl_ne (by omega)).trans hmk.2
    have g32 : mfl I' (nI K) (nI f) 49 32 = nI nc := (mfl_ne (by omega)).trans h32
    have hm1 : MT tx N h (NAM (mfl I' (nI K) (nI f)) nc (100 + -1) f) := MT_k hm (fun q k e => (NAM_ne (by omega)).trans (mfl_ne (by omega)))
    obtain ⟨I2, n1, n2, n3⟩ := mo_next (NAM (mfl I' (nI K) (nI f)) nc (100 + -1) f) J' Tm Lm Cm hm1.1 ⟨(NAM_ne (by omega)).trans g25, (NAM_ne (by omega)).trans g26⟩ hk
    have w2 : WR I2 K f := ⟨(n3 49 3 (by omega)).trans ((NAM_ne (by omega)).trans w0.1), (n3 49 4 (by omega)).trans ((NAM_ne (by omega)).trans w0.2)⟩
    have wn := WR_ne w2 (by omega) s7
    refine ⟨K, f, I, I2, mask, _, _, by omega, s7, by omega, ?_, ?_, w2, (TK_le (TK_n hk)).1, (TK_le (TK_n hk)).2, n2, CPf_r I, SMf_t (SMf_t (SMf_mfl I' _ _) (SMf_nam _ _ _ _)) (SMf_fx n3)⟩
    · rw [c1, q2, am_okb, am_vIi, rg_64_19, if_pos rfl]
    · rw [m1, rg_125_26, mo_names (mfl I' (nI K) (nI f)) J' Tm Lm Cm hnc g32 g25, am_okb, rg_125_32, if_neg (show ¬ (0 : Int32) ≤ -1 by decide), rg_125_41]
      change Option.bind (am_E 99 0 [.ref 49] [] (am_W (NAM (mfl I' (nI K) (nI f)) nc (100 + -1) f) J' Tm Lm Cm)) _ = _
      rw [n1, am_okb, rg_125_44, nI_1, rg_125_4]
      by_cases e : (3 : Int32) ≤ nI (k + 1)
      · rw [if_pos e]
      · rw [if_neg e, if_neg wn]
  · have s15 := smf_v q1
    have k2 := smf_k hk q1
    subst k2
    have hf7 : f < 700 := by
      rcases TK_p hk with e | e | e
      · omega
      · exact absurd e.1 (by decide)
      · exact absurd e.1 (by decide)
    have ef : mfo I' 0 f = I' := if_pos rfl
    have ev : mvo 0 (nI (smv tx f t)) = nI (smv tx f t) := rfl
    rw [q1, ef, ev] at m1
    generalize smv tx f t = s at *
    have e100 : (100 : Int32) + nI s = nI (100 + s) := nI_add 100 s
    have vv : LV D tx N h n ng d nc f I3 T I' := LV_keep (fun q k hq => q5 q k (fun e => hq.2.2 ⟨e.1, by omega⟩)) (fun _ => rfl) (fun _ _ _ => rfl) v
    have vn : LV D tx N h n ng d (nc + 1) (f + 1) (am_up I3 21 s (if I3 21 s = -1 then nI f else I3 21 s)) T (NAM I' nc (nI (100 + s)) f) := LV_nam_s (by omega) hf7 vv
    obtain ⟨hm1, _, _⟩ := LV_mt vn
    obtain ⟨I2, n1, n2, n3⟩ := mo_next (NAM I' nc (nI (100 + s)) f) J' Tm Lm Cm hm1.1 ⟨(NAM_ne (by omega)).trans hmk.1, (NAM_ne (by omega)).trans hmk.2⟩ hk
    have nb2 := NB_s hk nb
    have hk2 := TK_n hk
    have vf : LV D tx N h n ng d (nc + 1) (tkf tx N t) (am_up I3 21 s (if I3 21 s = -1 then nI f else I3 21 s)) T I2 := LV_f (by omega) (LV_keep (fun _ _ _ => rfl) (fun _ => rfl) (fun q k hq => n3 q k (fun x => hq.2.2 ⟨x.1, by omega⟩)) vn)
    have c2 : am_E 64 12 [.ref 2, .int mask, .int (nI k), v3] [] (am_W I J T L C) = am_E 64 4 [.ref 2, .int (am_wb mask s true), .int (nI (k + 1)), .int (nI f)] [] (am_W (am_up I3 21 s (if I3 21 s = -1 then nI f else I3 21 s)) J T L C) := by
      rw [c1, q2, am_okb, am_vIi, rg_64_19, if_neg (by decide), q3, cl_note I3 J T L C (q := 21) (N := 16) (nI f) rfl (by omega) (by decide), am_okb, rg_64_29, nI_1]
      have e11 : am_up I3 21 s (if I3 21 s = -1 then nI f else I3 21 s) 2 11 = nI s := (am_up_ne (by omega)).trans q3
      rw [e11]; rfl
    have m2 : am_E 125 19 [.ref 49, .int mask, .int (nI k), w3] [] (am_W I' J' Tm Lm Cm) = am_E 125 4 [.ref 49, .int (am_wb mask s true), .int (nI (k + 1)), .int (nI s)] [] (am_W I2 J' Tm Lm Cm) := by
      rw [m1, rg_125_26, e100, mo_names I' J' Tm Lm Cm hnc h32 hmk.1, am_okb, rg_125_32, if_pos (nI_pos' (by omega)), rg_125_41]
      change Option.bind (am_E 99 0 [.ref 49] [] (am_W (NAM I' nc (nI (100 + s)) f) J' Tm Lm Cm)) _ = _
      rw [n1, am_okb, rg_125_44, nI_1]; rfl
    have cp : CPf I (am_up I3 21 s (if I3 21 s = -1 then nI f else I3 21 s)) := CPf_t (CPf_fg q5) (CPf_u _ (Or.inr (by decide)))
    have mp : SMf I' I2 := SMf_t (SMf_nam I' _ _ _) (SMf_fx n3)
    have r := ih (am_up I3 21 s (if I3 21 s = -1 then nI f else I3 21 s)) I2 (nc + 1) _ _ _ _ (am_wb mask s true) (.int (nI f)) (.int (nI s)) (wb_ne0 mask (by omega)) (wb_hi (by omega) hh) vf ⟨(am_up_ne (by omega)).trans q4.1, (am_up_ne (by omega)).trans q4.2.1, (am_up_ne (by omega)).trans q4.2.2.1, (am_up_ne (by omega)).trans q4.2.2.2⟩ hk2 n2 nb2.1 (by omega)
    rw [c2, m2]
    rcases r with ⟨K, p, Ix, Iy, b, f2, t2, z1, z2, z3, z4, z5, z6, z7, z8, z9, z10, z11⟩ | ⟨mk', nc', kk, f', t', g', Ix, Iy, z1, z2, z3, z4, z5, z6, z7, z8, z9, z10, z11, z12⟩
    · exact Or.inl ⟨K, p, Ix, Iy, b, f2, t2, z1, z2, z3, z4, z5, z6, z7, z8, z9, CPf_t cp z10, SMf_t mp z11⟩
    · exact Or.inr ⟨mk', nc', kk, f', t', g', Ix, Iy, z1, z2, z3, z4, z5, z6, z7, z8, z9, z10, CPf_t cp z11, SMf_t mp z12⟩
theorem sm_loop {L : Nat} {C : Nat × Nat} {Lm : Nat} {Cm : Nat × Nat} {Tm : Nat → Nat → Nat} {J : Nat → Nat → Int64} {J' : Nat → Nat → Int64} {D : Nat → Nat} {tx : Nat → Nat} {N h n ng d f0 : Nat} {T : Nat → Nat → Nat} : ∀ (m k : Nat), k + 1 + m = 3 → ∀ (I I' : Nat → Nat → Int32) (nc kk f t g : Nat) (mask : Int32) (v3 w3 : Value), mask ≠ 0 → R_hi mask → LV D tx N h n ng d nc f I T I' → CK I kk f t g → TK tx N kk f t g → MK I' f t → NB kk f nc → f0 < f → SF N h L C Lm Cm Tm J J' I T I' (am_E 64 4 [.ref 2, .int mask, .int (nI (k + 1)), v3] [] (am_W I J T L C)) (am_E 125 4 [.ref 49, .int mask, .int (nI (k + 1)), w3] [] (am_W I' J' Tm Lm Cm)) ∨ SG D tx N h n ng d f0 L C Lm Cm Tm J J' I T I' (am_E 64 4 [.ref 2, .int mask, .int (nI (k + 1)), v3] [] (am_W I J T L C)) (am_E 125 4 [.ref 49, .int mask, .int (nI (k + 1)), w3] [] (am_W I' J' Tm Lm Cm))
  | 0, k, e, I, I', nc, kk, f, t, g, mask, v3, w3, h0, hh, v, ck, hk, hmk, nb, hf => by
    have e : k = 2 := by omega
    subst e
    refine Or.inr ⟨mask, nc, kk, f, t, g, I, I', ?_, ?_, h0, hh, v, ck, hk, hmk, nb, hf, CPf_r I, fun _ _ _ => rfl⟩
    · rw [rg_64_4, if_pos (show (3 : Int32) ≤ nI 3 by decide)]
    · rw [rg_125_4, if_pos (show (3 : Int32) ≤ nI 3 by decide)]
  | m + 1, k, e, I, I', nc, kk, f, t, g, mask, v3, w3, h0, hh, v, ck, hk, hmk, nb, hf => by
    obtain ⟨hm, h3, h4⟩ := LV_mt v
    have hN := hm.1.2.1
    have hle := TK_le hk
    have n3 : ¬ (3 : Int32) ≤ nI (k + 1) := nI_ge (a := k + 1) (b := 3) (by omega) (by decide)
    have n0 : ¬ nI (k + 1) = 0 := nI_ne0 (by omega) (by omega)
    have mf := mo_figs I' J' Tm Lm Cm (a := f) (b := t) hm.1 hle.2 (by omega)
    rw [← hmk.1, ← hmk.2] at mf
    rw [rg_64_4, if_neg n3, if_neg n0, is_figs I J T L C ck hk hN, am_okb, am_vIi, rg_64_11, rg_125_4, if_neg n3, if_pos h3, if_neg n0, mf, am_okb, am_vIi, rg_125_18]
    cases hs : (numv (sl tx f t)).isSome with
    | false =>
      rw [if_pos (show am_b01 false = 0 from rfl), if_pos (show am_b01 false = 0 from rfl)]
      exact Or.inr ⟨mask, nc, kk, f, t, g, I, I', rfl, rfl, h0, hh, v, ck, hk, hmk, nb, hf, CPf_r I, fun _ _ _ => rfl⟩
    | true =>
      rw [if_neg (show ¬ am_b01 true = 0 by decide), if_neg (show ¬ am_b01 true = 0 by decide)]
      exact sm_body v3 w3 (by omega) v ck hk hmk nb hf hh (sm_loop m (k + 1) (by omega))
/-- one to three steps -/
theorem sm_ok {L : Nat} {C : Nat × Nat} {Lm : Nat} {Cm : Nat × Nat} {Tm : Nat → Nat → Nat} {J : Nat → Nat → Int64} {J' : Nat → Nat → Int64} {D : Nat → Nat} {tx : Nat → Nat} {N h n ng d f0 : Nat} {T : Nat → Nat → Nat} {I I' : Nat → Nat → Int32} {nc kk f t g : Nat} (v : LV D tx N h n ng d nc f I T I') (ck : CK I kk f t g) (hk : TK tx N kk f t g) (hmk : MK I' f t) (nb : NB kk f nc) (hf : f0 < f) : SF N h L C Lm Cm Tm J J' I T I' (am_E 64 0 [.ref 2, .null, .null, .null] [] (am_W I J T L C)) (am_E 125 0 [.ref 49, .null, .null, .null] [] (am_W I' J' Tm Lm Cm)) ∨ SG D tx N h n ng d f0 L C Lm Cm Tm J J' I T I' (am_E 64 0 [.ref 2, .null, .null, .null] [] (am_W I J T L C)) (am_E 125 0 [.ref 49, .null, .null, .null] [] (am_W I' J' Tm Lm Cm)) := by
  obtain ⟨hm, h3, h4⟩ := LV_mt v
  rw [rg_64_0, rg_64_4, if_neg (show ¬ (3 : Int32) ≤ 0 by decide), if_pos (show (0 : Int32) = 0 from rfl), rg_125_0, rg_125_4, if_neg (show ¬ (3 : Int32) ≤ 0 by decide), if_pos h3, if_pos (show (0 : Int32) = 0 from rfl)]
  exact sm_body (k := 0) (mask := 0) .null .null (by decide) v ck hk hmk nb hf (fun j _ h2 => bt_0 j h2) (sm_loop 2 0 rfl)

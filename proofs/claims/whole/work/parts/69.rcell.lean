/-! THE CLASS READS a cell, whole. -/
def rng (kd : Nat) : Nat := [32, 32, 32, 16, 8, 8, 32, 32, 16, 8, 8].getD kd 0
def rgo (y : Int64) : Bool := if lg_cmp y (-2147483648) < 0 then true else if lg_cmp y 2147483647 ≤ 0 then false else true
def cry (kd f g v : Nat) : Int64 := if kd = 11 ∧ f < g then -(lN v) else lN v
def cnv (tx : Nat → Nat) (g t : Nat) : Nat := (numv (sl tx g t)).getD 0
/-- the fault of a cell of kind kd -/
def cfk (kd f t g v : Nat) : Nat := if kd = 11 then (if rgo (cry kd f g v) = true then 2 else 0) else if 2 < t - g ∨ rng kd ≤ v then 2 else 0
def crf (tx : Nat → Nat) (k f t g : Nat) (only : Int32) : Nat := match kow tx k f t g with
  | none => 1
  | some kd => if am_bt only kd = true then cfk kd f t g (cnv tx g t) else 1
def crk (tx : Nat → Nat) (k f t g : Nat) : Nat := (kow tx k f t g).getD 0
def crv (tx : Nat → Nat) (k f t g : Nat) : Int32 := Int64.toInt32 (cry (crk tx k f t g) f g (cnv tx g t))
theorem ltrd_lt (c : Nat) : ∀ (d k j : Nat), ltrd c d k = some j → j < k + d ∧ (wd 41).getD j 0 = c := by
  intro d
  induction d with
  | zero => intro k j h; exact absurd h (by simp [ltrd])
  | succ d ih =>
    intro k j h
    have e : ltrd c (d + 1) k = if (wd 41).getD k 0 = c then some k else ltrd c d (k + 1) := rfl
    rw [e] at h
    by_cases q : (wd 41).getD k 0 = c
    · rw [if_pos q] at h
      have := Option.some.inj h
      subst this
      exact ⟨by omega, q⟩
    · rw [if_neg q] at h
      have := ih (k + 1) j h
      exact ⟨by omega, this.2⟩
theorem kow_p {tx : Nat → Nat} {k f t g kd : Nat} (h : kow tx k f t g = some kd) : kd < 12 ∧ k = 2 ∧ g ≠ t := by
  unfold kow at h
  by_cases e : k = 2
  · rw [if_pos e] at h
    by_cases e1 : g = t
    · rw [if_pos e1] at h; exact absurd h (by simp)
    · rw [if_neg e1] at h
      refine ⟨?_, e, e1⟩
      by_cases e2 : g = f
      · rw [if_pos e2] at h; have := Option.some.inj h; omega
      · rw [if_neg e2] at h
        by_cases e3 : g - f = 1
        · rw [if_pos e3] at h
          by_cases e4 : tx f = 45
          · rw [if_pos e4] at h; have := Option.some.inj h; omega
          · rw [if_neg e4] at h
            have := (ltrd_lt _ _ _ _ h).1
            omega
        · rw [if_neg e3] at h
          by_cases e5 : sl tx f g = wd 42
          · rw [if_pos e5] at h; have := Option.some.inj h; omega
          · rw [if_neg e5] at h
            by_cases e6 : sl tx f g = wd 43
            · rw [if_pos e6] at h; have := Option.some.inj h; omega
            · rw [if_neg e6] at h; exact absurd h (by simp)
  · rw [if_neg e] at h; exact absurd h (by simp)
theorem num_g {tx : Nat → Nat} {N k f t g : Nat} (h : TK tx N k f t g) (hg : g ≠ t) : numv (sl tx g t) = some (cnv tx g t) := by
  have e := TK_g h
  have e2 := (g_iff e e.1 (by omega) (by
    by_cases c : g = f
    · exact Or.inl c
    · exact Or.inr (e.2.2.2 (by omega)))).mpr rfl
  unfold cnv
  cases hv : numv (sl tx g t) with
  | none => rw [hv] at e2; exact absurd e2 (by decide)
  | some v => rfl
theorem rng_ok : ∀ kd, kd < 11 → am_cI 4002 kd = nI (rng kd) ∧ rng kd < 100 := by decide +kernel
theorem numJ_s (v : Nat) : numJ (some v) = lN v := rfl
theorem optI_s (k : Nat) : optI (some k) = nI k := rfl
theorem rd_cell (I : Nat → Nat → Int32) (J : Nat → Nat → Int64) (T : Nat → Nat → Nat) (L : Nat) (C : Nat × Nat) {tx : Nat → Nat} {N k f t g : Nat} (only : Int32) (h : TX I 4 3 1 tx N) (hc : CK I k f t g) (hk : TK tx N k f t g) : (crf tx k f t g only ≠ 0 ∧ am_E 59 0 [.ref 2, .int only, .null, .null, .null] [] (am_W I J T L C) = some (.int 0, am_W (flt I (crf tx k f t g only) f) J T L C)) ∨ (crf tx k f t g only = 0 ∧ am_bt only (crk tx k f t g) = true ∧ kow tx k f t g = some (crk tx k f t g) ∧ ∃ I1, am_E 59 0 [.ref 2, .int only, .null, .null, .null] [] (am_W I J T L C) = some (.int 1, am_W I1 J T L C) ∧ I1 2 10 = nI (crk tx k f t g) ∧ I1 2 11 = crv tx k f t g ∧ CN I1 tx N t ∧ FG I I1) := by
  have hN := h.2.1
  have hl := TK_le hk
  have hgg := TK_g hk
  have hkd := rd_kind I J T L C h hc hk
  obtain ⟨c1, c2, c3, c4⟩ := hc
  have t10 : ∀ x2, am_E 59 10 [.ref 2, .int only, .int x2, .null, .null] [] (am_W I J T L C) = some (.int 0, am_W (flt I 1 f) J T L C) := by
    intro x2
    rw [rg_59_10]
    show Option.bind (am_E 45 0 [.ref 2, .int (nI 1)] [] _) _ = _
    rw [cl_fail _ _ _ _ _ c2, am_okb, am_vIi, rg_59_13]
    rfl
  rw [rg_59_0, hkd, am_okb, am_vIi, rg_59_2]
  cases hq : kow tx k f t g with
  | none =>
    have hf : crf tx k f t g only = 1 := by unfold crf; rw [hq]
    refine Or.inl ⟨by rw [hf]; decide, ?_⟩
    rw [if_pos (show optI (none : Option Nat) = -1 from rfl), hf]
    exact t10 _
  | some kd =>
    obtain ⟨k12, _, hgt⟩ := kow_p hq
    have hck : crk tx k f t g = kd := by unfold crk; rw [hq]; rfl
    have hnum := num_g hk hgt
    have hvl := numv_le hnum
    have nm1 : ¬ optI (some kd) = -1 := by
      have q : ∀ i, i < 12 → ¬ nI i = -1 := by decide +kernel
      exact q kd k12
    rw [if_neg nm1, optI_s]
    show (_ ∧ Option.bind (am_E 91 0 [.int only, .int (nI kd)] [] _) _ = _) ∨ (_ ∧ _ ∧ _ ∧ ∃ I1, Option.bind (am_E 91 0 [.int only, .int (nI kd)] [] _) _ = _ ∧ _)
    rw [lf_isSet (by omega : kd < 32), am_okb, am_vIi, rg_59_9]
    cases hb : am_bt only kd with
    | false =>
      have hf : crf tx k f t g only = 1 := by unfold crf; rw [hq]; show (if am_bt only kd = true then _ else 1) = 1; rw [hb]; rfl
      refine Or.inl ⟨by rw [hf]; decide, ?_⟩
      rw [if_pos (show am_b01 false = 0 from rfl), hf]
      exact t10 _
    | true =>
      have hf : crf tx k f t g only = cfk kd f t g (cnv tx g t) := by unfold crf; rw [hq]; show (if am_bt only kd = true then _ else 1) = _; rw [hb]; rfl
      rw [if_neg (show ¬ am_b01 true = 0 by decide), c4, c3, nu_ok _ _ _ _ _ h hl.2 (by omega), am_okb, am_vJl, hnum, numJ_s, rg_59_21, hf, hck]
      have fail2 : ∀ y : Int64, am_E 45 0 [.ref 2, .int 2] [] (am_W I J T L C) = some (.int 0, am_W (flt I 2 f) J T L C) := fun _ => cl_fail I J T L C (k := 2) c2
      have fin : ∀ y : Int64, y = cry kd f g (cnv tx g t) → ∃ I1, am_E 59 65 [.ref 2, .int only, .int (nI kd), .long y, .null] [] (am_W I J T L C) = some (.int 1, am_W I1 J T L C) ∧ I1 2 10 = nI kd ∧ I1 2 11 = crv tx k f t g ∧ CN I1 tx N t ∧ FG I I1 := by
        intro y hy
        obtain ⟨I1, e1, e2, e3⟩ := ad_ok (am_up (am_up I 2 10 (nI kd)) 2 11 (Int64.toInt32 y)) J T L C (p := t) h hl.2 c3
        refine ⟨I1, ?_, ?_, ?_, e2, ?_⟩
        · rw [rg_59_65, e1, am_okb, rg_59_74]
        · rw [e3 2 10 (by omega)]; rfl
        · rw [e3 2 11 (by omega), am_up_here, hy]
          unfold crv
          rw [hck]
        · intro q k' hq'
          rw [e3 q k' (by omega), am_up_ne (by omega), am_up_ne (by omega)]
      show (_ ∧ (if nI kd = 11 then (if I 2 7 ≤ I 2 5 then am_E 59 34 [.ref 2, .int only, .int (nI kd), .long (lN (cnv tx g t)), .null] [.long (lN (cnv tx g t))] _ else am_E 59 34 [.ref 2, .int only, .int (nI kd), .long (lN (cnv tx g t)), .null] [.long (-(lN (cnv tx g t)))] _) else (if 2 < I 2 6 - I 2 7 then am_E 59 61 [.ref 2, .int only, .int (nI kd), .long (lN (cnv tx g t)), .null] [] _ else Option.bind (am_E 89 0 [.ref 4002, .int (nI kd)] [] _) _)) = _) ∨ (_ ∧ _ ∧ _ ∧ ∃ I1, (if nI kd = 11 then (if I 2 7 ≤ I 2 5 then am_E 59 34 [.ref 2, .int only, .int (nI kd), .long (lN (cnv tx g t)), .null] [.long (lN (cnv tx g t))] _ else am_E 59 34 [.ref 2, .int only, .int (nI kd), .long (lN (cnv tx g t)), .null] [.long (-(lN (cnv tx g t)))] _) else (if 2 < I 2 6 - I 2 7 then am_E 59 61 [.ref 2, .int only, .int (nI kd), .long (lN (cnv tx g t)), .null] [] _ else Option.bind (am_E 89 0 [.ref 4002, .int (nI kd)] [] _) _)) = _ ∧ _)
      by_cases e11 : kd = 11
      · have hcf : cfk kd f t g (cnv tx g t) = if rgo (cry kd f g (cnv tx g t)) = true then 2 else 0 := by unfold cfk; rw [if_pos e11]
        have sgn : (if I 2 7 ≤ I 2 5 then am_E 59 34 [.ref 2, .int only, .int (nI kd), .long (lN (cnv tx g t)), .null] [.long (lN (cnv tx g t))] (am_W I J T L C) else am_E 59 34 [.ref 2, .int only, .int (nI kd), .long (lN (cnv tx g t)), .null] [.long (-(lN (cnv tx g t)))] (am_W I J T L C)) = am_E 59 34 [.ref 2, .int only, .int (nI kd), .long (lN (cnv tx g t)), .null] [.long (cry kd f g (cnv tx g t))] (am_W I J T L C) := by
          rw [c4, c2]
          unfold cry
          by_cases d : g ≤ f
          · rw [if_pos (nI_le d (by omega)), if_neg (fun e => by omega)]
          · rw [if_neg (nI_ge (by omega) (by omega)), if_pos ⟨e11, by omega⟩]
        rw [if_pos (show nI kd = 11 by rw [e11]; rfl), sgn, rg_59_34, hcf]
        have t43 : ∀ y, am_E 59 43 [.ref 2, .int only, .int (nI kd), .long y, .null] [] (am_W I J T L C) = some (.int 0, am_W (flt I 2 f) J T L C) := by
          intro y
          rw [rg_59_43, fail2 y, am_okb, am_vIi, rg_59_46]
          rfl
        unfold rgo
        by_cases d1 : lg_cmp (cry kd f g (cnv tx g t)) (-2147483648) < 0
        · refine Or.inl ?_
          rw [if_pos d1, if_pos d1, if_pos rfl]
          exact ⟨by decide, t43 _⟩
        · by_cases d2 : lg_cmp (cry kd f g (cnv tx g t)) 2147483647 ≤ 0
          · refine Or.inr ?_
            rw [if_neg d1, if_neg d1, if_pos d2, if_pos d2, if_neg (by decide)]
            exact ⟨rfl, hb, rfl, fin _ rfl⟩
          · refine Or.inl ?_
            rw [if_neg d1, if_neg d1, if_neg d2, if_neg d2, if_pos rfl]
            exact ⟨by decide, t43 _⟩
      · have kd11 : kd < 11 := by omega
        have hcf : cfk kd f t g (cnv tx g t) = if 2 < t - g ∨ rng kd ≤ cnv tx g t then 2 else 0 := by unfold cfk; rw [if_neg e11]
        have hcy : cry kd f g (cnv tx g t) = lN (cnv tx g t) := by unfold cry; rw [if_neg (fun e => e11 e.1)]
        have es : nI t - nI g = nI (t - g) := by
          have := nI_subl g (t - g)
          rw [show g + (t - g) = t by omega] at this
          exact this
        have t61 : ∀ y, am_E 59 61 [.ref 2, .int only, .int (nI kd), .long y, .null] [] (am_W I J T L C) = some (.int 0, am_W (flt I 2 f) J T L C) := by
          intro y
          rw [rg_59_61, fail2 y, am_okb, am_vIi, rg_59_64]
          rfl
        have hat : am_E 89 0 [.ref 4002, .int (nI kd)] [] (am_W I J T L C) = some (.int (nI (rng kd)), (am_W I J T L C)) := by
          rw [lf_atC (N := 11) rfl kd11 (by decide), (rng_ok kd kd11).1]
        have hr := (rng_ok kd kd11).2
        rw [if_neg (show ¬ nI kd = 11 from nb_ne (c := kd) (n := 11) (by omega) (by decide) e11), c3, c4, es, hat, am_okb, am_vIi, rg_59_58, nI_l (by omega), hcf]
        by_cases d1 : 2 < t - g
        · refine Or.inl ?_
          rw [if_pos (show (2 : Int32) < nI (t - g) from nI_lt (a := 2) (b := t - g) d1 (by omega)), if_pos (Or.inl d1)]
          exact ⟨by decide, t61 _⟩
        · rw [if_neg (show ¬ (2 : Int32) < nI (t - g) from nI_nlt (a := 2) (b := t - g) (by omega) (by decide))]
          by_cases d2 : cnv tx g t < rng kd
          · refine Or.inr ?_
            rw [if_pos ((lg_cmp_lt _ _).mpr ((pk_lLT (by omega) (by omega)).mpr d2)), if_neg (fun e => by rcases e with e | e <;> omega)]
            exact ⟨rfl, hb, rfl, fin _ hcy.symm⟩
          · refine Or.inl ?_
            rw [if_neg (fun e => d2 ((pk_lLT (by omega) (by omega)).mp ((lg_cmp_lt _ _).mp e))), if_pos (Or.inr (by omega))]
            exact ⟨by decide, t61 _⟩

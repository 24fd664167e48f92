/-! TP in both. -/
theorem wb_wb {m : Int32} {j : Nat} {a b : Bool} (hj : j < 32) : am_wb (am_wb m j a) j b = am_wb m j b := by
  apply bt_ext
  intro x hx
  rw [bt_wb hj hx, bt_wb hj hx, bt_wb hj hx]
  split <;> rfl
theorem R_p_set {m : Int32} {I : Nat → Nat → Int32} {j : Nat} {c b : Bool} (h : R_p m (I 85)) (hj : j < 8) (hcb : c = true ∨ b = false) : R_p (am_wb m j c) (am_up I 85 j (am_b01 b) 85) := by
  intro x hx
  rw [bt_wb (by omega) (by omega), am_up_at]
  by_cases e : x = j
  · rw [if_pos e, if_pos ⟨rfl, e⟩]
    cases c with
    | true => exact Or.inl ⟨rfl, b, rfl⟩
    | false =>
      rcases hcb with h | h
      · exact absurd h (by decide)
      · rw [h]; exact Or.inr ⟨rfl, rfl⟩
  · rw [if_neg e, if_neg (fun h => e h.2)]
    exact h x hx
theorem R_p_up {m : Int32} {I : Nat → Nat → Int32} {j : Nat} (h : R_p m (I 85)) (hb : am_bt m j = false) : R_p m (am_up I 85 j (am_b01 false) 85) := by
  intro x hx
  rw [am_up_at]
  by_cases e : x = j
  · rw [if_pos ⟨rfl, e⟩, e]
    exact Or.inr ⟨hb, rfl⟩
  · rw [if_neg (fun h => e h.2)]
    exact h x hx
theorem so_tp_n {L : Nat} {C : Nat × Nat} {Lm : Nat} {Cm : Nat × Nat} {Tm : Nat → Nat → Nat} {I : Nat → Nat → Int32} {J : Nat → Nat → Int64} {T : Nat → Nat → Nat} {I' : Nat → Nat → Int32} {J' : Nat → Nat → Int64} {p i d j : Nat} (hg : am_bt (I 28 5) j = false) (hb : pb_on I = false) (hp : p < 80) (hi : i < 160) (hT : T 44 p = 1034) (e51 : I' 51 i = 24) (hn : I 46 p = nI j) (hj : j < 8) (e54 : I' 54 i = nI j) (e55 : I' 55 i = I 47 p) (R : R_run I J I' J') (s0 : I 22 3 = 0) (rl : R_list I T I' d) : SO L C Lm Cm Tm p i d I J T I' J' := by
  obtain ⟨⟨c0, c1, c2, c3, c4, c5, c6, c7, c8, c9⟩, ⟨p0, p1, p2, p3, p4, p5, p6, p7, p8⟩, ⟨k1, k2⟩⟩ := R
  have hq : I' 85 j = am_b01 false := by
    rcases p4 j hj with ⟨h, _⟩ | ⟨_, h⟩
    · rw [hg] at h; exact absurd h (by decide)
    · exact h
  have hs1 : J' 84 j = -1 := by
    rcases p3 j hj with ⟨h, _⟩ | ⟨_, h⟩
    · rw [hg] at h; exact absurd h (by decide)
    · exact h
  have hm : am_E 146 0 [.ref 49, .int (nI i), .null, .null] [] (am_W I' J' Tm Lm Cm) = some (.int 0, am_W (am_up (am_up (am_up (am_up I' 75 j 0) 76 j 0) 85 j (am_b01 false)) 49 60 0) J' Tm Lm Cm) := by
    refine mo_act_24 I' J' Tm Lm Cm hi e51 ?_
    rw [e54, mo_tm_head, (on_eq rl.1).trans hb, mo_tp_175 I' J' Tm Lm Cm (b := false) hj hq]
    show am_E 137 175 [.ref 49, .int 24, .int (nI j), .int (I' 55 i), .int (am_b01 false)] [.long (J' 84 j), .int (nI j), .ref 84] _ = _
    rw [mo_tp_n _ J' Tm Lm Cm (b := false) (J' 84 j) hj (by rw [hs1]; decide +kernel), am_up_same]
    show some (Value.null, am_W (am_up (am_up (am_up (am_up I' 75 j 0) 76 j 0) 85 j (am_b01 false)) 49 60 (am_up (am_up I' 75 j 0) 76 j 0 76 j)) J' Tm Lm Cm) = _
    rw [am_up_here]
  have hc : in_cl L C (T 44 p) p (am_up I 22 8 (nI (p + 1))) J T (am_up (am_tm (am_up I 22 8 (nI (p + 1))) j false 0) 22 7 (am_b01 false)) J T := by
    rw [hT]
    refine in_blk rfl (by decide) hp (op_blk_33 _ J T L C) ?_
    show am_E 16 0 [.ref 22, .ref 1034, .int (I 46 p), .int (I 47 p), .null] [] _ = _
    rw [hn]
    refine (pb_33 (am_up I 22 8 (nI (p + 1))) J T L C (I 47 p) hj).trans ?_
    show some (Value.null, am_W (pb_T (pa_tpIb (am_up I 22 8 (nI (p + 1))) J j (pb_on I) (I 47 p) (J 22 1)) j) (pa_tpJb (am_up I 22 8 (nI (p + 1))) J j (pb_on I) (J 22 1)) T L C) = _
    rw [hb]
    have e1 : pa_tpIb (am_up I 22 8 (nI (p + 1))) J j false (I 47 p) (J 22 1) = am_tm (am_up I 22 8 (nI (p + 1))) j false 0 := by
      show cond (am_bt (I 28 5) j || false) _ _ = _
      rw [hg]; rfl
    have e2 : pa_tpJb (am_up I 22 8 (nI (p + 1))) J j false (J 22 1) = J := by
      show cond (am_bt (I 28 5) j || false) _ _ = _
      rw [hg]; rfl
    rw [e1, e2]
    show some (Value.null, am_W (am_up (am_tm (am_up I 22 8 (nI (p + 1))) j false 0) 22 7 (am_b01 (am_bt (am_wb (I 24 4) j false) j))) J T L C) = _
    rw [wb_bt (by omega)]
  refine so_gen hc hm ⟨⟨c0, c1, c2, c3, R_b_over (X := am_up I' 75 j 0) (j := j) (b := false) c4 (by decide) (by omega) (fun _ _ => rfl), c5, c6, R_e_set (f := am_up I 24 4 (am_wb (I 24 4) j false)) c7, c8, c9⟩, ⟨p0, p1, p2, p3, R_p_up (m := I 28 5) (j := j) p4 hg, p5, p6, p7, p8⟩, ⟨k1, k2⟩⟩ s0 rl rfl ?_ (fun _ _ _ => rfl) ?_ (fun _ _ _ => rfl) rfl rfl rfl (fun _ => rfl) rfl (fun _ => rfl) (fun _ => rfl)
  · intro q k h
    show am_up (am_up (am_up (am_up I 22 8 (nI (p + 1))) 24 4 _) 26 j _) 22 7 _ q k = _
    rw [am_up_ne (by omega), am_up_ne (by omega), am_up_ne (by omega), am_up_ne (by omega)]
  · intro q k h
    show am_up (am_up (am_up (am_up I' 75 j _) 76 j _) 85 j _) 49 60 _ q k = _
    rw [am_up_ne (by omega), am_up_ne (by omega), am_up_ne (by omega), am_up_ne (by omega)]
theorem so_tp_g {L : Nat} {C : Nat × Nat} {Lm : Nat} {Cm : Nat × Nat} {Tm : Nat → Nat → Nat} {I : Nat → Nat → Int32} {J : Nat → Nat → Int64} {T : Nat → Nat → Nat} {I' : Nat → Nat → Int32} {J' : Nat → Nat → Int64} {p i d j : Nat} (hg : am_bt (I 28 5) j = true ∨ pb_on I = true) (hp : p < 80) (hi : i < 160) (hT : T 44 p = 1034) (e51 : I' 51 i = 24) (hn : I 46 p = nI j) (hj : j < 8) (e54 : I' 54 i = nI j) (e55 : I' 55 i = I 47 p) (R : R_run I J I' J') (s0 : I 22 3 = 0) (rl : R_list I T I' d) : SO L C Lm Cm Tm p i d I J T I' J' := by
  obtain ⟨⟨c0, c1, c2, c3, c4, c5, c6, c7, c8, c9⟩, ⟨p0, p1, p2, p3, p4, p5, p6, p7, p8⟩, ⟨k1, k2⟩⟩ := R
  obtain ⟨t1, t2, t3⟩ := R_t_go p3 hj k2
  have hq : ∃ q, I' 85 j = am_b01 q ∧ mo_tpS J' j (pb_on I) q = pa_tpJ I J j (J 22 1) 31 j := by
    rcases p3 j hj with ⟨h5, e, gz⟩ | ⟨h5, e⟩
    · have hs : J' 84 j = pa_tpJ I J j (J 22 1) 31 j := by
        rw [if_pos ((lg_cmp_ge _ _).mpr gz)] at t1
        exact t1
      rcases p4 j hj with ⟨_, q, h⟩ | ⟨h, _⟩
      · refine ⟨q, h, ?_⟩
        unfold mo_tpS
        rw [if_pos ((lg_cmp_ge _ _).mpr gz), ← hs]
        cases pb_on I <;> rfl
      · rw [h5] at h; exact absurd h (by decide)
    · rcases p4 j hj with ⟨h, _⟩ | ⟨_, h⟩
      · rw [h5] at h; exact absurd h (by decide)
      · refine ⟨false, h, ?_⟩
        rcases hg with hg | hg
        · rw [h5] at hg; exact absurd hg (by decide)
        · unfold mo_tpS
          rw [hg, k1]
          exact t1
  obtain ⟨q, hq, hS⟩ := hq
  have hm0 : am_E 137 0 [.ref 49, .int 24, .int (I' 54 i), .int (I' 55 i), .null] [] (am_W I' J' Tm Lm Cm) = (if (am_past (J 22 1) (pa_tpJ I J j (J 22 1) 31 j) (I 47 p)) = I 47 p ∧ pb_on I = false then some (.null, am_W (am_up (am_up (mo_tpI (mo_t0 I' j) j (pb_on I) (I 47 p) (am_past (J 22 1) (pa_tpJ I J j (J 22 1) 31 j) (I 47 p))) 75 j 0) 49 60 (am_b01 (decide ((am_past (J 22 1) (pa_tpJ I J j (J 22 1) 31 j) (I 47 p)) < I 47 p)))) (am_up (am_up J' 84 j (pa_tpJ I J j (J 22 1) 31 j)) 84 j (-1)) Tm Lm Cm) else some (.null, am_W (am_up (mo_tpI (mo_t0 I' j) j (pb_on I) (I 47 p) (am_past (J 22 1) (pa_tpJ I J j (J 22 1) 31 j) (I 47 p))) 49 60 (am_b01 (decide ((am_past (J 22 1) (pa_tpJ I J j (J 22 1) 31 j) (I 47 p)) < I 47 p)))) (am_up J' 84 j (pa_tpJ I J j (J 22 1) 31 j)) Tm Lm Cm)) := by
    rw [e54, e55, mo_tm_head, on_eq rl.1, mo_tp_175 I' J' Tm Lm Cm (b := pb_on I) hj hq, hS, mo_tp_g _ J' Tm Lm Cm (b := pb_on I) (pa_tpJ I J j (J 22 1) 31 j) hj (fun h => by
      have h1 := (lg_cmp_lt _ _).mp h
      exact absurd t3 (Int64.not_le.mpr h1)), k1]
  have hc0 : in_cl L C (T 44 p) p (am_up I 22 8 (nI (p + 1))) J T (am_up (am_tm (am_up (am_up I 22 8 (nI (p + 1))) 28 5 (am_wb (I 28 5) j (!(decide ((am_past (J 22 1) (pa_tpJ I J j (J 22 1) 31 j) (I 47 p)) = I 47 p) && !pb_on I)))) j (decide ((am_past (J 22 1) (pa_tpJ I J j (J 22 1) 31 j) (I 47 p)) < I 47 p)) (cond (decide ((am_past (J 22 1) (pa_tpJ I J j (J 22 1) 31 j) (I 47 p)) = I 47 p) && !pb_on I) 0 (am_past (J 22 1) (pa_tpJ I J j (J 22 1) 31 j) (I 47 p)))) 22 7 (am_b01 (decide ((am_past (J 22 1) (pa_tpJ I J j (J 22 1) 31 j) (I 47 p)) < I 47 p)))) (pa_tpJ I J j (J 22 1)) T := by
    rw [hT]
    refine in_blk rfl (by decide) hp (op_blk_33 _ J T L C) ?_
    show am_E 16 0 [.ref 22, .ref 1034, .int (I 46 p), .int (I 47 p), .null] [] _ = _
    rw [hn]
    refine (pb_33 (am_up I 22 8 (nI (p + 1))) J T L C (I 47 p) hj).trans ?_
    show some (Value.null, am_W (pb_T (pa_tpIb (am_up I 22 8 (nI (p + 1))) J j (pb_on I) (I 47 p) (J 22 1)) j) (pa_tpJb (am_up I 22 8 (nI (p + 1))) J j (pb_on I) (J 22 1)) T L C) = _
    have e0 : (am_bt (I 28 5) j || pb_on I) = true := by
      rcases hg with hg | hg
      · rw [hg]; rfl
      · rw [hg, Bool.or_true]
    have e1 : pa_tpIb (am_up I 22 8 (nI (p + 1))) J j (pb_on I) (I 47 p) (J 22 1) = am_tm (am_up (am_up I 22 8 (nI (p + 1))) 28 5 (am_wb (I 28 5) j (!(decide ((am_past (J 22 1) (pa_tpJ I J j (J 22 1) 31 j) (I 47 p)) = I 47 p) && !pb_on I)))) j (decide ((am_past (J 22 1) (pa_tpJ I J j (J 22 1) 31 j) (I 47 p)) < I 47 p)) (cond (decide ((am_past (J 22 1) (pa_tpJ I J j (J 22 1) 31 j) (I 47 p)) = I 47 p) && !pb_on I) 0 (am_past (J 22 1) (pa_tpJ I J j (J 22 1) 31 j) (I 47 p))) := by
      show cond (am_bt (I 28 5) j || pb_on I) (am_tm (am_up (am_up I 22 8 (nI (p + 1))) 28 5 (am_wb (I 28 5) j (!(decide ((am_gone (J 22 1) (pa_tpJ I J j (J 22 1) 31 j) (I 47 p)) = I 47 p) && !pb_on I)))) j (decide ((am_gone (J 22 1) (pa_tpJ I J j (J 22 1) 31 j) (I 47 p)) < I 47 p)) (cond (decide ((am_gone (J 22 1) (pa_tpJ I J j (J 22 1) 31 j) (I 47 p)) = I 47 p) && !pb_on I) 0 (am_gone (J 22 1) (pa_tpJ I J j (J 22 1) 31 j) (I 47 p)))) _ = _
      rw [e0, am_gone_eq]; rfl
    have e2 : pa_tpJb (am_up I 22 8 (nI (p + 1))) J j (pb_on I) (J 22 1) = pa_tpJ I J j (J 22 1) := by
      show cond (am_bt (I 28 5) j || pb_on I) _ _ = _
      rw [e0]; rfl
    rw [e1, e2]
    show some (Value.null, am_W (am_up (am_tm (am_up (am_up I 22 8 (nI (p + 1))) 28 5 (am_wb (I 28 5) j (!(decide ((am_past (J 22 1) (pa_tpJ I J j (J 22 1) 31 j) (I 47 p)) = I 47 p) && !pb_on I)))) j (decide ((am_past (J 22 1) (pa_tpJ I J j (J 22 1) 31 j) (I 47 p)) < I 47 p)) (cond (decide ((am_past (J 22 1) (pa_tpJ I J j (J 22 1) 31 j) (I 47 p)) = I 47 p) && !pb_on I) 0 (am_past (J 22 1) (pa_tpJ I J j (J 22 1) 31 j) (I 47 p)))) 22 7 (am_b01 (am_bt (am_wb (I 24 4) j (decide ((am_past (J 22 1) (pa_tpJ I J j (J 22 1) 31 j) (I 47 p)) < I 47 p))) j))) (pa_tpJ I J j (J 22 1)) T L C) = _
    rw [wb_bt (by omega)]
  by_cases ho : (am_past (J 22 1) (pa_tpJ I J j (J 22 1) 31 j) (I 47 p)) = I 47 p ∧ pb_on I = false
  · rw [if_pos ho] at hm0
    have hm := mo_act_24 I' J' Tm Lm Cm hi e51 hm0
    have ob : pb_on I = false := ho.2
    have eo : (decide ((am_past (J 22 1) (pa_tpJ I J j (J 22 1) 31 j) (I 47 p)) = I 47 p) && !pb_on I) = true := by rw [decide_eq_true ho.1, ob]; rfl
    have hc := hc0
    rw [eo] at hc
    have t4 : R_t (am_wb (I 28 5) j false) (pa_tpJ I J j (J 22 1) 31) (am_up (am_up J' 84 j (pa_tpJ I J j (J 22 1) 31 j)) 84 j (-1) 84) := by
      have h := R_t_stop t2 hj
      rw [wb_wb (by omega)] at h
      exact h
    refine so_gen hc hm ⟨⟨c0, c1, c2, c3, R_b_over (X := am_up (am_up (am_up (am_up I' 75 j 0) 76 j 0) 85 j (am_b01 (pb_on I))) 75 j (am_past (J 22 1) (pa_tpJ I J j (J 22 1) 31 j) (I 47 p))) (j := j) (b := decide ((am_past (J 22 1) (pa_tpJ I J j (J 22 1) 31 j) (I 47 p)) < I 47 p)) c4 (by decide) (by omega) ?_, c5, c6, R_e_over (f := am_up I 24 4 (am_wb (I 24 4) j (decide ((am_past (J 22 1) (pa_tpJ I J j (J 22 1) 31 j) (I 47 p)) < I 47 p)))) (j := j) (v := 0) (X := am_up (am_up (am_up (am_up (am_up I' 75 j 0) 76 j 0) 85 j (am_b01 (pb_on I))) 75 j (am_past (J 22 1) (pa_tpJ I J j (J 22 1) 31 j) (I 47 p))) 76 j (am_b01 (decide ((am_past (J 22 1) (pa_tpJ I J j (J 22 1) 31 j) (I 47 p)) < I 47 p)))) c7 ?_, c8, c9⟩, ⟨?_, p1, ?_, t4, R_p_set (c := false) (b := pb_on I) (j := j) p4 hj (Or.inr (by rw [ob])), p5, p6, p7, p8⟩, ⟨?_, ?_⟩⟩ s0 rl rfl ?_ ?_ ?_ ?_ rfl rfl rfl (fun _ => rfl) rfl (fun _ => rfl) (fun _ => rfl)
    · intro x hx
      show am_up (am_up I' 75 j 0) 76 j 0 76 x = _
      rw [am_up_ne (by omega)]; rfl
    · intro x hx
      show am_up (am_up I' 75 j 0) 75 j _ 75 x = _
      rw [am_up_ne (by omega), am_up_ne (by omega)]
    · show R_t _ (cond _ J (am_up J 31 j _) 29) _
      rw [cond_row _ _ _ _ _ _ (by decide)]; exact p0
    · show R_t _ (cond _ J (am_up J 31 j _) 30) _
      rw [cond_row _ _ _ _ _ _ (by decide)]; exact p2
    · show J' 49 44 = cond _ J (am_up J 31 j _) 22 1
      rw [cond_row _ _ _ _ _ _ (by decide)]; exact k1
    · show 0 ≤ cond _ J (am_up J 31 j _) 22 1
      rw [cond_row _ _ _ _ _ _ (by decide)]; exact k2
    · intro q k h
      show am_up (am_up (am_up (am_up (am_up I 22 8 (nI (p + 1))) 28 5 _) 24 4 _) 26 j _) 22 7 _ q k = _
      rw [am_up_ne (by omega), am_up_ne (by omega), am_up_ne (by omega), am_up_ne (by omega), am_up_ne (by omega)]
    · intro q k h
      show cond _ J (am_up J 31 j _) q k = _
      rw [cond_row _ _ _ _ _ _ (by omega)]
    · intro q k h
      show am_up (am_up (am_up (am_up (am_up (am_up (am_up I' 75 j _) 76 j _) 85 j _) 75 j _) 76 j _) 75 j _) 49 60 _ q k = _
      rw [am_up_ne (by omega), am_up_ne (by omega), am_up_ne (by omega), am_up_ne (by omega), am_up_ne (by omega), am_up_ne (by omega), am_up_ne (by omega)]
    · intro q k h
      rw [am_up_ne (by omega), am_up_ne (by omega)]
  · rw [if_neg ho] at hm0
    have hm := mo_act_24 I' J' Tm Lm Cm hi e51 hm0
    have eo : (decide ((am_past (J 22 1) (pa_tpJ I J j (J 22 1) 31 j) (I 47 p)) = I 47 p) && !pb_on I) = false := by
      cases h1 : pb_on I with
      | true => rw [Bool.not_true, Bool.and_false]
      | false => rw [decide_eq_false (fun h2 => ho ⟨h2, h1⟩)]; rfl
    have hc := hc0
    rw [eo] at hc
    refine so_gen hc hm ⟨⟨c0, c1, c2, c3, R_b_over (X := am_up (am_up (am_up (am_up I' 75 j 0) 76 j 0) 85 j (am_b01 (pb_on I))) 75 j (am_past (J 22 1) (pa_tpJ I J j (J 22 1) 31 j) (I 47 p))) (j := j) (b := decide ((am_past (J 22 1) (pa_tpJ I J j (J 22 1) 31 j) (I 47 p)) < I 47 p)) c4 (by decide) (by omega) ?_, c5, c6, R_e_over (f := am_up I 24 4 (am_wb (I 24 4) j (decide ((am_past (J 22 1) (pa_tpJ I J j (J 22 1) 31 j) (I 47 p)) < I 47 p)))) (j := j) (v := (am_past (J 22 1) (pa_tpJ I J j (J 22 1) 31 j) (I 47 p))) (X := am_up (am_up (am_up I' 75 j 0) 76 j 0) 85 j (am_b01 (pb_on I))) c7 ?_, c8, c9⟩, ⟨?_, p1, ?_, t2, R_p_set (c := true) (b := pb_on I) (j := j) p4 hj (Or.inl rfl), p5, p6, p7, p8⟩, ⟨?_, ?_⟩⟩ s0 rl rfl ?_ ?_ ?_ ?_ rfl rfl rfl (fun _ => rfl) rfl (fun _ => rfl) (fun _ => rfl)
    · intro x hx
      show am_up (am_up I' 75 j 0) 76 j 0 76 x = _
      rw [am_up_ne (by omega)]; rfl
    · intro x hx
      show am_up I' 75 j 0 75 x = _
      rw [am_up_ne (by omega)]
    · show R_t _ (cond _ J (am_up J 31 j _) 29) _
      rw [cond_row _ _ _ _ _ _ (by decide)]; exact p0
    · show R_t _ (cond _ J (am_up J 31 j _) 30) _
      rw [cond_row _ _ _ _ _ _ (by decide)]; exact p2
    · show J' 49 44 = cond _ J (am_up J 31 j _) 22 1
      rw [cond_row _ _ _ _ _ _ (by decide)]; exact k1
    · show 0 ≤ cond _ J (am_up J 31 j _) 22 1
      rw [cond_row _ _ _ _ _ _ (by decide)]; exact k2
    · intro q k h
      show am_up (am_up (am_up (am_up (am_up I 22 8 (nI (p + 1))) 28 5 _) 24 4 _) 26 j _) 22 7 _ q k = _
      rw [am_up_ne (by omega), am_up_ne (by omega), am_up_ne (by omega), am_up_ne (by omega), am_up_ne (by omega)]
    · intro q k h
      show cond _ J (am_up J 31 j _) q k = _
      rw [cond_row _ _ _ _ _ _ (by omega)]
    · intro q k h
      show am_up (am_up (am_up (am_up (am_up (am_up I' 75 j _) 76 j _) 85 j _) 75 j _) 76 j _) 49 60 _ q k = _
      rw [am_up_ne (by omega), am_up_ne (by omega), am_up_ne (by omega), am_up_ne (by omega), am_up_ne (by omega), am_up_ne (by omega)]
    · intro q k h
      rw [am_up_ne (by omega)]
theorem so_tp {L : Nat} {C : Nat × Nat} {Lm : Nat} {Cm : Nat × Nat} {Tm : Nat → Nat → Nat} {I : Nat → Nat → Int32} {J : Nat → Nat → Int64} {T : Nat → Nat → Nat} {I' : Nat → Nat → Int32} {J' : Nat → Nat → Int64} {p i d j : Nat} (hp : p < 80) (hi : i < 160) (hT : T 44 p = 1034) (e51 : I' 51 i = 24) (hn : I 46 p = nI j) (hj : j < 8) (e54 : I' 54 i = nI j) (e55 : I' 55 i = I 47 p) (R : R_run I J I' J') (s0 : I 22 3 = 0) (rl : R_list I T I' d) : SO L C Lm Cm Tm p i d I J T I' J' := by
  cases hg : am_bt (I 28 5) j with
  | true => exact so_tp_g (Or.inl hg) hp hi hT e51 hn hj e54 e55 R s0 rl
  | false =>
    cases hb : pb_on I with
    | true => exact so_tp_g (Or.inr hb) hp hi hT e51 hn hj e54 e55 R s0 rl
    | false => exact so_tp_n hg hb hp hi hT e51 hn hj e54 e55 R s0 rl

/-! TIMERS in both. -/
theorem R_t_go {m : Int32} {Jc : Nat → Nat → Int64} {q : Nat} {Jm : Nat → Nat → Int64} {r j : Nat} {now : Int64} (h : R_t m (Jc q) (Jm r)) (hj : j < 8) (h0 : 0 ≤ now) : (if 0 ≤ lg_cmp (Jm r j) 0 then Jm r j else now) = (cond (am_bt m j) Jc (am_up Jc q j now)) q j ∧ R_t (am_wb m j true) ((cond (am_bt m j) Jc (am_up Jc q j now)) q) (am_up Jm r j ((cond (am_bt m j) Jc (am_up Jc q j now)) q j) r) ∧ 0 ≤ (cond (am_bt m j) Jc (am_up Jc q j now)) q j := by
  rcases h j hj with ⟨b1, e, g⟩ | ⟨b0, e⟩
  · rw [b1, if_pos ((lg_cmp_ge _ _).mpr g)]
    refine ⟨e, ?_, by rw [e] at g; exact g⟩
    intro x hx
    rw [bt_wb (by omega) (by omega), am_up_at]
    by_cases ex : x = j
    · rw [if_pos ex, if_pos ⟨rfl, ex⟩]
      exact Or.inl ⟨rfl, by rw [ex], by rw [e] at g; exact g⟩
    · rw [if_neg ex, if_neg (fun h => ex h.2)]
      exact h x hx
  · have ng : ¬ 0 ≤ lg_cmp (Jm r j) 0 := by
      intro g
      have g2 := (lg_cmp_ge _ _).mp g
      rw [e] at g2
      exact absurd g2 (by decide +kernel)
    rw [b0, if_neg ng]
    refine ⟨(am_up_here _ _ _ _).symm, ?_, by rw [cond_false, am_up_here]; exact h0⟩
    intro x hx
    rw [cond_false, am_up_here, bt_wb (by omega) (by omega), am_up_at, am_up_at]
    by_cases ex : x = j
    · rw [if_pos ex, if_pos ⟨rfl, ex⟩, if_pos ⟨rfl, ex⟩]
      exact Or.inl ⟨rfl, rfl, h0⟩
    · rw [if_neg ex, if_neg (fun h => ex h.2), if_neg (fun h => ex h.2)]
      exact h x hx
theorem R_t_stop {m : Int32} {b : Nat → Int64} {Jm : Nat → Nat → Int64} {r j : Nat} (h : R_t m b (Jm r)) (hj : j < 8) : R_t (am_wb m j false) b (am_up Jm r j (-1) r) := by
  intro x hx
  rw [bt_wb (by omega) (by omega), am_up_at]
  by_cases ex : x = j
  · rw [if_pos ex, if_pos ⟨rfl, ex⟩]
    exact Or.inr ⟨rfl, rfl⟩
  · rw [if_neg ex, if_neg (fun h => ex h.2)]
    exact h x hx
theorem cond_row {α : Type} (b : Bool) (J : Nat → Nat → α) (q j : Nat) (v : α) (a : Nat) (h : a ≠ q) : (cond b J (am_up J q j v)) a = J a := by
  cases b with
  | true => rfl
  | false =>
    funext x
    rw [cond_false, am_up_ne (fun e => h e.1)]
theorem wb_same {m : Int32} {j : Nat} (hj : j < 32) (h : am_bt m j = true) : am_wb m j true = m := by
  apply bt_ext
  intro x hx
  rw [bt_wb hj hx]
  by_cases e : x = j
  · rw [if_pos e, e, h]
  · rw [if_neg e]
theorem pa_offI_eq (I : Nat → Nat → Int32) {j : Nat} (hj : j < 8) : pa_offI I j = am_up I 28 3 (am_wb (I 28 3) j true) := by
  unfold pa_offI
  cases h : am_bt (I 28 3) j with
  | false => rfl
  | true => rw [wb_same (by omega) h, am_up_same]; rfl
theorem so_ton {L : Nat} {C : Nat × Nat} {Lm : Nat} {Cm : Nat × Nat} {Tm : Nat → Nat → Nat} {I : Nat → Nat → Int32} {J : Nat → Nat → Int64} {T : Nat → Nat → Nat} {I' : Nat → Nat → Int32} {J' : Nat → Nat → Int64} {p i d j : Nat} (hp : p < 80) (hi : i < 160) (hT : T 44 p = 1032) (e51 : I' 51 i = 22) (hn : I 46 p = nI j) (hj : j < 8) (e54 : I' 54 i = nI j) (e55 : I' 55 i = I 47 p) (R : R_run I J I' J') (s0 : I 22 3 = 0) (rl : R_list I T I' d) : SO L C Lm Cm Tm p i d I J T I' J' := by
  obtain ⟨⟨c0, c1, c2, c3, c4, c5, c6, c7, c8, c9⟩, ⟨p0, p1, p2, p3, p4, p5, p6, p7, p8⟩, ⟨k1, k2⟩⟩ := R
  cases hb : pb_on I with
  | false =>
    have hm := mo_act_22 I' J' Tm Lm Cm hi e51 (by rw [e54]; exact mo_ton0 I' J' Tm Lm Cm (x := I' 55 i) hj ((on_eq rl.1).trans hb))
    have hc : in_cl L C (T 44 p) p (am_up I 22 8 (nI (p + 1))) J T (am_up (am_tm (am_up (am_up I 22 8 (nI (p + 1))) 28 0 (am_wb (I 28 0) j false)) j false 0) 22 7 (am_b01 false)) J T := by
      rw [hT]
      refine in_blk rfl (by decide) hp (op_blk_31 _ J T L C) ?_
      show am_E 16 0 [.ref 22, .ref 1032, .int (I 46 p), .int (I 47 p), .null] [] _ = _
      rw [hn]
      refine (pb_31 (am_up I 22 8 (nI (p + 1))) J T L C (I 47 p) hj).trans ?_
      show some (Value.null, am_W (pb_T (pa_onIb (am_up I 22 8 (nI (p + 1))) J j (pb_on I) (I 47 p) (J 22 1)) j) (pa_onJb (am_up I 22 8 (nI (p + 1))) J j (pb_on I) (J 22 1)) T L C) = _
      rw [hb]
      show some (Value.null, am_W (am_up (am_tm (am_up (am_up I 22 8 (nI (p + 1))) 28 0 (am_wb (I 28 0) j false)) j false 0) 22 7 (am_b01 (am_bt (am_wb (I 24 4) j false) j))) (J) T L C) = _
      rw [wb_bt (by omega)]
    refine so_gen hc hm ⟨⟨c0, c1, c2, c3, R_b_over (X := am_up I' 75 j 0) (j := j) (b := false) c4 (by decide) (by omega) (fun _ _ => rfl), c5, c6, R_e_set (f := am_up I 24 4 (am_wb (I 24 4) j false)) c7, c8, c9⟩, ⟨R_t_stop p0 hj, p1, p2, p3, p4, p5, p6, p7, p8⟩, ⟨k1, k2⟩⟩ s0 rl rfl ?_ (fun _ _ _ => rfl) ?_ ?_ rfl rfl rfl (fun _ => rfl) rfl (fun _ => rfl) (fun _ => rfl)
    · intro q k h
      show am_up (am_up (am_up (am_up (am_up I 22 8 (nI (p + 1))) 28 0 _) 24 4 _) 26 j _) 22 7 _ q k = _
      rw [am_up_ne (by omega), am_up_ne (by omega), am_up_ne (by omega), am_up_ne (by omega), am_up_ne (by omega)]
    · intro q k h
      show am_up (am_up (am_up I' 75 j _) 76 j _) 49 60 _ q k = _
      rw [am_up_ne (by omega), am_up_ne (by omega), am_up_ne (by omega)]
    · intro q k h
      rw [am_up_ne (by omega)]
  | true =>
    obtain ⟨t1, t2, t3⟩ := R_t_go p0 hj k2
    have hS : mo_onS J' j = pa_onJ I J j (J 22 1) 29 j := by
      unfold mo_onS
      rw [k1]
      exact t1
    have hm := mo_act_22 I' J' Tm Lm Cm hi e51 (by rw [e54]; exact mo_ton1 I' J' Tm Lm Cm (x := I' 55 i) hj ((on_eq rl.1).trans hb))
    rw [k1, hS, e55] at hm
    have hc : in_cl L C (T 44 p) p (am_up I 22 8 (nI (p + 1))) J T (am_up (am_tm (am_up (am_up I 22 8 (nI (p + 1))) 28 0 (am_wb (I 28 0) j true)) j (decide ((am_past (J 22 1) (pa_onJ I J j (J 22 1) 29 j) (I 47 p)) = I 47 p)) (am_past (J 22 1) (pa_onJ I J j (J 22 1) 29 j) (I 47 p))) 22 7 (am_b01 (decide ((am_past (J 22 1) (pa_onJ I J j (J 22 1) 29 j) (I 47 p)) = I 47 p)))) (pa_onJ I J j (J 22 1)) T := by
      rw [hT]
      refine in_blk rfl (by decide) hp (op_blk_31 _ J T L C) ?_
      show am_E 16 0 [.ref 22, .ref 1032, .int (I 46 p), .int (I 47 p), .null] [] _ = _
      rw [hn]
      refine (pb_31 (am_up I 22 8 (nI (p + 1))) J T L C (I 47 p) hj).trans ?_
      show some (Value.null, am_W (pb_T (pa_onIb (am_up I 22 8 (nI (p + 1))) J j (pb_on I) (I 47 p) (J 22 1)) j) (pa_onJb (am_up I 22 8 (nI (p + 1))) J j (pb_on I) (J 22 1)) T L C) = _
      rw [hb]
      show some (Value.null, am_W (am_up (am_tm (am_up (am_up I 22 8 (nI (p + 1))) 28 0 (am_wb (I 28 0) j true)) j (decide ((am_gone (J 22 1) (pa_onJ I J j (J 22 1) 29 j) (I 47 p)) = I 47 p)) (am_gone (J 22 1) (pa_onJ I J j (J 22 1) 29 j) (I 47 p))) 22 7 (am_b01 (am_bt (am_wb (I 24 4) j (decide ((am_gone (J 22 1) (pa_onJ I J j (J 22 1) 29 j) (I 47 p)) = I 47 p))) j))) (pa_onJ I J j (J 22 1)) T L C) = _
      rw [wb_bt (by omega), am_gone_eq]
    refine so_gen hc hm ⟨⟨c0, c1, c2, c3, R_b_over (X := am_up (am_up (am_up I' 75 j 0) 76 j 0) 75 j (am_past (J 22 1) (pa_onJ I J j (J 22 1) 29 j) (I 47 p))) (j := j) (b := decide ((am_past (J 22 1) (pa_onJ I J j (J 22 1) 29 j) (I 47 p)) = I 47 p)) c4 (by decide) (by omega) ?_, c5, c6, R_e_over (f := am_up I 24 4 (am_wb (I 24 4) j (decide ((am_past (J 22 1) (pa_onJ I J j (J 22 1) 29 j) (I 47 p)) = I 47 p)))) (X := am_up (am_up I' 75 j 0) 76 j 0) c7 ?_, c8, c9⟩, ⟨t2, p1, ?_, ?_, p4, p5, p6, p7, p8⟩, ⟨?_, ?_⟩⟩ s0 rl rfl ?_ ?_ ?_ ?_ rfl rfl rfl (fun _ => rfl) rfl (fun _ => rfl) (fun _ => rfl)
    · intro x hx
      show am_up (am_up I' 75 j 0) 76 j 0 76 x = _
      rw [am_up_ne (by omega)]; rfl
    · intro x hx
      show am_up I' 75 j 0 75 x = _
      rw [am_up_ne (by omega)]
    · show R_t _ (cond _ J (am_up J 29 j _) 30) _
      rw [cond_row _ _ _ _ _ _ (by decide)]; exact p2
    · show R_t _ (cond _ J (am_up J 29 j _) 31) _
      rw [cond_row _ _ _ _ _ _ (by decide)]; exact p3
    · show J' 49 44 = cond _ J (am_up J 29 j _) 22 1
      rw [cond_row _ _ _ _ _ _ (by decide)]; exact k1
    · show 0 ≤ cond _ J (am_up J 29 j _) 22 1
      rw [cond_row _ _ _ _ _ _ (by decide)]; exact k2
    · intro q k h
      show am_up (am_up (am_up (am_up (am_up I 22 8 (nI (p + 1))) 28 0 _) 24 4 _) 26 j _) 22 7 _ q k = _
      rw [am_up_ne (by omega), am_up_ne (by omega), am_up_ne (by omega), am_up_ne (by omega), am_up_ne (by omega)]
    · intro q k h
      show cond _ J (am_up J 29 j _) q k = _
      rw [cond_row _ _ _ _ _ _ (by omega)]
    · intro q k h
      show am_up (am_up (am_up (am_up (am_up I' 75 j _) 76 j _) 75 j _) 76 j _) 49 60 _ q k = _
      rw [am_up_ne (by omega), am_up_ne (by omega), am_up_ne (by omega), am_up_ne (by omega), am_up_ne (by omega)]
    · intro q k h
      rw [am_up_ne (by omega)]

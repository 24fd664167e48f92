/-! TOF in both. -/
theorem R_b_up {m : Int32} {I : Nat → Nat → Int32} {q n j : Nat} {v : Int32} (h : R_b m (I q) n) (hv : v = am_b01 (am_bt m j)) : R_b m (am_up I q j v q) n := by
  intro x hx
  rw [am_up_at]
  by_cases e : x = j
  · rw [if_pos ⟨rfl, e⟩, e, hv]
  · rw [if_neg (fun h => e h.2)]
    exact h x hx
theorem so_tof {L : Nat} {C : Nat × Nat} {Lm : Nat} {Cm : Nat × Nat} {Tm : Nat → Nat → Nat} {I : Nat → Nat → Int32} {J : Nat → Nat → Int64} {T : Nat → Nat → Nat} {I' : Nat → Nat → Int32} {J' : Nat → Nat → Int64} {p i d j : Nat} (hp : p < 80) (hi : i < 160) (hT : T 44 p = 1033) (e51 : I' 51 i = 23) (hn : I 46 p = nI j) (hj : j < 8) (e54 : I' 54 i = nI j) (e55 : I' 55 i = I 47 p) (R : R_run I J I' J') (s0 : I 22 3 = 0) (rl : R_list I T I' d) : SO L C Lm Cm Tm p i d I J T I' J' := by
  obtain ⟨⟨c0, c1, c2, c3, c4, c5, c6, c7, c8, c9⟩, ⟨p0, p1, p2, p3, p4, p5, p6, p7, p8⟩, ⟨k1, k2⟩⟩ := R
  cases hb : pb_on I with
  | true =>
    have hm := mo_act_23 I' J' Tm Lm Cm hi e51 (by rw [e54]; exact mo_tof1 I' J' Tm Lm Cm (x := I' 55 i) hj (p1 j hj) ((on_eq rl.1).trans hb))
    have hc : in_cl L C (T 44 p) p (am_up I 22 8 (nI (p + 1))) J T (am_up (am_tm (am_up (am_up (am_up I 22 8 (nI (p + 1))) 28 2 (am_wb (I 28 2) j true)) 28 3 (am_wb (I 28 3) j false)) j true 0) 22 7 (am_b01 true)) J T := by
      rw [hT]
      refine in_blk rfl (by decide) hp (op_blk_32 _ J T L C) ?_
      show am_E 16 0 [.ref 22, .ref 1033, .int (I 46 p), .int (I 47 p), .null] [] _ = _
      rw [hn]
      refine (pb_32 (am_up I 22 8 (nI (p + 1))) J T L C (I 47 p) hj).trans ?_
      show some (Value.null, am_W (pb_T (pa_offIb (am_up I 22 8 (nI (p + 1))) J j (pb_on I) (I 47 p) (J 22 1)) j) (pa_offJb (am_up I 22 8 (nI (p + 1))) J j (pb_on I) (J 22 1)) T L C) = _
      rw [hb]
      show some (Value.null, am_W (am_up (am_tm (am_up (am_up (am_up I 22 8 (nI (p + 1))) 28 2 (am_wb (I 28 2) j true)) 28 3 (am_wb (I 28 3) j false)) j true 0) 22 7 (am_b01 (am_bt (am_wb (I 24 4) j true) j))) (J) T L C) = _
      rw [wb_bt (by omega)]
    refine so_gen hc hm ⟨⟨c0, c1, c2, c3, R_b_over (X := am_up (am_up (am_up I' 75 j 0) 76 j 0) 82 j 1) (j := j) (b := true) c4 (by decide) (by omega) ?_, c5, c6, R_e_set (f := am_up I 24 4 (am_wb (I 24 4) j true)) c7, c8, c9⟩, ⟨p0, R_b_set (b := true) (j := j) p1 (by decide) (by omega), R_t_stop p2 hj, p3, p4, p5, p6, p7, p8⟩, ⟨k1, k2⟩⟩ s0 rl rfl ?_ (fun _ _ _ => rfl) ?_ ?_ rfl rfl rfl (fun _ => rfl) rfl (fun _ => rfl) (fun _ => rfl)
    · intro x hx
      show am_up (am_up I' 75 j 0) 76 j 0 76 x = _
      rw [am_up_ne (by omega)]; rfl
    · intro q k h
      show am_up (am_up (am_up (am_up (am_up (am_up I 22 8 (nI (p + 1))) 28 2 _) 28 3 _) 24 4 _) 26 j _) 22 7 _ q k = _
      rw [am_up_ne (by omega), am_up_ne (by omega), am_up_ne (by omega), am_up_ne (by omega), am_up_ne (by omega), am_up_ne (by omega)]
    · intro q k h
      show am_up (am_up (am_up (am_up (am_up I' 75 j _) 76 j _) 82 j _) 76 j _) 49 60 _ q k = _
      rw [am_up_ne (by omega), am_up_ne (by omega), am_up_ne (by omega), am_up_ne (by omega), am_up_ne (by omega)]
    · intro q k h
      rw [am_up_ne (by omega)]
  | false =>
    cases hh : am_bt (I 28 2) j with
    | false =>
      have hS : mo_offS J' j false = J' 83 j := by
        unfold mo_offS
        split <;> rfl
      have hm := mo_act_23 I' J' Tm Lm Cm hi e51 (by rw [e54]; exact mo_tof0n I' J' Tm Lm Cm (x := I' 55 i) hj (by rw [p1 j hj, hh]) ((on_eq rl.1).trans hb))
      rw [hS, am_up_same] at hm
      have hc : in_cl L C (T 44 p) p (am_up I 22 8 (nI (p + 1))) J T (am_up (am_tm (am_up I 22 8 (nI (p + 1))) j false 0) 22 7 (am_b01 false)) J T := by
        rw [hT]
        refine in_blk rfl (by decide) hp (op_blk_32 _ J T L C) ?_
        show am_E 16 0 [.ref 22, .ref 1033, .int (I 46 p), .int (I 47 p), .null] [] _ = _
        rw [hn]
        refine (pb_32 (am_up I 22 8 (nI (p + 1))) J T L C (I 47 p) hj).trans ?_
        show some (Value.null, am_W (pb_T (pa_offIb (am_up I 22 8 (nI (p + 1))) J j (pb_on I) (I 47 p) (J 22 1)) j) (pa_offJb (am_up I 22 8 (nI (p + 1))) J j (pb_on I) (J 22 1)) T L C) = _
        rw [hb]
        have e1 : pa_offIb (am_up I 22 8 (nI (p + 1))) J j false (I 47 p) (J 22 1) = am_tm (am_up I 22 8 (nI (p + 1))) j false 0 := by
          show cond (am_bt (I 28 2) j) _ _ = _
          rw [hh]; rfl
        have e2 : pa_offJb (am_up I 22 8 (nI (p + 1))) J j false (J 22 1) = J := by
          show cond (am_bt (I 28 2) j) _ _ = _
          rw [hh]; rfl
        rw [e1, e2]
        show some (Value.null, am_W (am_up (am_tm (am_up I 22 8 (nI (p + 1))) j false 0) 22 7 (am_b01 (am_bt (am_wb (I 24 4) j false) j))) J T L C) = _
        rw [wb_bt (by omega)]
      refine so_gen hc hm ⟨⟨c0, c1, c2, c3, R_b_over (X := am_up (am_up I' 75 j 0) 82 j 0) (j := j) (b := false) c4 (by decide) (by omega) ?_, c5, c6, R_e_set (f := am_up I 24 4 (am_wb (I 24 4) j false)) c7, c8, c9⟩, ⟨p0, R_b_up (m := I 28 2) (v := 0) (j := j) p1 (by rw [hh]; rfl), p2, p3, p4, p5, p6, p7, p8⟩, ⟨k1, k2⟩⟩ s0 rl rfl ?_ (fun _ _ _ => rfl) ?_ (fun _ _ _ => rfl) rfl rfl rfl (fun _ => rfl) rfl (fun _ => rfl) (fun _ => rfl)
      · intro x hx
        rfl
      · intro q k h
        show am_up (am_up (am_up (am_up I 22 8 (nI (p + 1))) 24 4 _) 26 j _) 22 7 _ q k = _
        rw [am_up_ne (by omega), am_up_ne (by omega), am_up_ne (by omega), am_up_ne (by omega)]
      · intro q k h
        show am_up (am_up (am_up (am_up I' 75 j _) 76 j _) 82 j _) 49 60 _ q k = _
        rw [am_up_ne (by omega), am_up_ne (by omega), am_up_ne (by omega), am_up_ne (by omega)]
    | true =>
      obtain ⟨t1, t2, t3⟩ := R_t_go p2 hj k2
      have hS : mo_offS J' j true = pa_offJ I J j (J 22 1) 30 j := by
        unfold mo_offS
        rw [k1]
        exact t1
      have hm := mo_act_23 I' J' Tm Lm Cm hi e51 (by rw [e54]; exact mo_tof0 I' J' Tm Lm Cm (x := I' 55 i) hj (by rw [p1 j hj, hh]) ((on_eq rl.1).trans hb))
      rw [k1, hS, e55] at hm
      have hc : in_cl L C (T 44 p) p (am_up I 22 8 (nI (p + 1))) J T (am_up (am_tm (am_up (am_up I 22 8 (nI (p + 1))) 28 3 (am_wb (I 28 3) j true)) j (decide ((am_past (J 22 1) (pa_offJ I J j (J 22 1) 30 j) (I 47 p)) < I 47 p)) (am_past (J 22 1) (pa_offJ I J j (J 22 1) 30 j) (I 47 p))) 22 7 (am_b01 (decide ((am_past (J 22 1) (pa_offJ I J j (J 22 1) 30 j) (I 47 p)) < I 47 p)))) (pa_offJ I J j (J 22 1)) T := by
        rw [hT]
        refine in_blk rfl (by decide) hp (op_blk_32 _ J T L C) ?_
        show am_E 16 0 [.ref 22, .ref 1033, .int (I 46 p), .int (I 47 p), .null] [] _ = _
        rw [hn]
        refine (pb_32 (am_up I 22 8 (nI (p + 1))) J T L C (I 47 p) hj).trans ?_
        show some (Value.null, am_W (pb_T (pa_offIb (am_up I 22 8 (nI (p + 1))) J j (pb_on I) (I 47 p) (J 22 1)) j) (pa_offJb (am_up I 22 8 (nI (p + 1))) J j (pb_on I) (J 22 1)) T L C) = _
        rw [hb]
        have e1 : pa_offIb (am_up I 22 8 (nI (p + 1))) J j false (I 47 p) (J 22 1) = am_tm (am_up (am_up I 22 8 (nI (p + 1))) 28 3 (am_wb (I 28 3) j true)) j (decide ((am_past (J 22 1) (pa_offJ I J j (J 22 1) 30 j) (I 47 p)) < I 47 p)) (am_past (J 22 1) (pa_offJ I J j (J 22 1) 30 j) (I 47 p)) := by
          show cond (am_bt (I 28 2) j) (am_tm (pa_offI (am_up I 22 8 (nI (p + 1))) j) j (decide ((am_gone (J 22 1) (pa_offJ I J j (J 22 1) 30 j) (I 47 p)) < I 47 p)) (am_gone (J 22 1) (pa_offJ I J j (J 22 1) 30 j) (I 47 p))) _ = _
          rw [hh, pa_offI_eq _ hj, am_gone_eq]; rfl
        have e2 : pa_offJb (am_up I 22 8 (nI (p + 1))) J j false (J 22 1) = pa_offJ I J j (J 22 1) := by
          show cond (am_bt (I 28 2) j) _ _ = _
          rw [hh]; rfl
        rw [e1, e2]
        show some (Value.null, am_W (am_up (am_tm (am_up (am_up I 22 8 (nI (p + 1))) 28 3 (am_wb (I 28 3) j true)) j (decide ((am_past (J 22 1) (pa_offJ I J j (J 22 1) 30 j) (I 47 p)) < I 47 p)) (am_past (J 22 1) (pa_offJ I J j (J 22 1) 30 j) (I 47 p))) 22 7 (am_b01 (am_bt (am_wb (I 24 4) j (decide ((am_past (J 22 1) (pa_offJ I J j (J 22 1) 30 j) (I 47 p)) < I 47 p))) j))) (pa_offJ I J j (J 22 1)) T L C) = _
        rw [wb_bt (by omega)]
      refine so_gen hc hm ⟨⟨c0, c1, c2, c3, R_b_over (X := am_up (am_up (am_up (am_up I' 75 j 0) 76 j 0) 82 j 1) 75 j (am_past (J 22 1) (pa_offJ I J j (J 22 1) 30 j) (I 47 p))) (j := j) (b := decide ((am_past (J 22 1) (pa_offJ I J j (J 22 1) 30 j) (I 47 p)) < I 47 p)) c4 (by decide) (by omega) ?_, c5, c6, R_e_over (f := am_up I 24 4 (am_wb (I 24 4) j (decide ((am_past (J 22 1) (pa_offJ I J j (J 22 1) 30 j) (I 47 p)) < I 47 p)))) (X := am_up (am_up (am_up I' 75 j 0) 76 j 0) 82 j 1) c7 ?_, c8, c9⟩, ⟨?_, R_b_up (m := I 28 2) (v := 1) (j := j) p1 (by rw [hh]; rfl), t2, ?_, p4, p5, p6, p7, p8⟩, ⟨?_, ?_⟩⟩ s0 rl rfl ?_ ?_ ?_ ?_ rfl rfl rfl (fun _ => rfl) rfl (fun _ => rfl) (fun _ => rfl)
      · intro x hx
        show am_up (am_up I' 75 j 0) 76 j 0 76 x = _
        rw [am_up_ne (by omega)]; rfl
      · intro x hx
        show am_up I' 75 j 0 75 x = _
        rw [am_up_ne (by omega)]
      · show R_t _ (cond _ J (am_up J 30 j _) 29) _
        rw [cond_row _ _ _ _ _ _ (by decide)]; exact p0
      · show R_t _ (cond _ J (am_up J 30 j _) 31) _
        rw [cond_row _ _ _ _ _ _ (by decide)]; exact p3
      · show J' 49 44 = cond _ J (am_up J 30 j _) 22 1
        rw [cond_row _ _ _ _ _ _ (by decide)]; exact k1
      · show 0 ≤ cond _ J (am_up J 30 j _) 22 1
        rw [cond_row _ _ _ _ _ _ (by decide)]; exact k2
      · intro q k h
        show am_up (am_up (am_up (am_up (am_up I 22 8 (nI (p + 1))) 28 3 _) 24 4 _) 26 j _) 22 7 _ q k = _
        rw [am_up_ne (by omega), am_up_ne (by omega), am_up_ne (by omega), am_up_ne (by omega), am_up_ne (by omega)]
      · intro q k h
        show cond _ J (am_up J 30 j _) q k = _
        rw [cond_row _ _ _ _ _ _ (by omega)]
      · intro q k h
        show am_up (am_up (am_up (am_up (am_up (am_up I' 75 j _) 76 j _) 82 j _) 75 j _) 76 j _) 49 60 _ q k = _
        rw [am_up_ne (by omega), am_up_ne (by omega), am_up_ne (by omega), am_up_ne (by omega), am_up_ne (by omega), am_up_ne (by omega)]
      · intro q k h
        rw [am_up_ne (by omega)]

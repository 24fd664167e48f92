/-! COUNTERS in both. -/
theorem R_b_over {m : Int32} {I X : Nat → Nat → Int32} {q n j : Nat} {b : Bool} (h : R_b m (I q) n) (hn : n ≤ 32) (hj : j < 32) (hX : ∀ x, x ≠ j → X q x = I q x) : R_b (am_wb m j b) (am_up X q j (am_b01 b) q) n := by
  intro x hx
  rw [am_up_at, bt_wb hj (by omega)]
  by_cases e : x = j
  · rw [if_pos ⟨rfl, e⟩, if_pos e]
  · rw [if_neg (fun h => e h.2), if_neg e, hX x e]
    exact h x hx
theorem R_e_over {f : Nat → Nat → Int32} {I X : Nat → Nat → Int32} {q r n j : Nat} {v : Int32} (h : R_e (f r) (I q) n) (hX : ∀ x, x ≠ j → X q x = I q x) : R_e (am_up f r j v r) (am_up X q j v q) n := by
  intro x hx
  rw [am_up_at, am_up_at]
  by_cases e : x = j
  · rw [if_pos ⟨rfl, e⟩, if_pos ⟨rfl, e⟩]
  · rw [if_neg (fun h => e h.2), if_neg (fun h => e h.2), hX x e]
    exact h x hx
theorem wb_bt {m : Int32} {j : Nat} {b : Bool} (hj : j < 32) : am_bt (am_wb m j b) j = b := by rw [bt_wb hj hj, if_pos rfl]
theorem so_ctu {L : Nat} {C : Nat × Nat} {Lm : Nat} {Cm : Nat × Nat} {Tm : Nat → Nat → Nat} {I : Nat → Nat → Int32} {J : Nat → Nat → Int64} {T : Nat → Nat → Nat} {I' : Nat → Nat → Int32} {J' : Nat → Nat → Int64} {p i d j : Nat} (hp : p < 80) (hi : i < 160) (hT : T 44 p = 1035) (e51 : I' 51 i = 25) (hn : I 46 p = nI j) (hj : j < 8) (e54 : I' 54 i = nI j) (e55 : I' 55 i = I 47 p) (R : R_run I J I' J') (s0 : I 22 3 = 0) (rl : R_list I T I' d) : SO L C Lm Cm Tm p i d I J T I' J' := by
  obtain ⟨⟨c0, c1, c2, c3, c4, c5, c6, c7, c8, c9⟩, ⟨p0, p1, p2, p3, p4, p5, p6, p7, p8⟩, k⟩ := R
  have hv : mo_up I' j (pb_on I) (am_bt (I 28 7) j) = pa_up I j (pb_on I) := by
    unfold mo_up pa_up
    rw [c8 j hj]
  have hm := mo_act_25 I' J' Tm Lm Cm hi e51 (by rw [e54]; exact mo_ctu I' J' Tm Lm Cm (x := I' 55 i) hj (p5 j hj))
  rw [on_eq rl.1, hv, e55] at hm
  have hc : in_cl L C (T 44 p) p (am_up I 22 8 (nI (p + 1))) J T (am_up (pa_upI (am_up I 22 8 (nI (p + 1))) j (pb_on I) (I 47 p)) 22 7 (am_b01 (decide (I 47 p ≤ pa_up I j (pb_on I))))) J T := by
    rw [hT]
    refine in_blk rfl (by decide) hp (op_blk_34 _ J T L C) ?_
    show am_E 16 0 [.ref 22, .ref 1035, .int (I 46 p), .int (I 47 p), .null] [] _ = _
    rw [hn]
    refine (pb_34 (am_up I 22 8 (nI (p + 1))) J T L C (I 47 p) hj).trans ?_
    show some (Value.null, am_W (am_up (pa_upI (am_up I 22 8 (nI (p + 1))) j (pb_on I) (I 47 p)) 22 7 (am_b01 (am_bt (am_wb (I 24 5) j (decide (I 47 p ≤ pa_up I j (pb_on I)))) j))) J T L C) = _
    rw [wb_bt (by omega)]
  refine so_gen hc hm ⟨⟨c0, c1, c2, c3, c4, R_b_set c5 (by decide) (by omega), c6, c7, R_e_set (f := am_up (am_up I 22 8 (nI (p + 1))) 28 7 (am_wb (I 28 7) j (pb_on I))) c8, c9⟩, ⟨p0, p1, p2, p3, p4, R_b_set p5 (by decide) (by omega), p6, p7, p8⟩, k⟩ s0 rl rfl ?_ (fun _ _ _ => rfl) ?_ (fun _ _ _ => rfl) rfl rfl rfl (fun _ => rfl) rfl (fun _ => rfl) (fun _ => rfl)
  · intro q k h
    show am_up (am_up (am_up (am_up (am_up I 22 8 (nI (p + 1))) 28 7 _) 27 j _) 24 5 _) 22 7 _ q k = _
    rw [am_up_ne (by omega), am_up_ne (by omega), am_up_ne (by omega), am_up_ne (by omega), am_up_ne (by omega)]
  · intro q k h
    show am_up (am_up (am_up (am_up I' 77 j _) 86 j _) 78 j _) 49 60 _ q k = _
    rw [am_up_ne (by omega), am_up_ne (by omega), am_up_ne (by omega), am_up_ne (by omega)]
theorem so_ctd {L : Nat} {C : Nat × Nat} {Lm : Nat} {Cm : Nat × Nat} {Tm : Nat → Nat → Nat} {I : Nat → Nat → Int32} {J : Nat → Nat → Int64} {T : Nat → Nat → Nat} {I' : Nat → Nat → Int32} {J' : Nat → Nat → Int64} {p i d j : Nat} (hp : p < 80) (hi : i < 160) (hT : T 44 p = 1036) (e51 : I' 51 i = 26) (hn : I 46 p = nI j) (hj : j < 8) (e54 : I' 54 i = nI j) (e55 : I' 55 i = I 47 p) (R : R_run I J I' J') (s0 : I 22 3 = 0) (rl : R_list I T I' d) : SO L C Lm Cm Tm p i d I J T I' J' := by
  obtain ⟨⟨c0, c1, c2, c3, c4, c5, c6, c7, c8, c9⟩, ⟨p0, p1, p2, p3, p4, p5, p6, p7, p8⟩, k⟩ := R
  have hv : mo_dn I' j (pb_on I) (am_bt (I 28 8) j) = pa_dn I j (pb_on I) := by
    unfold mo_dn pa_dn
    rw [c8 j hj, Int32.sub_eq_add_neg]
  have hm := mo_act_26 I' J' Tm Lm Cm hi e51 (by rw [e54]; exact mo_ctd I' J' Tm Lm Cm (x := I' 55 i) hj (p6 j hj))
  rw [on_eq rl.1, hv] at hm
  have hc : in_cl L C (T 44 p) p (am_up I 22 8 (nI (p + 1))) J T (am_up (pa_dnI (am_up I 22 8 (nI (p + 1))) j (pb_on I)) 22 7 (am_b01 (decide (pa_dn I j (pb_on I) ≤ 0)))) J T := by
    rw [hT]
    refine in_blk rfl (by decide) hp (op_blk_35 _ J T L C) ?_
    show am_E 16 0 [.ref 22, .ref 1036, .int (I 46 p), .int (I 47 p), .null] [] _ = _
    rw [hn]
    refine (pb_35 (am_up I 22 8 (nI (p + 1))) J T L C (I 47 p) hj).trans ?_
    show some (Value.null, am_W (am_up (pa_dnI (am_up I 22 8 (nI (p + 1))) j (pb_on I)) 22 7 (am_b01 (am_bt (am_wb (I 24 5) j (decide (pa_dn I j (pb_on I) ≤ 0))) j))) J T L C) = _
    rw [wb_bt (by omega)]
  refine so_gen hc hm ⟨⟨c0, c1, c2, c3, c4, R_b_set c5 (by decide) (by omega), c6, c7, R_e_set (f := am_up (am_up I 22 8 (nI (p + 1))) 28 8 (am_wb (I 28 8) j (pb_on I))) c8, c9⟩, ⟨p0, p1, p2, p3, p4, p5, R_b_set p6 (by decide) (by omega), p7, p8⟩, k⟩ s0 rl rfl ?_ (fun _ _ _ => rfl) ?_ (fun _ _ _ => rfl) rfl rfl rfl (fun _ => rfl) rfl (fun _ => rfl) (fun _ => rfl)
  · intro q k h
    show am_up (am_up (am_up (am_up (am_up I 22 8 (nI (p + 1))) 28 8 _) 27 j _) 24 5 _) 22 7 _ q k = _
    rw [am_up_ne (by omega), am_up_ne (by omega), am_up_ne (by omega), am_up_ne (by omega), am_up_ne (by omega)]
  · intro q k h
    show am_up (am_up (am_up (am_up I' 77 j _) 87 j _) 78 j _) 49 60 _ q k = _
    rw [am_up_ne (by omega), am_up_ne (by omega), am_up_ne (by omega), am_up_ne (by omega)]

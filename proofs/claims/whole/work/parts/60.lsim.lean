/-! THE LIST in both. -/
def FRl (I : Nat → Nat → Int32) (J : Nat → Nat → Int64) (T : Nat → Nat → Nat) (I1 : Nat → Nat → Int32) (J1 : Nat → Nat → Int64) (T1 : Nat → Nat → Nat) : Prop := (∀ q k, (q < 22 ∨ 33 ≤ q ∨ (q = 22 ∧ k < 7 ∧ k ≠ 3 ∧ k ≠ 4)) → I1 q k = I q k) ∧ (∀ q k, (q < 29 ∨ 32 ≤ q) → J1 q k = J q k) ∧ (∀ q k, q ≠ 33 → T1 q k = T q k)
def FMl (I : Nat → Nat → Int32) (J : Nat → Nat → Int64) (I1 : Nat → Nat → Int32) (J1 : Nat → Nat → Int64) : Prop := (∀ q k, (q < 49 ∨ (q = 49 ∧ k < 59 ∧ k ≠ 46) ∨ (50 ≤ q ∧ q ≤ 70) ∨ q = 80 ∨ 92 ≤ q) → I1 q k = I q k) ∧ (∀ q k, (q < 81 ∨ 92 ≤ q) → J1 q k = J q k)
def LO (L : Nat) (C : Nat × Nat) (Lm : Nat) (Cm : Nat × Nat) (Tm : Nat → Nat → Nat) (n c p : Nat) (I : Nat → Nat → Int32) (J : Nat → Nat → Int64) (T : Nat → Nat → Nat) (I' : Nat → Nat → Int32) (J' : Nat → Nat → Int64) : Prop := ∀ v3 v4 w4 w5, ∃ s I1 J1 T1 I2 J2, am_E 14 14 [.ref 22, .ref 34, .int (nI c), v3, v4] [] (am_W I J T L C) = some (.null, am_W I1 J1 T1 L C) ∧ am_E 147 19 [.ref 49, .int (nI n), .int (nI p), .int 0, w4, w5] [] (am_W I' J' Tm Lm Cm) = some (.int s, am_W I2 J2 Tm Lm Cm) ∧ R_run I1 J1 I2 J2 ∧ (I1 22 3 = s ∧ (s = 0 ∨ s = 2 ∨ s = 3)) ∧ I2 49 46 = I1 22 4 ∧ FRl I J T I1 J1 T1 ∧ FMl I' J' I2 J2
def LI (D : Nat → Nat) (n o c p : Nat) (I : Nat → Nat → Int32) (J : Nat → Nat → Int64) (T : Nat → Nat → Nat) (I' : Nat → Nat → Int32) (J' : Nat → Nat → Int64) : Prop := p ≤ n ∧ PR D n o I T I' ∧ I 34 6 = nI n ∧ I' 49 22 = nI o ∧ R_run I J I' J' ∧ R_list I T I' (D p) ∧ I 22 8 = nI p ∧ I 22 4 = nI c ∧ I' 49 46 = nI c ∧ I 22 3 = 0
theorem LO_end {L : Nat} {C : Nat × Nat} {Lm : Nat} {Cm : Nat × Nat} {Tm : Nat → Nat → Nat} {I : Nat → Nat → Int32} {J : Nat → Nat → Int64} {T : Nat → Nat → Nat} {I' : Nat → Nat → Int32} {J' : Nat → Nat → Int64} {D : Nat → Nat} {n o c : Nat} (hn : n ≤ 80) (hc : c ≤ 500) (h : LI D n o c n I J T I' J') : LO L C Lm Cm Tm n c n I J T I' J' := by
  obtain ⟨_, hP, h34, hO, R, rl, h8, h4, h46, s0⟩ := h
  intro v3 v4 w4 w5
  refine ⟨0, I, J, T, I', J', li_end I J T L C v3 v4 hc hn h8 h34 (Nat.le_refl _) (by omega), ml_end I' J' Tm Lm Cm 0 w4 w5 (Nat.le_refl _) (by omega), R, ⟨s0, Or.inl rfl⟩, by rw [h4, h46], ⟨fun _ _ _ => rfl, fun _ _ _ => rfl, fun _ _ _ => rfl⟩, ⟨fun _ _ _ => rfl, fun _ _ _ => rfl⟩⟩
theorem LO_long {L : Nat} {C : Nat × Nat} {Lm : Nat} {Cm : Nat × Nat} {Tm : Nat → Nat → Nat} {I : Nat → Nat → Int32} {J : Nat → Nat → Int64} {T : Nat → Nat → Nat} {I' : Nat → Nat → Int32} {J' : Nat → Nat → Int64} {D : Nat → Nat} {n o p : Nat} (hn : n ≤ 80) (ho : o < 2) (hp : p < n) (h : LI D n o 500 p I J T I' J') : LO L C Lm Cm Tm n 500 p I J T I' J' := by
  obtain ⟨_, hP, h34, hO, R, rl, h8, h4, h46, s0⟩ := h
  intro v3 v4 w4 w5
  obtain ⟨⟨c0, c1, c2, c3, c4, c5, c6, c7, c8, c9⟩, ⟨p0, p1, p2, p3, p4, p5, p6, p7, p8⟩, k⟩ := R
  refine ⟨3, am_up I 22 3 3, J, T, am_up I' 49 46 (I' 49 46), J', li_long I J T L C v3 v4 hn h8 h34 hp, ?_, ⟨⟨c0, c1, c2, c3, c4, c5, c6, c7, c8, c9⟩, ⟨p0, p1, p2, p3, p4, p5, p6, p7, p8⟩, k⟩, ⟨rfl, Or.inr (Or.inr rfl)⟩, ?_, ⟨?_, fun _ _ _ => rfl, fun _ _ _ => rfl⟩, ⟨?_, fun _ _ _ => rfl⟩⟩
  · rw [ml_turn I' J' Tm Lm Cm w4 w5 hp hn ho hO]
    exact ml_long I' J' Tm Lm Cm _ _ _ _ w5 h46
  · show I' 49 46 = I 22 4
    rw [h4, h46]
  · intro q k h
    rw [am_up_ne (by omega)]
  · intro q k h
    rw [am_up_same]
/-- a turn in both, and what comes behind -/
theorem LO_go {L : Nat} {C : Nat × Nat} {Lm : Nat} {Cm : Nat × Nat} {Tm : Nat → Nat → Nat} {I : Nat → Nat → Int32} {J : Nat → Nat → Int64} {T : Nat → Nat → Nat} {I' : Nat → Nat → Int32} {J' : Nat → Nat → Int64} {n c p p' : Nat} {I1 : Nat → Nat → Int32} {J1 : Nat → Nat → Int64} {T1 : Nat → Nat → Nat} {I2 : Nat → Nat → Int32} {J2 : Nat → Nat → Int64} (a3 a4 b4 b5 : Value) (h1 : ∀ v3 v4, am_E 14 14 [.ref 22, .ref 34, .int (nI c), v3, v4] [] (am_W I J T L C) = am_E 14 14 [.ref 22, .ref 34, .int (nI (c + 1)), a3, a4] [] (am_W (am_up I1 22 4 (nI (c + 1))) J1 T1 L C)) (h2 : ∀ w4 w5, am_E 147 19 [.ref 49, .int (nI n), .int (nI p), .int 0, w4, w5] [] (am_W I' J' Tm Lm Cm) = am_E 147 19 [.ref 49, .int (nI n), .int (nI p'), .int 0, b4, b5] [] (am_W (am_up I2 49 46 (nI (c + 1))) J2 Tm Lm Cm)) (f : FRl I J T I1 J1 T1) (g : FMl I' J' I2 J2) (k : LO L C Lm Cm Tm n (c + 1) p' (am_up I1 22 4 (nI (c + 1))) J1 T1 (am_up I2 49 46 (nI (c + 1))) J2) : LO L C Lm Cm Tm n c p I J T I' J' := by
  intro v3 v4 w4 w5
  obtain ⟨s, A1, B1, D1, A2, B2, e1, e2, R, e3, e4, ⟨f1, f2, f3⟩, ⟨g1, g2⟩⟩ := k a3 a4 b4 b5
  refine ⟨s, A1, B1, D1, A2, B2, (h1 v3 v4).trans e1, (h2 w4 w5).trans e2, R, e3, e4, ⟨?_, ?_, ?_⟩, ⟨?_, ?_⟩⟩
  · intro q k h
    rw [f1 q k h, am_up_ne (by omega), f.1 q k h]
  · intro q k h
    rw [f2 q k h, f.2.1 q k h]
  · intro q k h
    rw [f3 q k h, f.2.2 q k h]
  · intro q k h
    rw [g1 q k h, am_up_ne (by omega), g.1 q k h]
  · intro q k h
    rw [g2 q k h, g.2 q k h]
theorem LI_go {I : Nat → Nat → Int32} {J : Nat → Nat → Int64} {T : Nat → Nat → Nat} {I' : Nat → Nat → Int32} {J' : Nat → Nat → Int64} {D : Nat → Nat} {n o c p' : Nat} {I1 : Nat → Nat → Int32} {J1 : Nat → Nat → Int64} {T1 : Nat → Nat → Nat} {I2 : Nat → Nat → Int32} {J2 : Nat → Nat → Int64} (hp : p' ≤ n) (hP : PR D n o I T I') (h34 : I 34 6 = nI n) (hO : I' 49 22 = nI o) (f : FRl I J T I1 J1 T1) (g : FMl I' J' I2 J2) (R : R_run I1 J1 I2 J2) (rl : R_list I1 T1 I2 (D p')) (h8 : I1 22 8 = nI p') (s0 : I1 22 3 = 0) : LI D n o (c + 1) p' (am_up I1 22 4 (nI (c + 1))) J1 T1 (am_up I2 49 46 (nI (c + 1))) J2 := by
  obtain ⟨⟨c0, c1, c2, c3, c4, c5, c6, c7, c8, c9⟩, ⟨p0, p1, p2, p3, p4, p5, p6, p7, p8⟩, k⟩ := R
  refine ⟨hp, PR_keep ?_ ?_ ?_ hP, ?_, ?_, ⟨⟨c0, c1, c2, c3, c4, c5, c6, c7, c8, c9⟩, ⟨p0, p1, p2, p3, p4, p5, p6, p7, p8⟩, k⟩, rl, h8, rfl, rfl, s0⟩
  · intro q k h h'
    rw [am_up_ne (by omega), f.1 q k (by omega)]
  · intro k
    exact f.2.2 44 k (by decide)
  · intro q k h h'
    rw [am_up_ne (by omega), g.1 q k (by omega)]
  · show I1 34 6 = nI n
    rw [f.1 34 6 (by decide), h34]
  · show I2 49 22 = nI o
    rw [g.1 49 22 (by decide), hO]
theorem li_sim {L : Nat} {C : Nat × Nat} {Lm : Nat} {Cm : Nat × Nat} {Tm : Nat → Nat → Nat} {D : Nat → Nat} {n o : Nat} (hn : n ≤ 80) (ho : o < 2) : ∀ (m c p : Nat) (I : Nat → Nat → Int32) (J : Nat → Nat → Int64) (T : Nat → Nat → Nat) (I' : Nat → Nat → Int32) (J' : Nat → Nat → Int64), c + m = 500 → LI D n o c p I J T I' J' → LO L C Lm Cm Tm n c p I J T I' J' := by
  intro m
  induction m with
  | zero =>
    intro c p I J T I' J' hc h
    have ec : c = 500 := by omega
    subst ec
    by_cases hp : p = n
    · subst hp; exact LO_end hn (by decide) h
    · exact LO_long hn ho (by have := h.1; omega) h
  | succ m ih =>
    intro c p I J T I' J' hc h
    by_cases hp : p = n
    · subst hp; exact LO_end hn (by omega) h
    · have h0 := h
      obtain ⟨hpn, hP, h34, hO, R, rl, h8, h4, h46, s0⟩ := h
      have hp : p < n := by omega
      have hi : (80 * o + p) < 160 := by omega
      have n500 : ¬ I' 49 46 = 500 := by
        rw [h46]
        exact fun e => absurd ((nI_eq (a := c) (b := 500) (by omega) (by decide)).mp e) (by omega)
      rcases hP p hp with ha | hj | ⟨he, hDn⟩
      · obtain ⟨s, I1, J1, T1, I2, J2, k1, k2, k3, ⟨k4, ks⟩, k5, ⟨f1, f2, f3⟩, ⟨g1, g2⟩⟩ := so_all (L := L) (C := C) (Lm := Lm) (Cm := Cm) (Tm := Tm) (by omega : p < 80) ho ha R s0 rl
        have w := PA_w ha
        have t1 := fun v3 v4 => li_turn I J T L C v3 v4 (by omega : c < 500) hn h8 h34 hp k1
        have t2 := fun w4 w5 => (ml_turn I' J' Tm Lm Cm w4 w5 hp hn ho hO).trans (ml_act I' J' Tm Lm Cm (p := p) (nI n) _ w5 hi n500 w.1 w.2 k2)
        have c4 : I1 22 4 = nI c := by rw [f1 22 4 (by decide), h4]
        have m46 : I2 49 46 = nI c := by rw [g1 49 46 (by decide), h46]
        by_cases hs : s = 0
        · subst hs
          obtain ⟨r1, r8⟩ := k5 rfl
          refine LO_go (I1 := I1) (J1 := J1) (T1 := T1) (I2 := I2) (J2 := J2) (p' := p + 1) (.int (nI p)) (.ref (T 44 p)) (.int (nI (80 * o + p))) (.int (am_b01 (mo_so (I' 52 (80 * o + p)) (I' 49 60)))) (fun v3 v4 => ?_) (fun w4 w5 => ?_) ⟨fun q k h => f1 q k (by omega), f2, f3⟩ ⟨fun q k h => g1 q k (by omega), g2⟩ (ih (c + 1) (p + 1) _ _ _ _ _ (by omega) (LI_go hp hP h34 hO ⟨fun q k h => f1 q k (by omega), f2, f3⟩ ⟨fun q k h => g1 q k (by omega), g2⟩ k3 r1 r8 k4))
          · rw [t1 v3 v4, if_pos k4, c4, nI_1]
          · rw [t2 w4 w5, if_pos rfl, m46, nI_1]
        · intro v3 v4 w4 w5
          obtain ⟨⟨c0, c1, c2, c3, c4', c5, c6, c7, c8, c9⟩, ⟨p0, p1, p2, p3, p4, p5, p6, p7, p8⟩, k⟩ := k3
          refine ⟨s, I1, J1, T1, am_up I2 49 46 (I2 49 46), J2, ?_, ?_, ⟨⟨c0, c1, c2, c3, c4', c5, c6, c7, c8, c9⟩, ⟨p0, p1, p2, p3, p4, p5, p6, p7, p8⟩, k⟩, ⟨k4, by rcases ks with h | h; exact Or.inl h; exact Or.inr (Or.inl h)⟩, ?_, ⟨fun q k h => f1 q k (by omega), f2, f3⟩, ⟨?_, g2⟩⟩
          · rw [t1 v3 v4, if_neg (by rw [k4]; exact hs)]
          · rw [t2 w4 w5, if_neg hs]
          · show I2 49 46 = I1 22 4
            rw [m46, c4]
          · intro q k h
            rw [am_up_same]
            exact g1 q k (by omega)
      · obtain ⟨b, l, t, hb, hT, e51, e52, hl, hl32, e54, ht, e57, htn, hDt, hDp, hDp1⟩ := hj
        have k1 := in_jmp (L := L) (C := C) (I := I) (J := J) (T := T) (by omega : p < 80) hb hT hl hl32
        have t1 := fun v3 v4 => li_turn I J T L C v3 v4 (by omega : c < 500) hn h8 h34 hp k1
        have t2 := fun w4 w5 => (ml_turn I' J' Tm Lm Cm w4 w5 hp hn ho hO).trans (ml_jmp I' J' Tm Lm Cm (p := p) (nI n) _ w5 hi n500 e51 hO ho e54 hl32)
        rw [e52, rl.1, e57] at t2
        rw [ht] at t1
        generalize mo_so (nI (jh b)) (I 22 7) = z at t1 t2
        obtain ⟨⟨c0, c1, c2, c3, c4', c5, c6, c7, c8, c9⟩, ⟨p0, p1, p2, p3, p4, p5, p6, p7, p8⟩, k⟩ := R
        cases z with
        | true =>
          refine LO_go (I1 := am_up (am_up I 22 8 (nI (p + 1))) 22 8 (nI t)) (J1 := J) (T1 := T) (I2 := I') (J2 := J') (p' := t) (.int (nI p)) (.ref (T 44 p)) (.int (nI (80 * o + p))) (.int (am_b01 true)) (fun v3 v4 => ?_) (fun w4 w5 => ?_) ⟨?_, fun _ _ _ => rfl, fun _ _ _ => rfl⟩ ⟨fun _ _ _ => rfl, fun _ _ _ => rfl⟩ (ih (c + 1) t _ _ _ _ _ (by omega) (LI_go htn hP h34 hO ⟨?_, fun _ _ _ => rfl, fun _ _ _ => rfl⟩ ⟨fun _ _ _ => rfl, fun _ _ _ => rfl⟩ ⟨⟨c0, c1, c2, c3, c4', c5, c6, c7, c8, c9⟩, ⟨p0, p1, p2, p3, p4, p5, p6, p7, p8⟩, k⟩ ?_ rfl s0))
          · refine (t1 v3 v4).trans ?_
            show (if I 22 3 = 0 then am_E 14 14 _ [] (am_W (am_up (am_up (am_up I 22 8 (nI (p + 1))) 22 8 (nI t)) 22 4 (I 22 4 + 1)) J T L C) else _) = _
            rw [if_pos s0, h4, nI_1]
          · refine (t2 w4 w5).trans ?_
            rw [h46, nI_1]
            rfl
          · intro q k h; rw [am_up_ne (by omega), am_up_ne (by omega)]
          · intro q k h; rw [am_up_ne (by omega), am_up_ne (by omega)]
          · rw [hDt]; rw [hDp] at rl; exact rl
        | false =>
          refine LO_go (I1 := am_up I 22 8 (nI (p + 1))) (J1 := J) (T1 := T) (I2 := I') (J2 := J') (p' := p + 1) (.int (nI p)) (.ref (T 44 p)) (.int (nI (80 * o + p))) (.int (am_b01 false)) (fun v3 v4 => ?_) (fun w4 w5 => ?_) ⟨?_, fun _ _ _ => rfl, fun _ _ _ => rfl⟩ ⟨fun _ _ _ => rfl, fun _ _ _ => rfl⟩ (ih (c + 1) (p + 1) _ _ _ _ _ (by omega) (LI_go hp hP h34 hO ⟨?_, fun _ _ _ => rfl, fun _ _ _ => rfl⟩ ⟨fun _ _ _ => rfl, fun _ _ _ => rfl⟩ ⟨⟨c0, c1, c2, c3, c4', c5, c6, c7, c8, c9⟩, ⟨p0, p1, p2, p3, p4, p5, p6, p7, p8⟩, k⟩ ?_ rfl s0))
          · refine (t1 v3 v4).trans ?_
            show (if I 22 3 = 0 then am_E 14 14 _ [] (am_W (am_up (am_up I 22 8 (nI (p + 1))) 22 4 (I 22 4 + 1)) J T L C) else _) = _
            rw [if_pos s0, h4, nI_1]
          · refine (t2 w4 w5).trans ?_
            rw [h46, nI_1]
            rfl
          · intro q k h; rw [am_up_ne (by omega)]
          · intro q k h; rw [am_up_ne (by omega)]
          · rw [hDp1]; rw [hDp] at rl; exact rl
      · obtain ⟨b, hb, hT, e51, e52, hDp, hDp1⟩ := he
        have k1 := in_ret (L := L) (C := C) (I := I) (J := J) (T := T) (by omega : p < 80) hb hT
        have t1 := fun v3 v4 => li_turn I J T L C v3 v4 (by omega : c < 500) hn h8 h34 hp k1
        have t2 := fun w4 w5 => (ml_turn I' J' Tm Lm Cm w4 w5 hp hn ho hO).trans (ml_ret I' J' Tm Lm Cm (p := p) (nI n) _ w5 hi n500 e51)
        rw [e52, rl.1] at t2
        rw [h34] at t1
        generalize mo_so (nI (jh b)) (I 22 7) = z at t1 t2
        obtain ⟨⟨c0, c1, c2, c3, c4', c5, c6, c7, c8, c9⟩, ⟨p0, p1, p2, p3, p4, p5, p6, p7, p8⟩, k⟩ := R
        cases z with
        | true =>
          refine LO_go (I1 := am_up (am_up I 22 8 (nI (p + 1))) 22 8 (nI n)) (J1 := J) (T1 := T) (I2 := I') (J2 := J') (p' := n) (.int (nI p)) (.ref (T 44 p)) (.int (nI (80 * o + p))) (.int (am_b01 true)) (fun v3 v4 => ?_) (fun w4 w5 => ?_) ⟨?_, fun _ _ _ => rfl, fun _ _ _ => rfl⟩ ⟨fun _ _ _ => rfl, fun _ _ _ => rfl⟩ (ih (c + 1) n _ _ _ _ _ (by omega) (LI_go (Nat.le_refl _) hP h34 hO ⟨?_, fun _ _ _ => rfl, fun _ _ _ => rfl⟩ ⟨fun _ _ _ => rfl, fun _ _ _ => rfl⟩ ⟨⟨c0, c1, c2, c3, c4', c5, c6, c7, c8, c9⟩, ⟨p0, p1, p2, p3, p4, p5, p6, p7, p8⟩, k⟩ ?_ rfl s0))
          · refine (t1 v3 v4).trans ?_
            show (if I 22 3 = 0 then am_E 14 14 _ [] (am_W (am_up (am_up (am_up I 22 8 (nI (p + 1))) 22 8 (nI n)) 22 4 (I 22 4 + 1)) J T L C) else _) = _
            rw [if_pos s0, h4, nI_1]
          · refine (t2 w4 w5).trans ?_
            rw [h46, nI_1]
            rfl
          · intro q k h; rw [am_up_ne (by omega), am_up_ne (by omega)]
          · intro q k h; rw [am_up_ne (by omega), am_up_ne (by omega)]
          · rw [hDn]; rw [hDp] at rl; exact rl
        | false =>
          refine LO_go (I1 := am_up I 22 8 (nI (p + 1))) (J1 := J) (T1 := T) (I2 := I') (J2 := J') (p' := p + 1) (.int (nI p)) (.ref (T 44 p)) (.int (nI (80 * o + p))) (.int (am_b01 false)) (fun v3 v4 => ?_) (fun w4 w5 => ?_) ⟨?_, fun _ _ _ => rfl, fun _ _ _ => rfl⟩ ⟨fun _ _ _ => rfl, fun _ _ _ => rfl⟩ (ih (c + 1) (p + 1) _ _ _ _ _ (by omega) (LI_go hp hP h34 hO ⟨?_, fun _ _ _ => rfl, fun _ _ _ => rfl⟩ ⟨fun _ _ _ => rfl, fun _ _ _ => rfl⟩ ⟨⟨c0, c1, c2, c3, c4', c5, c6, c7, c8, c9⟩, ⟨p0, p1, p2, p3, p4, p5, p6, p7, p8⟩, k⟩ ?_ rfl s0))
          · refine (t1 v3 v4).trans ?_
            show (if I 22 3 = 0 then am_E 14 14 _ [] (am_W (am_up (am_up I 22 8 (nI (p + 1))) 22 4 (I 22 4 + 1)) J T L C) else _) = _
            rw [if_pos s0, h4, nI_1]
          · refine (t2 w4 w5).trans ?_
            rw [h46, nI_1]
            rfl
          · intro q k h; rw [am_up_ne (by omega)]
          · intro q k h; rw [am_up_ne (by omega)]
          · rw [hDp1]; rw [hDp] at rl; exact rl

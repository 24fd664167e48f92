/-! THE CLASS READS THE WORD OF A LINE. -/
def frml : List Nat := [0, 0, 2, 2, 3, 3, 1, 1, 1, 1, 1, 1, 1, 1, 1, 1, 1, 1, 1, 1, 1, 1, 1, 4, 5, 6, 6, 6, 7, 7, 7, 8, 8, 8, 9, 9, 10, 11, 11, 12, 13]
def frm (i : Nat) : Nat := frml.getD i 0
theorem frm_ok : ∀ i, i < 41 → am_cI (1001 + i) 1 = nI (frm i) ∧ frm i < 14 := by decide +kernel
def brk (tx : Nat → Nat) (t : Nat) : Bool := decide (tx (t - 1) = 40)
def bae (tx : Nat → Nat) (t : Nat) : Nat := if tx (t - 1) = 40 then t - 1 else t
def bix (tx : Nat → Nat) (f t : Nat) : Nat := oix (sl tx f (bae tx t))
def ful (m n ng : Nat) : Bool := if m = 13 then decide (16 ≤ ng) else if m = 12 then false else decide (80 ≤ n)
def alw (b : Bool) (m d : Nat) : Bool := match m with
  | 1 => !b || decide (d < 8)
  | 4 => decide (0 < d)
  | 6 => decide (d = 0)
  | 7 => decide (d = 0)
  | 12 => decide (d = 0)
  | 13 => decide (d = 0)
  | _ => true
def rof (b : Bool) (i n ng d : Nat) : Nat := if i < 41 ∧ (b = true → frm i = 1) then (if ful (frm i) n ng = true then 3 else if alw b (frm i) d = true then 0 else 5) else 1
def dnx (b : Bool) (i d : Nat) : Nat := if b = true then d + 1 else if frm i = 4 then d - 1 else d
def FO (I I1 : Nat → Nat → Int32) : Prop := ∀ q k, ¬ (q = 2 ∧ 4 ≤ k ∧ k ≤ 9) → I1 q k = I q k
theorem cl_full (I : Nat → Nat → Int32) (J : Nat → Nat → Int64) (T : Nat → Nat → Nat) (L : Nat) (C : Nat × Nat) {i n ng : Nat} (hi : i < 41) (hn : n ≤ 80) (hg : ng ≤ 16) (h6 : I 5 6 = nI n) (h5 : I 6 5 = nI ng) : am_E 54 0 [.ref 2, .ref (1001 + i)] [] (am_W I J T L C) = some (.int (am_b01 (ful (frm i) n ng)), (am_W I J T L C)) := by
  rw [rg_54_0, sf_op L hi, (frm_ok i hi).1, h6, h5]
  have hm := (frm_ok i hi).2
  unfold ful
  generalize frm i = m at hm ⊢
  show (if nI m = 13 then (if nI ng < 16 then some (Value.int 0, (am_W I J T L C)) else some (Value.int 1, (am_W I J T L C))) else (if nI m = 12 then some (Value.int 0, (am_W I J T L C)) else (if nI n < 80 then some (Value.int 0, (am_W I J T L C)) else some (Value.int 1, (am_W I J T L C))))) = _
  by_cases e : m = 13
  · rw [if_pos (show nI m = 13 by rw [e]; rfl), if_pos e]
    by_cases c : ng < 16
    · rw [if_pos (show nI ng < 16 from nI_lt (a := ng) (b := 16) c (by decide)), decide_eq_false (by omega)]; rfl
    · rw [if_neg (show ¬ nI ng < 16 from nI_nlt (a := ng) (b := 16) (by omega) (by omega)), decide_eq_true (by omega)]; rfl
  · rw [if_neg (show ¬ nI m = 13 from nb_ne (c := m) (n := 13) (by omega) (by decide) e), if_neg e]
    by_cases e2 : m = 12
    · rw [if_pos (show nI m = 12 by rw [e2]; rfl), if_pos e2]; rfl
    · rw [if_neg (show ¬ nI m = 12 from nb_ne (c := m) (n := 12) (by omega) (by decide) e2), if_neg e2]
      by_cases c : n < 80
      · rw [if_pos (show nI n < 80 from nI_lt (a := n) (b := 80) c (by decide)), decide_eq_false (by omega)]; rfl
      · rw [if_neg (show ¬ nI n < 80 from nI_nlt (a := n) (b := 80) (by omega) (by omega)), decide_eq_true (by omega)]; rfl
theorem cl_d0 (I : Nat → Nat → Int32) (J : Nat → Nat → Int64) (T : Nat → Nat → Nat) (L : Nat) (C : Nat × Nat) {d : Nat} (hd : d ≤ 8) : (if nI d = 0 then some (Value.int 1, (am_W I J T L C)) else some (Value.int 0, (am_W I J T L C))) = some (Value.int (am_b01 (decide (d = 0))), (am_W I J T L C)) := by
  by_cases c : d = 0
  · rw [if_pos (show nI d = 0 by rw [c]; rfl), decide_eq_true c]; rfl
  · rw [if_neg (show ¬ nI d = 0 from nb_ne (c := d) (n := 0) (by omega) (by decide) c), decide_eq_false c]; rfl
theorem cl_allow (I : Nat → Nat → Int32) (J : Nat → Nat → Int64) (T : Nat → Nat → Nat) (L : Nat) (C : Nat × Nat) {i d : Nat} {b : Bool} (hi : i < 41) (hd : d ≤ 8) (h8 : I 2 8 = am_b01 b) (h9 : I 2 9 = nI d) : am_E 55 0 [.ref 2, .ref (1001 + i)] [] (am_W I J T L C) = some (.int (am_b01 (alw b (frm i) d)), (am_W I J T L C)) := by
  rw [rg_55_0, sf_op L hi, (frm_ok i hi).1, h8, h9]
  have hm := (frm_ok i hi).2
  generalize frm i = m at hm ⊢
  rcases (show m = 0 ∨ m = 1 ∨ m = 2 ∨ m = 3 ∨ m = 4 ∨ m = 5 ∨ m = 6 ∨ m = 7 ∨ m = 8 ∨ m = 9 ∨ m = 10 ∨ m = 11 ∨ m = 12 ∨ m = 13 by omega) with rfl | rfl | rfl | rfl | rfl | rfl | rfl | rfl | rfl | rfl | rfl | rfl | rfl | rfl
  · rfl
  · show (if am_b01 b = 0 then some (Value.int 1, (am_W I J T L C)) else (if 8 ≤ nI d then some (Value.int 0, (am_W I J T L C)) else some (Value.int 1, (am_W I J T L C)))) = some (Value.int (am_b01 (!b || decide (d < 8))), (am_W I J T L C))
    cases b
    · rfl
    · rw [if_neg (show ¬ am_b01 true = 0 by decide)]
      by_cases c : d < 8
      · rw [if_neg (show ¬ 8 ≤ nI d from nI_ge (a := d) (b := 8) c (by decide)), decide_eq_true c]; rfl
      · rw [if_pos (show 8 ≤ nI d from nI_le (a := 8) (b := d) (by omega) (by omega)), decide_eq_false c]; rfl
  · rfl
  · rfl
  · show (if nI d ≤ 0 then some (Value.int 0, (am_W I J T L C)) else some (Value.int 1, (am_W I J T L C))) = some (Value.int (am_b01 (decide (0 < d))), (am_W I J T L C))
    by_cases c : 0 < d
    · rw [if_neg (show ¬ nI d ≤ 0 from nI_ge (a := 0) (b := d) c (by omega)), decide_eq_true c]; rfl
    · rw [if_pos (show nI d ≤ 0 from nI_le (a := d) (b := 0) (by omega) (by decide)), decide_eq_false c]; rfl
  · rfl
  · exact cl_d0 I J T L C hd
  · exact cl_d0 I J T L C hd
  · rfl
  · rfl
  · rfl
  · rfl
  · exact cl_d0 I J T L C hd
  · exact cl_d0 I J T L C hd
theorem rd_op (I : Nat → Nat → Int32) (J : Nat → Nat → Int64) (T : Nat → Nat → Nat) (L : Nat) (C : Nat × Nat) {tx : Nat → Nat} {N f t g n ng d : Nat} (h : TX I 4 3 1 tx N) (hc : CK I 2 f t g) (hk : TK tx N 2 f t g) (h6 : I 5 6 = nI n) (hn : n ≤ 80) (h5 : I 6 5 = nI ng) (hng : ng ≤ 16) (h9 : I 2 9 = nI d) (hd : d ≤ 8) : (rof (brk tx t) (bix tx f t) n ng d ≠ 0 ∧ ∃ I1, am_E 52 0 [.ref 2, .null] [] (am_W I J T L C) = some (.ref 0, am_W (flt I1 (rof (brk tx t) (bix tx f t) n ng d) f) J T L C) ∧ FO I I1) ∨ (rof (brk tx t) (bix tx f t) n ng d = 0 ∧ ∃ I1, am_E 52 0 [.ref 2, .null] [] (am_W I J T L C) = some (.ref (1001 + bix tx f t), am_W I1 J T L C) ∧ I1 2 8 = am_b01 (brk tx t) ∧ I1 2 9 = nI (dnx (brk tx t) (bix tx f t) d) ∧ CN I1 tx N t ∧ FO I I1) := by
  have hN := h.2.1
  obtain ⟨c1, c2, c3, c4⟩ := hc
  have hft : f < t ∧ t ≤ N := by
    rcases TK_p hk with e | e | e
    · exact ⟨e.2.1, e.2.2.1⟩
    · exact absurd hk.2.2.1 (by omega)
    · exact absurd e.1 (by decide)
  have hb : bya tx N (t - 1) = tx (t - 1) := if_pos (by omega)
  have hx := TX_lt h (t - 1) (by omega)
  have hae : f ≤ bae tx t ∧ bae tx t ≤ N := by unfold bae; split <;> omega
  have fail : ∀ (I0 : Nat → Nat → Int32) (k : Nat), I0 2 5 = nI f → am_E 45 0 [.ref 2, .int (nI k)] [] (am_W I0 J T L C) = some (.int 0, am_W (flt I0 k f) J T L C) := fun I0 k e => cl_fail I0 J T L C e
  have s1 : (if nI (tx (t - 1)) = 40 then am_E 52 13 [.ref 2, .null] [.int 1, .ref 2] (am_W I J T L C) else am_E 52 13 [.ref 2, .null] [.int 0, .ref 2] (am_W I J T L C)) = am_E 52 27 [.ref 2, .null] [.int (nI (bae tx t)), .int (nI f), .ref 2] (am_W (am_up I 2 8 (am_b01 (brk tx t))) J T L C) := by
    unfold bae brk
    by_cases e : tx (t - 1) = 40
    · rw [if_pos (show nI (tx (t - 1)) = 40 by rw [e]; rfl), rg_52_13, c3, c2, nI_m1 (by omega), if_pos e, decide_eq_true e]; rfl
    · rw [if_neg (show ¬ nI (tx (t - 1)) = 40 from nb_ne (c := tx (t - 1)) (n := 40) hx (by decide) e), rg_52_13, c3, c2, if_neg e, decide_eq_false e]; rfl
  have k5 : am_up I 2 8 (am_b01 (brk tx t)) 2 5 = nI f := c2
  have k6 : am_up I 2 8 (am_b01 (brk tx t)) 2 6 = nI t := c3
  have k8 : am_up I 2 8 (am_b01 (brk tx t)) 2 8 = am_b01 (brk tx t) := am_up_here _ _ _ _
  have k9 : am_up I 2 8 (am_b01 (brk tx t)) 2 9 = nI d := h9
  have kn : am_up I 2 8 (am_b01 (brk tx t)) 5 6 = nI n := h6
  have kg : am_up I 2 8 (am_b01 (brk tx t)) 6 5 = nI ng := h5
  have kh : TX (am_up I 2 8 (am_b01 (brk tx t))) 4 3 1 tx N := h
  have kf : FO I (am_up I 2 8 (am_b01 (brk tx t))) := fun q k hq => am_up_ne (by omega)
  rw [rg_52_0, c3, nI_m1 (by omega), by_at _ _ _ _ _ h (by omega), am_okb, am_vIi, rg_52_8, hb, s1]
  generalize am_up I 2 8 (am_b01 (brk tx t)) = I0 at *
  generalize hB : brk tx t = b at *
  rw [rg_52_27, os_ok I0 J T L C kh hae.1 hae.2, am_okb, am_vRr, rg_52_28]
  show (_ ∧ ∃ I1, cond (Nat.beq (am_SF L (orf (bix tx f t))).1 30 || Nat.beq (orf (bix tx f t)) 0) (if orf (bix tx f t) = 0 then am_E 52 38 [.ref 2, .ref (orf (bix tx f t))] [] (am_W I0 J T L C) else (if I0 2 8 = 0 then am_E 52 44 [.ref 2, .ref (orf (bix tx f t))] [] (am_W I0 J T L C) else cond (Nat.beq (am_SF L (orf (bix tx f t))).1 30) (if am_cI (orf (bix tx f t)) 1 = 1 then am_E 52 44 [.ref 2, .ref (orf (bix tx f t))] [] (am_W I0 J T L C) else am_E 52 38 [.ref 2, .ref (orf (bix tx f t))] [] (am_W I0 J T L C)) none)) none = _ ∧ _) ∨ (_ ∧ ∃ I1, cond (Nat.beq (am_SF L (orf (bix tx f t))).1 30 || Nat.beq (orf (bix tx f t)) 0) (if orf (bix tx f t) = 0 then am_E 52 38 [.ref 2, .ref (orf (bix tx f t))] [] (am_W I0 J T L C) else (if I0 2 8 = 0 then am_E 52 44 [.ref 2, .ref (orf (bix tx f t))] [] (am_W I0 J T L C) else cond (Nat.beq (am_SF L (orf (bix tx f t))).1 30) (if am_cI (orf (bix tx f t)) 1 = 1 then am_E 52 44 [.ref 2, .ref (orf (bix tx f t))] [] (am_W I0 J T L C) else am_E 52 38 [.ref 2, .ref (orf (bix tx f t))] [] (am_W I0 J T L C)) none)) none = _ ∧ _)
  have hle := oix_le (sl tx f (bae tx t))
  change bix tx f t ≤ 41 at hle
  generalize bix tx f t = i at *
  have t38 : ∀ q, am_E 52 38 [.ref 2, .ref q] [] (am_W I0 J T L C) = some (.ref 0, am_W (flt I0 1 f) J T L C) := by
    intro q
    rw [rg_52_38]
    show Option.bind (am_E 45 0 [.ref 2, .int (nI 1)] [] _) _ = _
    rw [fail I0 1 k5, am_okb, am_vIi, rg_52_41]
  by_cases hi : i < 41
  · have ho : orf i = 1001 + i := if_pos hi
    have ho0 : ¬ 1001 + i = 0 := by omega
    rw [ho, sf_op L hi, (frm_ok i hi).1]
    have hm := (frm_ok i hi).2
    have e44 : (b = true → frm i = 1) → (rof b i n ng d ≠ 0 ∧ ∃ I1, am_E 52 44 [.ref 2, .ref (1001 + i)] [] (am_W I0 J T L C) = some (.ref 0, am_W (flt I1 (rof b i n ng d) f) J T L C) ∧ FO I I1) ∨ (rof b i n ng d = 0 ∧ ∃ I1, am_E 52 44 [.ref 2, .ref (1001 + i)] [] (am_W I0 J T L C) = some (.ref (1001 + i), am_W I1 J T L C) ∧ I1 2 8 = am_b01 b ∧ I1 2 9 = nI (dnx b i d) ∧ CN I1 tx N t ∧ FO I I1) := by
      intro hbf
      have hr : rof b i n ng d = (if ful (frm i) n ng = true then 3 else if alw b (frm i) d = true then 0 else 5) := if_pos ⟨hi, hbf⟩
      rw [hr, rg_52_44, cl_full I0 J T L C hi hn hng kn kg, am_okb, am_vIi, rg_52_47]
      cases hu : ful (frm i) n ng with
      | true =>
        rw [if_neg (show ¬ am_b01 true = 0 by decide), if_pos rfl]
        refine Or.inl ⟨by decide, I0, ?_, kf⟩
        show Option.bind (am_E 45 0 [.ref 2, .int (nI 3)] [] _) _ = _
        rw [fail I0 3 k5, am_okb, am_vIi, rg_52_51]
      | false =>
        rw [if_pos (show am_b01 false = 0 from rfl), if_neg (show ¬ false = true by decide), cl_allow I0 J T L C hi hd k8 k9, am_okb, am_vIi, rg_52_57]
        cases ha : alw b (frm i) d with
        | false =>
          rw [if_pos (show am_b01 false = 0 from rfl), if_neg (show ¬ false = true by decide)]
          refine Or.inl ⟨by decide, I0, ?_, kf⟩
          show Option.bind (am_E 45 0 [.ref 2, .int (nI 5)] [] _) _ = _
          rw [fail I0 5 k5, am_okb, am_vIi, rg_52_61]
        | true =>
          rw [if_neg (show ¬ am_b01 true = 0 by decide), if_pos rfl]
          refine Or.inr ⟨rfl, ?_⟩
          have adv : ∀ I2 : Nat → Nat → Int32, TX I2 4 3 1 tx N → I2 2 6 = nI t → I2 2 8 = am_b01 b → I2 2 9 = nI (dnx b i d) → FO I I2 → ∃ I1, am_E 52 84 [.ref 2, .ref (1001 + i)] [] (am_W I2 J T L C) = some (.ref (1001 + i), am_W I1 J T L C) ∧ I1 2 8 = am_b01 b ∧ I1 2 9 = nI (dnx b i d) ∧ CN I1 tx N t ∧ FO I I1 := by
            intro I2 a1 a2 a3 a4 a5
            obtain ⟨I1, e1, e2, e3⟩ := ad_ok I2 J T L C (p := t) a1 hft.2 a2
            refine ⟨I1, ?_, by rw [e3 2 8 (by omega)]; exact a3, by rw [e3 2 9 (by omega)]; exact a4, e2, fun q k hq => by rw [e3 q k (by omega)]; exact a5 q k hq⟩
            rw [rg_52_84, e1, am_okb, rg_52_86]
          have f9 : ∀ x, FO I (am_up I0 2 9 x) := fun x q k hq => by rw [am_up_ne (by omega)]; exact kf q k hq
          rw [k8, k9, sf_op L hi, (frm_ok i hi).1]
          cases b with
          | true =>
            rw [if_neg (show ¬ am_b01 true = 0 by decide)]
            have e9 : nI d + 1 = nI (d + 1) := nI_add d 1
            rw [e9]
            exact adv _ kh k6 k8 (am_up_here _ _ _ _) (f9 _)
          | false =>
            rw [if_pos (show am_b01 false = 0 from rfl)]
            show ∃ I1, (if nI (frm i) = 4 then am_E 52 84 [.ref 2, .ref (1001 + i)] [] (am_W (am_up I0 2 9 (nI d - 1)) J T L C) else am_E 52 84 [.ref 2, .ref (1001 + i)] [] (am_W I0 J T L C)) = _ ∧ _
            by_cases e4 : frm i = 4
            · have d0 : 0 < d := by rw [e4] at ha; exact of_decide_eq_true ha
              rw [if_pos (show nI (frm i) = 4 by rw [e4]; rfl), nI_m1 d0]
              refine adv _ kh k6 k8 ?_ (f9 _)
              rw [am_up_here]; unfold dnx; rw [if_neg (by decide), if_pos e4]
            · rw [if_neg (show ¬ nI (frm i) = 4 from nb_ne (c := frm i) (n := 4) (by omega) (by decide) e4)]
              refine adv _ kh k6 k8 ?_ kf
              rw [k9]; unfold dnx; rw [if_neg (by decide), if_neg e4]
    rw [k8]
    cases b with
    | false =>
      have r := e44 (fun e => absurd e (by decide))
      rw [if_neg ho0, if_pos (show am_b01 false = 0 from rfl)]
      exact r
    | true =>
      by_cases e1 : frm i = 1
      · have r := e44 (fun _ => e1)
        rw [if_neg ho0, if_neg (show ¬ am_b01 true = 0 by decide), e1, if_pos (show nI 1 = 1 from rfl)]
        exact r
      · have hr : rof true i n ng d = 1 := if_neg (fun e => e1 (e.2 rfl))
        rw [if_neg ho0, if_neg (show ¬ am_b01 true = 0 by decide), if_neg (show ¬ nI (frm i) = 1 from nb_ne (c := frm i) (n := 1) (by omega) (by decide) e1), hr]
        exact Or.inl ⟨by decide, I0, t38 _, kf⟩
  · have ho : orf i = 0 := if_neg hi
    have hr : rof b i n ng d = 1 := if_neg (fun e => hi e.1)
    rw [ho, hr]
    refine Or.inl ⟨by decide, I0, ?_, kf⟩
    rw [if_pos rfl]
    have z : (Nat.beq (am_SF L 0).1 30 || Nat.beq 0 0) = true := by rw [show Nat.beq 0 0 = true from rfl, Bool.or_true]
    rw [z]
    exact t38 0

/-! A SCAN in both. -/
def Rel_p (D : Nat → Nat) (n ng o : Nat) (I : Nat → Nat → Int32) (T : Nat → Nat → Nat) (I' : Nat → Nat → Int32) : Prop := n ≤ 80 ∧ o < 2 ∧ D 0 = 0 ∧ PR D n o I T I' ∧ I 34 6 = nI n ∧ I' 56 o = nI n ∧ I' 49 22 = nI o ∧ ng ≤ 16 ∧ I 35 5 = nI ng ∧ I' 67 o = nI ng ∧ (∀ g, g < ng → PG o I I' g) ∧ (∀ x, x < 48 → PC o I I' x)
def Rel_s (I : Nat → Nat → Int32) (J : Nat → Nat → Int64) (I' : Nat → Nat → Int32) (J' : Nat → Nat → Int64) : Prop := R_run I J I' J' ∧ R_b (I 1 3) (I' 70) 32 ∧ R_b (I 22 2) (I' 80) 32 ∧ I' 49 45 = I 22 3 ∧ (I 22 3 = 0 ∨ I 22 3 = 2 ∨ I 22 3 = 3) ∧ I' 49 46 = I 22 4 ∧ I' 49 47 = I 22 5
def Rel_c (B : Nat) (J : Nat → Nat → Int64) : Prop := ∃ c, J 22 1 = lN c ∧ c ≤ B
theorem Rel_p_keep {D : Nat → Nat} {n ng o : Nat} {I I1 : Nat → Nat → Int32} {T T1 : Nat → Nat → Nat} {I' I2 : Nat → Nat → Int32} (hI : ∀ q k, 33 ≤ q → q ≤ 48 → I1 q k = I q k) (hT : ∀ k, T1 44 k = T 44 k) (hI' : ∀ q k, 50 ≤ q → q ≤ 70 → I2 q k = I' q k) (h49 : I2 49 22 = I' 49 22) (h : Rel_p D n ng o I T I') : Rel_p D n ng o I1 T1 I2 := by
  obtain ⟨h1, h2, h3, h4, h5, h6, h7, h8, h9, h10, h11, h12⟩ := h
  exact ⟨h1, h2, h3, PR_keep hI hT hI' h4, by rw [hI 34 6 (by decide) (by decide)]; exact h5, by rw [hI' 56 o (by decide) (by decide)]; exact h6, by rw [h49]; exact h7, h8, by rw [hI 35 5 (by decide) (by decide)]; exact h9, by rw [hI' 67 o (by decide) (by decide)]; exact h10, fun g hg => PG_keep hI hI' (h11 g hg), fun x hx => PC_keep hI hI' (h12 x hx)⟩
def FS (I : Nat → Nat → Int32) (J : Nat → Nat → Int64) (T : Nat → Nat → Nat) (I1 : Nat → Nat → Int32) (J1 : Nat → Nat → Int64) (T1 : Nat → Nat → Nat) : Prop := (∀ q k, (q < 22 ∨ 33 ≤ q) → I1 q k = I q k) ∧ (∀ q k, (q < 22 ∨ 32 ≤ q) → J1 q k = J q k) ∧ (∀ q k, q ≠ 33 → T1 q k = T q k)
def FN (I : Nat → Nat → Int32) (J : Nat → Nat → Int64) (I1 : Nat → Nat → Int32) (J1 : Nat → Nat → Int64) : Prop := (∀ q k, (q < 49 ∨ (q = 49 ∧ k < 45) ∨ (50 ≤ q ∧ q ≤ 70) ∨ 92 ≤ q) → I1 q k = I q k) ∧ (∀ q k, (q < 49 ∨ 92 ≤ q) → J1 q k = J q k)
theorem b01_on (b : Bool) : am_b01 (decide (am_b01 b ≠ 0)) = am_b01 b := by cases b <;> decide +kernel
theorem lN_nn {c : Nat} (h : c < 2 ^ 62) : (0 : Int64) ≤ lN c := by
  show lN 0 ≤ lN c
  exact (pk_lLE (by decide) (by omega)).mpr (Nat.zero_le c)
theorem R_past_row {I I1 : Nat → Nat → Int32} {J : Nat → Nat → Int64} {I' I2 : Nat → Nat → Int32} {J' : Nat → Nat → Int64} (h : ∀ k, I1 28 k = I 28 k) (h' : ∀ q k, 82 ≤ q → q ≤ 89 → I2 q k = I' q k) (R : R_past I J I' J') : R_past I1 J I2 J' := by
  have r : ∀ q, 82 ≤ q → q ≤ 89 → I2 q = I' q := fun q h1 h2 => funext fun k => h' q k h1 h2
  unfold R_past
  rw [h 0, h 2, h 3, h 5, h 7, h 8, h 9, h 10, r 82 (by decide) (by decide), r 85 (by decide) (by decide), r 86 (by decide) (by decide), r 87 (by decide) (by decide), r 88 (by decide) (by decide), r 89 (by decide) (by decide)]
  exact R
/-- the list, from the scan's begin -/
theorem scan_list {L : Nat} {C : Nat × Nat} {Lm : Nat} {Cm : Nat × Nat} {Tm : Nat → Nat → Nat} {I : Nat → Nat → Int32} {J : Nat → Nat → Int64} {T : Nat → Nat → Nat} {I' : Nat → Nat → Int32} {J' : Nat → Nat → Int64} {D : Nat → Nat} {n ng o B tt : Nat} (hS : Rel_s I J I' J') (hP : Rel_p D n ng o I T I') (hB : Rel_c B J) (s0 : I 22 3 = 0) (htt : tt ≤ 1000000) (hb : B + 1000000 < 2 ^ 62) : ∃ s I1 J1 T1 I2 J2, am_E 14 0 [.ref 22, .ref 34, .null, .null, .null] [] (am_W (am_up (am_up I 24 0 (I 1 3)) 22 5 0) (am_up J 22 1 (J 22 1 + (nI tt).toInt64)) T L C) = some (.null, am_W I1 J1 T1 L C) ∧ am_E 149 0 [.ref 49, .int (nI tt), .null] [] (am_W I' J' Tm Lm Cm) = am_E 149 34 [.ref 49, .int (nI tt), .int (nI 32)] [.int s, .ref 49] (am_W I2 J2 Tm Lm Cm) ∧ R_run I1 J1 I2 J2 ∧ I1 22 3 = s ∧ (s = 0 ∨ s = 2 ∨ s = 3) ∧ I2 49 46 = I1 22 4 ∧ I1 22 5 = 0 ∧ I2 49 47 = 0 ∧ Rel_p D n ng o I1 T1 I2 ∧ Rel_c (B + 1000000) J1 ∧ I1 22 2 = I 22 2 ∧ (∀ k, I2 80 k = I' 80 k) ∧ FS I J T I1 J1 T1 ∧ FN I' J' I2 J2 := by
  obtain ⟨⟨⟨c0, c1, c2, c3, c4, c5, c6, c7, c8, c9⟩, ⟨p0, p1, p2, p3, p4, p5, p6, p7, p8⟩, ⟨k1, k2⟩⟩, hg, hsh, hst, hsv, hdn, hfi⟩ := hS
  obtain ⟨h1, h2, h3, h4, h5, h6, h7, h8, h9, h10, h11, h12⟩ := hP
  obtain ⟨c, hc, hcB⟩ := hB
  have eJ : J 22 1 + (nI tt).toInt64 = lN (c + tt) := by rw [hc, nI_l (by omega), lN_add]
  have eM : J' 49 44 + (nI tt).toInt64 = lN (c + tt) := by rw [k1]; exact eJ
  have hP0 : PR D n o (li_start (am_up (am_up I 24 0 (I 1 3)) 22 5 0)) T (am_up (am_up (am_up (am_up (am_flf I' 71 0 32 (fun k => am_b01 (decide (I' 70 k ≠ 0)))) 49 47 0) 49 60 0) 49 59 0) 49 46 0) := by
    refine PR_keep ?_ (fun _ => rfl) ?_ h4
    · intro q k a b
      show am_up (am_up (am_up (am_up (am_up (am_up I 24 0 _) 22 5 _) 22 7 _) 22 8 _) 22 9 _) 22 4 _ q k = _
      rw [am_up_ne (by omega), am_up_ne (by omega), am_up_ne (by omega), am_up_ne (by omega), am_up_ne (by omega), am_up_ne (by omega)]
    · intro q k a b
      rw [am_up_ne (by omega), am_up_ne (by omega), am_up_ne (by omega), am_up_ne (by omega), am_flf_row _ _ _ _ _ (by omega)]
  have hrow : ∀ r, r ≠ 71 → r ≠ 49 → (am_up (am_up (am_up (am_up (am_flf I' 71 0 32 (fun k => am_b01 (decide (I' 70 k ≠ 0)))) 49 47 0) 49 60 0) 49 59 0) 49 46 0) r = I' r := by
    intro r a b
    funext k
    rw [am_up_ne (by omega), am_up_ne (by omega), am_up_ne (by omega), am_up_ne (by omega), am_flf_row _ _ _ _ _ a]
  have hLI : LI D n o 0 0 (li_start (am_up (am_up I 24 0 (I 1 3)) 22 5 0)) (am_up J 22 1 (lN (c + tt))) T (am_up (am_up (am_up (am_up (am_flf I' 71 0 32 (fun k => am_b01 (decide (I' 70 k ≠ 0)))) 49 47 0) 49 60 0) 49 59 0) 49 46 0) (am_up J' 49 44 (lN (c + tt))) := by
    refine ⟨Nat.zero_le n, hP0, h5, ?_, ⟨⟨?_, ?_, ?_, ?_, ?_, ?_, ?_, ?_, ?_, c9⟩, ⟨p0, ?_, p2, p3, ?_, ?_, ?_, ?_, ?_⟩, ⟨rfl, lN_nn (by omega)⟩⟩, (by rw [h3]; exact ⟨rfl, rfl, rfl, Nat.zero_le 8, fun e he => absurd he (by omega)⟩), rfl, rfl, rfl, s0⟩
    · show am_flf I' 71 0 32 (fun k => am_b01 (decide (I' 70 k ≠ 0))) 49 22 = nI o
      rw [am_flf_row _ _ _ _ _ (by decide)]; exact h7
    · intro j hj
      show am_flf I' 71 0 32 (fun k => am_b01 (decide (I' 70 k ≠ 0))) 71 j = am_b01 (am_bt (I 1 3) j)
      rw [am_flf_in _ _ _ _ _ (Nat.zero_le j) hj, hg j hj, b01_on]
    · rw [hrow 72 (by decide) (by decide)]; exact c1
    · rw [hrow 73 (by decide) (by decide)]; exact c2
    · rw [hrow 79 (by decide) (by decide)]; exact c3
    · rw [hrow 76 (by decide) (by decide)]; exact c4
    · rw [hrow 78 (by decide) (by decide)]; exact c5
    · rw [hrow 74 (by decide) (by decide)]; exact c6
    · rw [hrow 75 (by decide) (by decide)]; exact c7
    · rw [hrow 77 (by decide) (by decide)]; exact c8
    · rw [hrow 82 (by decide) (by decide)]; exact p1
    · rw [hrow 85 (by decide) (by decide)]; exact p4
    · rw [hrow 86 (by decide) (by decide)]; exact p5
    · rw [hrow 87 (by decide) (by decide)]; exact p6
    · rw [hrow 88 (by decide) (by decide)]; exact p7
    · rw [hrow 89 (by decide) (by decide)]; exact p8
  obtain ⟨s, I1, J1, T1, I2, J2, e1, e2, R, ⟨hs, hs3⟩, h46, ⟨f1, f2, f3⟩, ⟨g1, g2⟩⟩ := li_sim (L := L) (C := C) (Lm := Lm) (Cm := Cm) (Tm := Tm) h1 h2 500 0 0 _ _ _ _ _ rfl hLI .null .null .null .null
  have F1 : ∀ q k, (q < 22 ∨ 33 ≤ q) → I1 q k = I q k := by
    intro q k h
    rw [f1 q k (by omega)]
    show am_up (am_up (am_up (am_up (am_up (am_up I 24 0 _) 22 5 _) 22 7 _) 22 8 _) 22 9 _) 22 4 _ q k = _
    rw [am_up_ne (by omega), am_up_ne (by omega), am_up_ne (by omega), am_up_ne (by omega), am_up_ne (by omega), am_up_ne (by omega)]
  have G1 : ∀ q k, (q < 49 ∨ (q = 49 ∧ k < 45) ∨ (50 ≤ q ∧ q ≤ 70) ∨ q = 80 ∨ 92 ≤ q) → I2 q k = I' q k := by
    intro q k h
    rw [g1 q k (by omega), am_up_ne (by omega), am_up_ne (by omega), am_up_ne (by omega), am_up_ne (by omega), am_flf_row _ _ _ _ _ (by omega)]
  refine ⟨s, I1, J1, T1, I2, J2, ?_, ?_, R, hs, hs3, h46, ?_, ?_, Rel_p_keep (fun q k a b => F1 q k (by omega)) (fun k => f3 44 k (by decide)) (fun q k a b => G1 q k (by omega)) (G1 49 22 (by omega)) ⟨h1, h2, h3, h4, h5, h6, h7, h8, h9, h10, h11, h12⟩, ?_, ?_, fun k => G1 80 k (by omega), ⟨F1, ?_, f3⟩, ⟨fun q k h => G1 q k (by omega), ?_⟩⟩
  · rw [li_head, eJ]
    exact e1
  · rw [rg_149_0, if_pos (by rw [hst, s0]; decide +kernel), eM]
    show am_E 149 14 [.ref 49, .int (nI tt), .int (nI 0)] [] _ = _
    rw [ms_in _ Tm Lm Cm (nI tt) (fun k => am_b01 (decide (I' 70 k ≠ 0))) 32 0 I' rfl (fun _ => rfl), rg_147_0]
    have e22 : am_up (am_flf I' 71 0 32 (fun k => am_b01 (decide (I' 70 k ≠ 0)))) 49 47 0 49 22 = nI o := by
      show am_flf I' 71 0 32 (fun k => am_b01 (decide (I' 70 k ≠ 0))) 49 22 = nI o
      rw [am_flf_row _ _ _ _ _ (by decide)]; exact h7
    have e56 : am_up (am_flf I' 71 0 32 (fun k => am_b01 (decide (I' 70 k ≠ 0)))) 49 47 0 56 o = nI n := by
      show am_flf I' 71 0 32 (fun k => am_b01 (decide (I' 70 k ≠ 0))) 56 o = nI n
      rw [am_flf_row _ _ _ _ _ (by decide)]; exact h6
    rw [e22, nI_clamp (by omega), e56, am_inb_ok h2 (by decide)]
    show Option.bind (am_E 147 19 [.ref 49, .int (nI n), .int (nI 0), .int 0, .null, .null] [] _) _ = _
    rw [e2, am_okb, am_vIi]
  · rw [f1 22 5 (by decide)]
    rfl
  · rw [g1 49 47 (by decide)]
    rfl
  · refine ⟨c + tt, ?_, by omega⟩
    rw [f2 22 1 (by decide)]
    exact am_up_here _ _ _ _
  · rw [f1 22 2 (by decide)]
    rfl
  · intro q k h
    rw [f2 q k (by omega), am_up_ne (by omega)]
  · intro q k h
    rw [g2 q k (by omega), am_up_ne (by omega)]
theorem scan_fin {L : Nat} {C : Nat × Nat} {Lm : Nat} {Cm : Nat × Nat} {Tm : Nat → Nat → Nat} {I : Nat → Nat → Int32} {J : Nat → Nat → Int64} {T : Nat → Nat → Nat} {I' : Nat → Nat → Int32} {J' : Nat → Nat → Int64} {D : Nat → Nat} {n ng o B tt : Nat} {I1 : Nat → Nat → Int32} {J1 : Nat → Nat → Int64} {T1 : Nat → Nat → Nat} {I2 : Nat → Nat → Int32} {J2 : Nat → Nat → Int64} {A M : Nat → Nat → Int32} (hs : I1 22 3 = 0) (hcl : R_clock J1 J2) (h46 : I2 49 46 = I1 22 4) (hgv : R_b (I1 1 3) (I2 70) 32) (hpast : R_past I1 J1 I2 J2) (hP2 : Rel_p D n ng o I1 T1 (am_up I2 49 45 0)) (hB1 : Rel_c (B + 1000000) J1) (f1 : ∀ q k, (q < 22 ∨ 33 ≤ q) → I1 q k = I q k) (f2 : ∀ q k, (q < 22 ∨ 32 ≤ q) → J1 q k = J q k) (f3 : ∀ q k, q ≠ 33 → T1 q k = T q k) (g1 : ∀ q k, (q < 49 ∨ (q = 49 ∧ k < 45) ∨ (50 ≤ q ∧ q ≤ 70) ∨ 92 ≤ q) → I2 q k = I' q k) (g2 : ∀ q k, (q < 49 ∨ 92 ≤ q) → J2 q k = J' q k) (ae : ∀ q k, q ≠ 24 → q ≠ 22 → A q k = I1 q k) (ae22 : ∀ k, k ≠ 5 → A 22 k = I1 22 k) (mk : ∀ q k, q ≠ 72 → q ≠ 73 → q ≠ 79 → ¬ (q = 49 ∧ k = 47) → M q k = am_up I2 49 45 0 q k) (h5f : M 49 47 = A 22 5) (R4 : R_cells A M) (hro : am_E 13 0 [.ref 22, .ref 34, .int (I 1 3), .int (nI tt)] [] (am_W I J T L C) = some (.null, am_W (am_up A 22 2 (A 24 1)) J1 T1 L C)) (hm : am_E 149 0 [.ref 49, .int (nI tt), .null] [] (am_W I' J' Tm Lm Cm) = some (.int 0, am_W (am_flf M 80 0 32 (fun k => M 72 k)) J2 Tm Lm Cm)) : ∃ I1 J1 T1 I2 J2, am_E 13 0 [.ref 22, .ref 34, .int (I 1 3), .int (nI tt)] [] (am_W I J T L C) = some (.null, am_W I1 J1 T1 L C) ∧ am_E 149 0 [.ref 49, .int (nI tt), .null] [] (am_W I' J' Tm Lm Cm) = some (.int (I1 22 3), am_W I2 J2 Tm Lm Cm) ∧ Rel_s I1 J1 I2 J2 ∧ Rel_p D n ng o I1 T1 I2 ∧ Rel_c (B + 1000000) J1 ∧ FS I J T I1 J1 T1 ∧ FN I' J' I2 J2 := by
    have mrow : ∀ r, r ≠ 80 → am_flf M 80 0 32 (fun k => M 72 k) r = M r := fun r hr => am_flf_row _ _ _ _ _ hr
    refine ⟨am_up A 22 2 (A 24 1), J1, T1, am_flf M 80 0 32 (fun k => M 72 k), J2, hro, ?_, ⟨⟨?_, ?_, hcl⟩, ?_, ?_, ?_, ?_, ?_, ?_⟩, ?_, hB1, ⟨?_, f2, f3⟩, ⟨?_, g2⟩⟩
    · rw [hm]
      show _ = some (Value.int (A 22 3), _)
      rw [ae22 3 (by decide), hs]
    · obtain ⟨d0, d1, d2, d3, d4, d5, d6, d7, d8, d9⟩ := R4
      refine ⟨?_, ?_, ?_, ?_, ?_, ?_, ?_, ?_, ?_, d9⟩
      · rw [mrow 71 (by decide)]; exact d0
      · rw [mrow 72 (by decide)]; exact d1
      · rw [mrow 73 (by decide)]; exact d2
      · rw [mrow 79 (by decide)]; exact d3
      · rw [mrow 76 (by decide)]; exact d4
      · rw [mrow 78 (by decide)]; exact d5
      · rw [mrow 74 (by decide)]; exact d6
      · rw [mrow 75 (by decide)]; exact d7
      · rw [mrow 77 (by decide)]; exact d8
    · refine R_past_row (I := I1) (I' := I2) (fun k => ?_) (fun q k a b => ?_) hpast
      · show A 28 k = _
        exact ae 28 k (by decide) (by decide)
      · rw [mrow q (by omega), mk q k (by omega) (by omega) (by omega) (by omega), am_up_ne (by omega)]
    · show R_b (A 1 3) _ 32
      rw [ae 1 3 (by decide) (by decide), mrow 70 (by decide)]
      intro j hj
      rw [mk 70 j (by decide) (by decide) (by decide) (by omega), am_up_ne (by omega)]
      exact hgv j hj
    · intro j hj
      show am_flf M 80 0 32 (fun k => M 72 k) 80 j = am_b01 (am_bt (A 24 1) j)
      rw [am_flf_in _ _ _ _ _ (Nat.zero_le j) hj]
      exact R4.2.1 j hj
    · show am_flf M 80 0 32 (fun k => M 72 k) 49 45 = A 22 3
      rw [ae22 3 (by decide), hs, mrow 49 (by decide), mk 49 45 (by decide) (by decide) (by decide) (by decide)]
      rfl
    · refine Or.inl ?_
      show A 22 3 = 0
      rw [ae22 3 (by decide), hs]
    · show am_flf M 80 0 32 (fun k => M 72 k) 49 46 = A 22 4
      rw [ae22 4 (by decide), mrow 49 (by decide), mk 49 46 (by decide) (by decide) (by decide) (by decide)]
      exact h46
    · show am_flf M 80 0 32 (fun k => M 72 k) 49 47 = A 22 5
      rw [mrow 49 (by decide)]
      exact h5f
    · refine Rel_p_keep (fun q k a b => ?_) (fun _ => rfl) (fun q k a b => ?_) ?_ hP2
      · rw [am_up_ne (by omega), ae q k (by omega) (by omega)]
      · rw [mrow q (by omega), mk q k (by omega) (by omega) (by omega) (by omega)]
      · rw [mrow 49 (by decide), mk 49 22 (by decide) (by decide) (by decide) (by decide)]
    · intro q k h
      rw [am_up_ne (by omega), ae q k (by omega) (by omega)]
      exact f1 q k h
    · intro q k h
      rw [mrow q (by omega), mk q k (by omega) (by omega) (by omega) (by omega), am_up_ne (by omega)]
      exact g1 q k h
theorem scan_sim {L : Nat} {C : Nat × Nat} {Lm : Nat} {Cm : Nat × Nat} {Tm : Nat → Nat → Nat} {I : Nat → Nat → Int32} {J : Nat → Nat → Int64} {T : Nat → Nat → Nat} {I' : Nat → Nat → Int32} {J' : Nat → Nat → Int64} {D : Nat → Nat} {n ng o B tt : Nat} (hS : Rel_s I J I' J') (hP : Rel_p D n ng o I T I') (hB : Rel_c B J) (s0 : I 22 3 = 0) (htt : tt ≤ 1000000) (hb : B + 1000000 < 2 ^ 62) : ∃ I1 J1 T1 I2 J2, am_E 13 0 [.ref 22, .ref 34, .int (I 1 3), .int (nI tt)] [] (am_W I J T L C) = some (.null, am_W I1 J1 T1 L C) ∧ am_E 149 0 [.ref 49, .int (nI tt), .null] [] (am_W I' J' Tm Lm Cm) = some (.int (I1 22 3), am_W I2 J2 Tm Lm Cm) ∧ Rel_s I1 J1 I2 J2 ∧ Rel_p D n ng o I1 T1 I2 ∧ Rel_c (B + 1000000) J1 ∧ FS I J T I1 J1 T1 ∧ FN I' J' I2 J2 := by
  obtain ⟨s, I1, J1, T1, I2, J2, e1, e2, R, hs, hs3, h46, h5, h47, hP1, hB1, hout, hsh, ⟨f1, f2, f3⟩, ⟨g1, g2⟩⟩ := scan_list (L := L) (C := C) (Lm := Lm) (Cm := Cm) (Tm := Tm) hS hP hB s0 htt hb
  obtain ⟨_, hg, hsh0, _, _, _, _⟩ := hS
  have hgv : R_b (I1 1 3) (I2 70) 32 := by
    rw [f1 1 3 (by decide)]
    intro j hj
    rw [g1 70 j (by omega)]
    exact hg j hj
  have hshn : R_b (I1 22 2) (I2 80) 32 := by
    rw [hout]
    intro j hj
    rw [hsh j]
    exact hsh0 j hj
  by_cases hz : s = 0
  · rw [hz] at hs e2
    obtain ⟨q1, q2, q3, q4, q5, q6, q7, q8, q9, q10, q11, q12⟩ := hP1
    obtain ⟨⟨c0, c1, c2, c3, c4, c5, c6, c7, c8, c9⟩, hpast, hcl⟩ := R
    have hP2 : Rel_p D n ng o I1 T1 (am_up I2 49 45 0) := Rel_p_keep (fun _ _ _ _ => rfl) (fun _ => rfl) (fun q k a b => by rw [am_up_ne (by omega)]) rfl ⟨q1, q2, q3, q4, q5, q6, q7, q8, q9, q10, q11, q12⟩
    have R2 : R_cells I1 (am_up I2 49 45 0) := ⟨c0, c1, c2, c3, c4, c5, c6, c7, c8, c9⟩
    have pg := hP2.2.2.2.2.2.2.2.2.2.2.1
    have pc := hP2.2.2.2.2.2.2.2.2.2.2.2
    obtain ⟨R3, hf3⟩ := GS_all (o := o) (n := ng) R2 (show I2 49 47 = I1 22 5 by rw [h47, h5]) pg
    have ge : ∀ q k, q ≠ 24 → q ≠ 22 → go_end (go_run ng 0 (0, I1)) q k = I1 q k := by
      intro q k a b
      show am_up _ 24 3 _ q k = _
      rw [am_up_ne (by omega), go_run_keep _ _ _ _ _ a b]
    have ge22 : ∀ k, k ≠ 5 → go_end (go_run ng 0 (0, I1)) 22 k = I1 22 k := by
      intro k a
      show am_up _ 24 3 _ 22 k = _
      rw [am_up_ne (by omega), go_run_22 _ _ _ _ a]
    have me := mc_mid_keep o ng (am_up I2 49 45 0)
    have pc3 : ∀ x, x < 48 → PC o (go_end (go_run ng 0 (0, I1))) (mc_mid o ng (am_up I2 49 45 0)) x := fun x hx => PC_keep (fun q k a b => ge q k (by omega) (by omega)) (fun q k a b => me q k (by omega) (by omega)) (pc x hx)
    have ok3 : ∀ g, g < 48 → ma_ok (mc_mid o ng (am_up I2 49 45 0)) (48 * o + g) := fun g hg => PC_ma (pc3 g hg)
    have R4 := AS_all R3 pc3
    have ae : ∀ q k, q ≠ 24 → q ≠ 22 → ac_all (go_end (go_run ng 0 (0, I1))) q k = I1 q k := by
      intro q k a b
      rw [ac_all_keep _ _ _ a, ge q k a b]
    have ae22 : ∀ k, k ≠ 5 → ac_all (go_end (go_run ng 0 (0, I1))) 22 k = I1 22 k := by
      intro k a
      rw [ac_all_keep _ _ _ (by decide), ge22 k a]
    have mk : ∀ q k, q ≠ 72 → q ≠ 73 → q ≠ 79 → ¬ (q = 49 ∧ k = 47) → mc_all o ng (am_up I2 49 45 0) q k = am_up I2 49 45 0 q k := by
      intro q k a b d e
      unfold mc_all
      rw [mc_acts_keep ok3 q k a b, me q k e d]
    have hro := ro_on I J T L C (I 1 3) (nI tt) (n := ng) e1 hs q8 q9 (fun g hg => PG_go (q11 g hg)) (fun g hg => PC_ac (pc3 g hg))
    have hch := mc_chart (am_up I2 49 45 0) J2 Tm Lm Cm (o := o) (n := ng) q2 q8 hP2.2.2.2.2.2.2.1 hP2.2.2.2.2.2.2.2.2.2.1 (fun g a b => by
      have h := PG_mg (pg (g - 16 * o) (by omega))
      rw [show 16 * o + (g - 16 * o) = g by omega] at h
      exact h) (fun g hg => PC_ma (pc g hg))
    have hm : am_E 149 0 [.ref 49, .int (nI tt), .null] [] (am_W I' J' Tm Lm Cm) = some (.int 0, am_W (am_flf (mc_all o ng (am_up I2 49 45 0)) 80 0 32 (fun k => mc_all o ng (am_up I2 49 45 0) 72 k)) J2 Tm Lm Cm) := by
      rw [e2, rg_149_34, if_pos rfl, hch, am_okb, rg_149_40]
      show am_E 149 42 [.ref 49, .int (nI tt), .int (nI 0)] [] _ = _
      rw [ms_shown J2 Tm Lm Cm (nI tt) (fun k => mc_all o ng (am_up I2 49 45 0) 72 k) 32 0 _ rfl (fun _ => rfl), mk 49 45 (by decide) (by decide) (by decide) (by decide)]
      rfl
    have h5f : mc_all o ng (am_up I2 49 45 0) 49 47 = ac_all (go_end (go_run ng 0 (0, I1))) 22 5 := by
      rw [ac_all_keep _ _ _ (by decide), ← hf3]
      unfold mc_all
      rw [mc_acts_keep ok3 49 47 (by decide) (by decide)]
    have R5 : R_cells (ac_all (go_end (go_run ng 0 (0, I1)))) (mc_all o ng (am_up I2 49 45 0)) := R4
    exact scan_fin (A := ac_all (go_end (go_run ng 0 (0, I1)))) (M := mc_all o ng (am_up I2 49 45 0)) hs hcl h46 hgv hpast hP2 hB1 f1 f2 f3 g1 g2 ae ae22 mk h5f R5 hro hm
  · have hro := ro_stop I J T L C (I 1 3) (nI tt) e1 (by rw [hs]; exact hz)
    have hm : am_E 149 0 [.ref 49, .int (nI tt), .null] [] (am_W I' J' Tm Lm Cm) = some (.int s, am_W (am_up I2 49 45 s) J2 Tm Lm Cm) := by
      rw [e2, rg_149_34, if_neg hz]
    obtain ⟨⟨c0, c1, c2, c3, c4, c5, c6, c7, c8, c9⟩, ⟨p0, p1, p2, p3, p4, p5, p6, p7, p8⟩, k⟩ := R
    refine ⟨I1, J1, T1, am_up I2 49 45 s, J2, hro, by rw [hm, hs], ⟨⟨⟨c0, c1, c2, c3, c4, c5, c6, c7, c8, c9⟩, ⟨p0, p1, p2, p3, p4, p5, p6, p7, p8⟩, k⟩, hgv, hshn, hs.symm, by rw [hs]; exact hs3, h46, by rw [h5]; exact h47⟩, Rel_p_keep (fun _ _ _ _ => rfl) (fun _ => rfl) (fun q k a b => by rw [am_up_ne (by omega)]) rfl hP1, hB1, ⟨f1, f2, f3⟩, ⟨?_, g2⟩⟩
    intro q k h
    rw [am_up_ne (by omega)]
    exact g1 q k h

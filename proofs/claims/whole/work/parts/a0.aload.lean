/-! LOAD in both. -/
/-- the programs' relation looks at the model's own half alone -/
theorem Rel_p_half {D : Nat → Nat} {n ng o : Nat} {I I1 : Nat → Nat → Int32} {T T1 : Nat → Nat → Nat} {I' I2 : Nat → Nat → Int32} (hI : ∀ q k, 33 ≤ q → q ≤ 48 → I1 q k = I q k) (hT : ∀ k, T1 44 k = T 44 k) (hI' : ∀ q k, 51 ≤ q → q ≤ 67 → hwd q * o ≤ k → k < hwd q * o + hwd q → I2 q k = I' q k) (h49 : I2 49 22 = I' 49 22) (h : Rel_p D n ng o I T I') : Rel_p D n ng o I1 T1 I2 := by
  obtain ⟨h1, h2, h3, h4, h5, h6, h7, h8, h9, h10, h11, h12⟩ := h
  have r80 : ∀ q p, 51 ≤ q → q ≤ 55 → p < 80 → I2 q (80 * o + p) = I' q (80 * o + p) := fun q p a b c => by
    have e : hwd q = 80 := if_pos b
    exact hI' q _ a (by omega) (by rw [e]; omega) (by rw [e]; omega)
  have r16 : ∀ q p, 62 ≤ q → q ≤ 66 → p < 16 → I2 q (16 * o + p) = I' q (16 * o + p) := fun q p a b c => by
    have e : hwd q = 16 := by unfold hwd; rw [if_neg (by omega), if_neg (by omega), if_neg (by omega), if_neg (by omega), if_neg (by omega), if_pos b]
    exact hI' q _ (by omega) (by omega) (by rw [e]; omega) (by rw [e]; omega)
  have r48 : ∀ q p, 59 ≤ q → q ≤ 61 → p < 48 → I2 q (48 * o + p) = I' q (48 * o + p) := fun q p a b c => by
    have e : hwd q = 48 := by unfold hwd; rw [if_neg (by omega), if_neg (by omega), if_neg (by omega), if_neg (by omega), if_pos b]
    exact hI' q _ (by omega) (by omega) (by rw [e]; omega) (by rw [e]; omega)
  have r32 : ∀ l, l < 32 → I2 57 (32 * o + l) = I' 57 (32 * o + l) := fun l c => hI' 57 _ (by decide) (by decide) (by show 32 * o ≤ _; omega) (by show _ < 32 * o + 32; omega)
  have e56 : I2 56 o = I' 56 o := hI' 56 o (by decide) (by decide) (by show 1 * o ≤ o; omega) (by show o < 1 * o + 1; omega)
  have e67 : I2 67 o = I' 67 o := hI' 67 o (by decide) (by decide) (by show 1 * o ≤ o; omega) (by show o < 1 * o + 1; omega)
  refine ⟨h1, h2, h3, fun p hp => ?_, by rw [hI 34 6 (by decide) (by decide)]; exact h5, e56.trans h6, h49.trans h7, h8, by rw [hI 35 5 (by decide) (by decide)]; exact h9, e67.trans h10, fun g hg => ?_, fun x hx => ?_⟩
  · have h3 := h4 p hp
    rcases h3 with a | ⟨b, l, t, q1, q2, q3, q4, q5, q6, q7, q8, q9, q10⟩ | a
    · refine Or.inl ?_
      unfold PA at a ⊢
      simp only [hT, hI 45 p (by decide) (by decide), hI 46 p (by decide) (by decide), hI 47 p (by decide) (by decide), r80 51 p (by decide) (by decide) (by omega), r80 52 p (by decide) (by decide) (by omega), r80 53 p (by decide) (by decide) (by omega), r80 54 p (by decide) (by decide) (by omega), r80 55 p (by decide) (by decide) (by omega)]
      exact a
    · exact Or.inr (Or.inl ⟨b, l, t, q1, (hT p).trans q2, (r80 51 p (by decide) (by decide) (by omega)).trans q3, (r80 52 p (by decide) (by decide) (by omega)).trans q4, (hI 46 p (by decide) (by decide)).trans q5, q6, (r80 54 p (by decide) (by decide) (by omega)).trans q7, (hI 48 l (by decide) (by decide)).trans q8, (r32 l q6).trans q9, q10⟩)
    · refine Or.inr (Or.inr ⟨?_, a.2⟩)
      have a1 := a.1
      unfold PE at a1 ⊢
      simp only [hT, r80 51 p (by decide) (by decide) (by omega), r80 52 p (by decide) (by decide) (by omega)]
      exact a1
  · have h3 := h11 g hg
    unfold PG at h3 ⊢
    simp only [hI 36 g (by decide) (by decide), hI 37 g (by decide) (by decide), hI 38 g (by decide) (by decide), hI 39 g (by decide) (by decide), hI 40 g (by decide) (by decide), r16 62 g (by decide) (by decide) (by omega), r16 63 g (by decide) (by decide) (by omega), r16 64 g (by decide) (by decide) (by omega), r16 65 g (by decide) (by decide) (by omega), r16 66 g (by decide) (by decide) (by omega)]
    exact h3
  · have h3 := h12 x hx
    unfold PC at h3 ⊢
    simp only [hI 41 x (by decide) (by decide), hI 42 x (by decide) (by decide), hI 43 x (by decide) (by decide), r48 59 x (by decide) (by decide) hx, r48 60 x (by decide) (by decide) hx, r48 61 x (by decide) (by decide) hx]
    exact h3
/-- a text read is a program of both -/
theorem LV_Rel {D : Nat → Nat} {tx : Nat → Nat} {N h n ng nc f : Nat} {I : Nat → Nat → Int32} {T : Nat → Nat → Nat} {I' : Nat → Nat → Int32} (v : LV D tx N h n ng 0 nc f I T I') (hD : D n = 0) (hl : ∀ l, l < 32 → I 20 l ≠ -1 → I 19 l ≠ -1) : Rel_p D n ng h (rI I) (rT T) (am_up I' 49 22 (nI h)) := by
  obtain ⟨a, b, v1, ⟨w1, w2, w3, w4, w5, w6, w7, w8, w9, w10, w11⟩, ⟨v3z, v3⟩, v4, v5, v6, v7, v8⟩ := v
  refine ⟨w3, w1, v3z, fun p hp => ?_, w4, w5, rfl, w6, w7, w8, fun g hg => v7 g hg, fun x hx => v6 x hx⟩
  rcases v3 p hp with e | ⟨b, l, q1, q2, q3, q4, q5, q6, q7, q8, q9, q10⟩ | e
  · exact Or.inl e
  · obtain ⟨x1, x2⟩ := v4 l q6
    obtain ⟨t, t1, t2, t3⟩ := x2.resolve_left (hl l q6 q10)
    exact Or.inr (Or.inl ⟨b, l, t, q1, q2, q3, q4, q5, q6, q7, t2, x1.trans t2, t1, t3, q8, q9⟩)
  · exact Or.inr (Or.inr ⟨e, hD⟩)
theorem sig_hi : ∀ q, 33 ≤ q → q ≤ 48 → am_sig q < 22 ∨ 28 < am_sig q := by
  intro q h1 h2
  have r : ∀ q, q < 49 → 33 ≤ q → am_sig q < 22 ∨ 28 < am_sig q := by decide +kernel
  exact r q (by omega) h1
theorem ca_load {B L : Nat} {C : Nat × Nat} {Lm : Nat} {Cm : Nat × Nat} {Tm : Nat → Nat → Nat} {I : Nat → Nat → Int32} {J : Nat → Nat → Int64} {T : Nat → Nat → Nat} {I' : Nat → Nat → Int32} {J' : Nat → Nat → Int64} (h : RLE B I J T I' J') : (∃ x I1 T1 I2, am_E 75 0 [.ref 1, .null] [] (am_W I J T L C) = some (.int x, am_W I1 J T1 L C) ∧ am_E 129 0 [.ref 49, .null, .null, .null] [] (am_W I' J' Tm Lm Cm) = some (.int x, am_W I2 J' Tm Lm Cm) ∧ RLE B I1 J T1 I2 J' ∧ I2 49 0 = 0 ∧ (∀ q k, 49 ≤ q → I1 q k = I q k) ∧ (∀ q k, (q < 49 ∨ 92 ≤ q) → I2 q k = I' q k)) ∨ (∃ x I1 J1 T1 I2 J2, am_E 75 0 [.ref 1, .null] [] (am_W I J T L C) = some (.int x, am_X I1 J1 T1 L C) ∧ am_E 129 0 [.ref 49, .null, .null, .null] [] (am_W I' J' Tm Lm Cm) = some (.int x, am_W I2 J2 Tm Lm Cm) ∧ RLE B (rI I1) (rJ J1) (rT T1) I2 J2 ∧ I2 49 0 = 0 ∧ (∀ q k, 49 ≤ q → rI I1 q k = I q k) ∧ (∀ q k, 49 ≤ q → rJ J1 q k = J q k) ∧ (∀ q k, (q < 49 ∨ 92 ≤ q) → I2 q k = I' q k) ∧ (∀ q k, (q < 49 ∨ 92 ≤ q) → J2 q k = J' q k)) := by
  obtain ⟨D, n, ng, o, tx, N, h1, h2, h3, h4, h5, h6, h7⟩ := h
  have ho := h2.2.1
  have h22 : I' 49 22 = nI o := h2.2.2.2.2.2.2.1
  rcases ld_read (L := L) (C := C) (Lm := Lm) (Cm := Cm) (Tm := Tm) (J := J) (J' := J') (T := T) h3 h4 ho h22 with ⟨k, p, I1, T1, I2, z1, z2, z3, z4, z5, z6, z7, z8, z9, z10, z11, z12⟩ | ⟨D', n', ng', nc', I1, T1, I2, x, y2, y3, z1, z2, z3, z4, z5, z6, z7, z8, z9⟩
  · refine Or.inl ⟨-1, I1, T1, I2, cl_load0 I J T L C z4, z5, ⟨D, n, ng, o, tx, N, ?_, ?_, ?_, ?_, ?_, ?_, h7⟩, z9, fun q k e => z10 q k (by omega), fun q k e => z12 q k (by unfold MA; omega)⟩
    · exact Rel_s_keep (fun q k e => z10 q k (by omega)) (fun _ _ _ => rfl) (fun q k e => z12 q k (by unfold MA; omega)) (fun _ _ _ => rfl) h1
    · refine Rel_p_half (fun q k a b => z10 q k (by omega)) (fun k => z11 44 k (by decide)) (fun q k a b c d => z12 q k (fun e => ?_)) (z12 49 22 (by unfold MA; omega)) h2
      unfold MA at e
      rcases e with (e | e | e | ⟨_, _, e1, e2⟩) | e
      · omega
      · omega
      · omega
      · rcases (show o = 0 ∨ o = 1 by omega) with rfl | rfl
        · have : hwd q * 0 = 0 := rfl
          have t1 : hwd q * (1 - 0) = hwd q := Nat.mul_one _
          omega
        · have : hwd q * (1 - 1) = 0 := rfl
          have t1 : hwd q * 1 = hwd q := Nat.mul_one _
          omega
      · omega
    · exact TX_keep (fun i => z10 4 i (by omega)) (z10 3 1 (by omega)) h3
    · exact TX_keep (fun i => z12 50 i (by unfold MA; omega)) (z12 49 2 (by unfold MA; omega)) h4
    · rw [z8.1, z6]
    · rw [z8.2, z7]
  · obtain ⟨hm, h3w, h4w⟩ := LV_mt z3
    have hh := hm.2.1
    have hn' : I1 5 6 = nI n' := z3.2.2.2.1.2.2.2.1
    have hm56 : I2 56 (1 - o) = nI n' := z3.2.2.2.1.2.2.2.2.1
    have hp0 := LV_Rel z3 z4 z6
    generalize hho : 1 - o = ho' at *
    obtain ⟨I3, J3, e1, e2⟩ := mr_all (am_up I2 49 22 (nI ho')) J' Tm Lm Cm
    have mk := e2.2.2.2.2.2.2.2.2.1
    have mj := e2.2.2.2.2.2.2.2.2.2
    have ma := (ma_v I1).2.2.2.2.2.2
    have hfr : ∀ q k, (q < 49 ∨ 92 ≤ q) → I3 q k = I' q k := fun q k e => (mk q k (by omega)).trans ((am_up_ne (by omega)).trans (z9 q k (by unfold MA; omega)))
    have v1 := z3.2.2.1
    refine Or.inr ⟨nI n', ma_clrI I1, am_up J 22 1 0, T1, I3, J3, ?_, ?_, ⟨D', n', ng', ho', tx, N, ?_, ?_, ?_, ?_, ?_, ?_, ⟨0, rfl, Nat.zero_le B⟩⟩, ?_, fun q k e => ?_, fun q k e => ?_, hfr, fun q k e => mj q k e⟩
    · rw [cl_load1 I J T L C z1, hn']
    · have e56 : I3 56 ho' = nI n' := (mk 56 ho' (by omega)).trans ((am_up_ne (by omega)).trans hm56)
      have e22 : I3 49 22 = nI ho' := (mk 49 22 (by omega)).trans (am_up_here _ _ _ _)
      rw [z2, rg_129_86, h3w, if_pos (show (0 : Int32) ≤ 0 by decide), hm.2.2, e1, am_okb, rg_129_97, e22, am_inb_ok hh (by decide), nI_clamp (by omega), e56]
    · have hg : R_b (rI (ma_clrI I1) 1 3) (am_up I2 49 22 (nI ho') 70) 32 := by
        have ea : rI (ma_clrI I1) 1 3 = I 1 3 := (ma 1 3 (by omega)).trans (z7 1 3 (by omega))
        have eb : am_up I2 49 22 (nI ho') 70 = I' 70 := funext fun j => (am_up_ne (by omega)).trans (z9 70 j (by unfold MA; omega))
        rw [ea, eb]
        exact h1.2.1
      exact again_rel (I1 := rI (ma_clrI I1)) (J1 := rJ (am_up J 22 1 0)) (MAv_clr I1) rfl e2 hg
    · exact Rel_p_keep (fun q k a b => ma _ k (sig_hi q a b)) (fun _ => rfl) (fun q k a b => mk q k (by omega)) (mk 49 22 (by omega)) hp0
    · exact TX_keep (I := I1) (fun i => ma 4 i (by omega)) (ma 3 1 (by omega)) z3.1
    · exact TX_keep (I := I2) (fun i => (mk 50 i (by omega)).trans (am_up_ne (by omega))) ((mk 49 2 (by omega)).trans (am_up_ne (by omega))) z3.2.1
    · have ea : rI (ma_clrI I1) 2 2 = I1 2 2 := ma 2 2 (by omega)
      rw [mk 49 3 (by omega), ea, v1.1]
      exact (am_up_ne (by omega)).trans h3w
    · have ea : rI (ma_clrI I1) 2 3 = I1 2 3 := ma 2 3 (by omega)
      rw [mk 49 4 (by omega), ea, v1.2.1]
      exact (am_up_ne (by omega)).trans h4w
    · rw [mk 49 0 (by omega)]
      exact (am_up_ne (by omega)).trans z5
    · show ma_clrI I1 (am_sig q) k = _
      rw [sig_big e, ma q k (by omega)]
      exact z7 q k (by omega)
    · show am_up J 22 1 0 (am_sig q) k = _
      rw [sig_big e]
      exact am_up_ne (by omega)

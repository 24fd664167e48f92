/-! CLASS AND MODEL BETWEEN CALLS; the small calls. -/
def RLd (D : Nat → Nat) (n ng o : Nat) (tx : Nat → Nat) (N B : Nat) (I : Nat → Nat → Int32) (J : Nat → Nat → Int64) (T : Nat → Nat → Nat) (I' : Nat → Nat → Int32) (J' : Nat → Nat → Int64) : Prop := Rel_s I J I' J' ∧ Rel_p D n ng o I T I' ∧ TX I 4 3 1 tx N ∧ TX I' 50 49 2 tx N ∧ I' 49 3 = I 2 2 ∧ I' 49 4 = I 2 3 ∧ Rel_c B J
def RLE (B : Nat) (I : Nat → Nat → Int32) (J : Nat → Nat → Int64) (T : Nat → Nat → Nat) (I' : Nat → Nat → Int32) (J' : Nat → Nat → Int64) : Prop := ∃ D n ng o tx N, RLd D n ng o tx N B I J T I' J'
theorem Rel_s_keep {I I1 : Nat → Nat → Int32} {J J1 : Nat → Nat → Int64} {I' I2 : Nat → Nat → Int32} {J' J2 : Nat → Nat → Int64} (hI : ∀ q k, (q = 1 ∨ (22 ≤ q ∧ q ≤ 28)) → I1 q k = I q k) (hJ : ∀ q k, (q = 22 ∨ (29 ≤ q ∧ q ≤ 31)) → J1 q k = J q k) (hI' : ∀ q k, (70 ≤ q ∧ q ≤ 89) ∨ (q = 49 ∧ 45 ≤ k ∧ k ≤ 47) → I2 q k = I' q k) (hJ' : ∀ q k, (q = 49 ∨ (81 ≤ q ∧ q ≤ 84)) → J2 q k = J' q k) (h : Rel_s I J I' J') : Rel_s I1 J1 I2 J2 := by
  have a : ∀ q, (q = 1 ∨ (22 ≤ q ∧ q ≤ 28)) → I1 q = I q := fun q e => funext fun k => hI q k e
  have b : ∀ q, (q = 22 ∨ (29 ≤ q ∧ q ≤ 31)) → J1 q = J q := fun q e => funext fun k => hJ q k e
  have c : ∀ q, 70 ≤ q ∧ q ≤ 89 → I2 q = I' q := fun q e => funext fun k => hI' q k (Or.inl e)
  have d : ∀ q, (q = 49 ∨ (81 ≤ q ∧ q ≤ 84)) → J2 q = J' q := fun q e => funext fun k => hJ' q k e
  unfold Rel_s R_run R_cells R_past R_clock at h ⊢
  rw [a 1 (by decide), a 22 (by decide), a 24 (by decide), a 25 (by decide), a 26 (by decide), a 27 (by decide), a 28 (by decide), b 22 (by decide), b 29 (by decide), b 30 (by decide), b 31 (by decide), c 70 (by decide), c 71 (by decide), c 72 (by decide), c 73 (by decide), c 74 (by decide), c 75 (by decide), c 76 (by decide), c 77 (by decide), c 78 (by decide), c 79 (by decide), c 80 (by decide), c 82 (by decide), c 85 (by decide), c 86 (by decide), c 87 (by decide), c 88 (by decide), c 89 (by decide), d 49 (by decide), d 81 (by decide), d 83 (by decide), d 84 (by decide), hI' 49 45 (by decide), hI' 49 46 (by decide), hI' 49 47 (by decide)]
  exact h
theorem TX_keep {I I1 : Nat → Nat → Int32} {q s k : Nat} {tx : Nat → Nat} {N : Nat} (h1 : ∀ i, I1 q i = I q i) (h2 : I1 s k = I s k) (h : TX I q s k tx N) : TX I1 q s k tx N := ⟨h2.trans h.1, h.2.1, fun i hi => ⟨(h1 i).trans (h.2.2 i hi).1, (h.2.2 i hi).2⟩⟩
/-- the relation looks at the class's cells here, at the model's there -/
theorem RLE_keep {B : Nat} {I I1 : Nat → Nat → Int32} {J J1 : Nat → Nat → Int64} {T T1 : Nat → Nat → Nat} {I' I2 : Nat → Nat → Int32} {J' J2 : Nat → Nat → Int64} (hI : ∀ q k, q < 49 → I1 q k = I q k) (hJ : ∀ q k, q < 49 → J1 q k = J q k) (hT : ∀ q k, q < 49 → T1 q k = T q k) (hI' : ∀ q k, 49 ≤ q → q < 92 → ¬ (q = 49 ∧ k = 0) → I2 q k = I' q k) (hJ' : ∀ q k, 49 ≤ q → q < 92 → J2 q k = J' q k) (h : RLE B I J T I' J') : RLE B I1 J1 T1 I2 J2 := by
  obtain ⟨D, n, ng, o, tx, N, h1, h2, h3, h4, h5, h6, ⟨c, h7, h8⟩⟩ := h
  exact ⟨D, n, ng, o, tx, N, Rel_s_keep (fun q k e => hI q k (by omega)) (fun q k e => hJ q k (by omega)) (fun q k e => hI' q k (by omega) (by omega) (by omega)) (fun q k e => hJ' q k (by omega) (by omega)) h1, Rel_p_keep (fun q k _ e => hI q k (by omega)) (fun k => hT 44 k (by decide)) (fun q k e _ => hI' q k (by omega) (by omega) (by omega)) (hI' 49 22 (by decide) (by decide) (by omega)) h2, TX_keep (fun i => hI 4 i (by decide)) (hI 3 1 (by decide)) h3, TX_keep (fun i => hI' 50 i (by decide) (by decide) (by omega)) (hI' 49 2 (by decide) (by decide) (by omega)) h4, (hI' 49 3 (by decide) (by decide) (by omega)).trans (h5.trans (hI 2 2 (by decide)).symm), (hI' 49 4 (by decide) (by decide) (by omega)).trans (h6.trans (hI 2 3 (by decide)).symm), ⟨c, (hJ 22 1 (by decide)).trans h7, h8⟩⟩
theorem RLE_th {B : Nat} {I : Nat → Nat → Int32} {J : Nat → Nat → Int64} {T : Nat → Nat → Nat} {I' : Nat → Nat → Int32} {J' : Nat → Nat → Int64} (v : Int32) (h : RLE B I J T I' J') : RLE B I J T (am_up I' 49 0 v) J' := RLE_keep (fun _ _ _ => rfl) (fun _ _ _ => rfl) (fun _ _ _ => rfl) (fun q k _ _ e => am_up_ne e) (fun _ _ _ _ => rfl) h
theorem RLE_up {B B' : Nat} {I : Nat → Nat → Int32} {J : Nat → Nat → Int64} {T : Nat → Nat → Nat} {I' : Nat → Nat → Int32} {J' : Nat → Nat → Int64} (hb : B ≤ B') (h : RLE B I J T I' J') : RLE B' I J T I' J' := by
  obtain ⟨D, n, ng, o, tx, N, h1, h2, h3, h4, h5, h6, ⟨c, h7, h8⟩⟩ := h
  exact ⟨D, n, ng, o, tx, N, h1, h2, h3, h4, h5, h6, ⟨c, h7, by omega⟩⟩
/-- what one call comes to: the class's answer, the model's, and the relation again -/
def CALL (B' L : Nat) (C : Nat × Nat) (Lm : Nat) (Cm : Nat × Nat) (Tm : Nat → Nat → Nat) (I : Nat → Nat → Int32) (J : Nat → Nat → Int64) (T : Nat → Nat → Nat) (I' : Nat → Nat → Int32) (J' : Nat → Nat → Int64) (cl mo : am_R) (P : Value → Value → Prop) : Prop := ∃ v w I1 J1 T1 I2 J2, cl = some (v, am_W I1 J1 T1 L C) ∧ mo = some (w, am_W I2 J2 Tm Lm Cm) ∧ P v w ∧ RLE B' I1 J1 T1 I2 J2 ∧ I2 49 0 = 0 ∧ (∀ q k, 49 ≤ q → I1 q k = I q k) ∧ (∀ q k, 49 ≤ q → J1 q k = J q k) ∧ (∀ q k, (q < 49 ∨ 92 ≤ q) → I2 q k = I' q k) ∧ (∀ q k, (q < 49 ∨ 92 ≤ q) → J2 q k = J' q k)
def EQi (v w : Value) : Prop := ∃ x, v = .int x ∧ w = .int x
def EQj (v w : Value) : Prop := ∃ x, v = .long x ∧ w = .long x
def EQb (v w : Value) : Prop := ∃ b, v = .int (am_b01 b) ∧ w = .int (am_b01 b)
def EQn (v w : Value) : Prop := v = .null ∧ w = .null
theorem th_low {I : Nat → Nat → Int32} {v : Int32} : ∀ q k, (q < 49 ∨ 92 ≤ q) → am_up I 49 0 v q k = I q k := fun q k e => am_up_ne (by omega)
theorem ca_fault {B L : Nat} {C : Nat × Nat} {Lm : Nat} {Cm : Nat × Nat} {Tm : Nat → Nat → Nat} {I : Nat → Nat → Int32} {J : Nat → Nat → Int64} {T : Nat → Nat → Nat} {I' : Nat → Nat → Int32} {J' : Nat → Nat → Int64} (h : RLE B I J T I' J') : CALL B L C Lm Cm Tm I J T I' J' (am_E 76 0 [.ref 1] [] (am_W I J T L C)) (am_E 130 0 [.ref 49] [] (am_W I' J' Tm Lm Cm)) EQi := by
  have h' := h
  obtain ⟨D, n, ng, o, tx, N, h1, h2, h3, h4, h5, h6, h7⟩ := h'
  refine ⟨_, _, I, J, T, am_up I' 49 0 0, J', rg_76_0 I J T L C, rg_130_0 I' J' Tm Lm Cm, ?_, RLE_th 0 h, am_up_here _ _ _ _, fun _ _ _ => rfl, fun _ _ _ => rfl, th_low, fun _ _ _ => rfl⟩
  exact ⟨_, rfl, by rw [h5]⟩
theorem ca_place {B L : Nat} {C : Nat × Nat} {Lm : Nat} {Cm : Nat × Nat} {Tm : Nat → Nat → Nat} {I : Nat → Nat → Int32} {J : Nat → Nat → Int64} {T : Nat → Nat → Nat} {I' : Nat → Nat → Int32} {J' : Nat → Nat → Int64} (h : RLE B I J T I' J') : CALL B L C Lm Cm Tm I J T I' J' (am_E 77 0 [.ref 1] [] (am_W I J T L C)) (am_E 131 0 [.ref 49] [] (am_W I' J' Tm Lm Cm)) EQi := by
  have h' := h
  obtain ⟨D, n, ng, o, tx, N, h1, h2, h3, h4, h5, h6, h7⟩ := h'
  refine ⟨_, _, I, J, T, am_up I' 49 0 0, J', rg_77_0 I J T L C, rg_131_0 I' J' Tm Lm Cm, ?_, RLE_th 0 h, am_up_here _ _ _ _, fun _ _ _ => rfl, fun _ _ _ => rfl, th_low, fun _ _ _ => rfl⟩
  exact ⟨_, rfl, by rw [h6]⟩
theorem ca_done {B L : Nat} {C : Nat × Nat} {Lm : Nat} {Cm : Nat × Nat} {Tm : Nat → Nat → Nat} {I : Nat → Nat → Int32} {J : Nat → Nat → Int64} {T : Nat → Nat → Nat} {I' : Nat → Nat → Int32} {J' : Nat → Nat → Int64} (h : RLE B I J T I' J') : CALL B L C Lm Cm Tm I J T I' J' (am_E 86 0 [.ref 1] [] (am_W I J T L C)) (am_E 158 0 [.ref 49] [] (am_W I' J' Tm Lm Cm)) EQi := by
  have h' := h
  obtain ⟨D, n, ng, o, tx, N, h1, h2, h3, h4, h5, h6, h7⟩ := h'
  refine ⟨_, _, I, J, T, am_up I' 49 0 0, J', rg_86_0 I J T L C, rg_158_0 I' J' Tm Lm Cm, ?_, RLE_th 0 h, am_up_here _ _ _ _, fun _ _ _ => rfl, fun _ _ _ => rfl, th_low, fun _ _ _ => rfl⟩
  exact ⟨_, rfl, by rw [h1.2.2.2.2.2.1]⟩
theorem ca_fired {B L : Nat} {C : Nat × Nat} {Lm : Nat} {Cm : Nat × Nat} {Tm : Nat → Nat → Nat} {I : Nat → Nat → Int32} {J : Nat → Nat → Int64} {T : Nat → Nat → Nat} {I' : Nat → Nat → Int32} {J' : Nat → Nat → Int64} (h : RLE B I J T I' J') : CALL B L C Lm Cm Tm I J T I' J' (am_E 87 0 [.ref 1] [] (am_W I J T L C)) (am_E 159 0 [.ref 49] [] (am_W I' J' Tm Lm Cm)) EQi := by
  have h' := h
  obtain ⟨D, n, ng, o, tx, N, h1, h2, h3, h4, h5, h6, h7⟩ := h'
  refine ⟨_, _, I, J, T, am_up I' 49 0 0, J', rg_87_0 I J T L C, rg_159_0 I' J' Tm Lm Cm, ?_, RLE_th 0 h, am_up_here _ _ _ _, fun _ _ _ => rfl, fun _ _ _ => rfl, th_low, fun _ _ _ => rfl⟩
  exact ⟨_, rfl, by rw [h1.2.2.2.2.2.2]⟩
theorem ca_time {B L : Nat} {C : Nat × Nat} {Lm : Nat} {Cm : Nat × Nat} {Tm : Nat → Nat → Nat} {I : Nat → Nat → Int32} {J : Nat → Nat → Int64} {T : Nat → Nat → Nat} {I' : Nat → Nat → Int32} {J' : Nat → Nat → Int64} (h : RLE B I J T I' J') : CALL B L C Lm Cm Tm I J T I' J' (am_E 88 0 [.ref 1] [] (am_W I J T L C)) (am_E 160 0 [.ref 49] [] (am_W I' J' Tm Lm Cm)) EQj := by
  have h' := h
  obtain ⟨D, n, ng, o, tx, N, h1, h2, h3, h4, h5, h6, h7⟩ := h'
  refine ⟨_, _, I, J, T, am_up I' 49 0 0, J', rg_88_0 I J T L C, rg_160_0 I' J' Tm Lm Cm, ?_, RLE_th 0 h, am_up_here _ _ _ _, fun _ _ _ => rfl, fun _ _ _ => rfl, th_low, fun _ _ _ => rfl⟩
  exact ⟨_, rfl, by rw [h1.1.2.2.1]⟩
theorem ca_wipe {B L : Nat} {C : Nat × Nat} {Lm : Nat} {Cm : Nat × Nat} {Tm : Nat → Nat → Nat} {I : Nat → Nat → Int32} {J : Nat → Nat → Int64} {T : Nat → Nat → Nat} {I' : Nat → Nat → Int32} {J' : Nat → Nat → Int64} (h : RLE B I J T I' J') : CALL B L C Lm Cm Tm I J T I' J' (am_E 74 0 [.ref 1, .null] [] (am_W I J T L C)) (am_E 97 0 [.ref 49, .null] [] (am_W I' J' Tm Lm Cm)) EQi := by
  obtain ⟨D, n, ng, o, tx, N, h1, h2, h3, h4, h5, h6, h7⟩ := h
  refine ⟨_, _, am_up I 3 1 0, J, T, am_up (am_up I' 49 0 0) 49 2 0, J', rg_74_0 I J T L C, rg_97_0 I' J' Tm Lm Cm, ⟨_, rfl, by rw [h3.1, h4.1]⟩, ⟨D, n, ng, o, tx, 0, ?_, ?_, ?_, ?_, ?_, ?_, h7⟩, rfl, fun q k e => am_up_ne (by omega), fun _ _ _ => rfl, fun q k e => (am_up_ne (by omega)).trans (am_up_ne (by omega)), fun _ _ _ => rfl⟩
  · exact Rel_s_keep (fun q k e => am_up_ne (by omega)) (fun _ _ _ => rfl) (fun q k e => (am_up_ne (by omega)).trans (am_up_ne (by omega))) (fun _ _ _ => rfl) h1
  · exact Rel_p_keep (fun q k e _ => am_up_ne (by omega)) (fun _ => rfl) (fun q k e _ => (am_up_ne (by omega)).trans (am_up_ne (by omega))) ((am_up_ne (by omega)).trans (am_up_ne (by omega))) h2
  · exact ⟨am_up_here _ _ _ _, by decide, fun i hi => ⟨(am_up_ne (by omega)).trans (h3.2.2 i hi).1, (h3.2.2 i hi).2⟩⟩
  · exact ⟨am_up_here _ _ _ _, by decide, fun i hi => ⟨(am_up_ne (by omega)).trans ((am_up_ne (by omega)).trans (h4.2.2 i hi).1), (h4.2.2 i hi).2⟩⟩
  · exact h5
  · exact h6
theorem ca_reset {B L : Nat} {C : Nat × Nat} {Lm : Nat} {Cm : Nat × Nat} {Tm : Nat → Nat → Nat} {I : Nat → Nat → Int32} {J : Nat → Nat → Int64} {T : Nat → Nat → Nat} {I' : Nat → Nat → Int32} {J' : Nat → Nat → Int64} (h : RLE B I J T I' J') : CALL B L C Lm Cm Tm I J T I' J' (am_E 78 0 [.ref 1] [] (am_W I J T L C)) (am_E 133 0 [.ref 49] [] (am_W I' J' Tm Lm Cm)) EQn := by
  obtain ⟨D, n, ng, o, tx, N, h1, h2, h3, h4, h5, h6, h7⟩ := h
  obtain ⟨I2, J2, e1, e2⟩ := mr_all (am_up I' 49 0 0) J' Tm Lm Cm
  have mk := e2.2.2.2.2.2.2.2.2.1
  have mj := e2.2.2.2.2.2.2.2.2.2
  have ma := (ma_v I).2.2.2.2.2.2
  refine ⟨.null, .null, ma_clrI I, am_up J 22 1 0, T, I2, J2, ?_, ?_, ⟨rfl, rfl⟩, ⟨D, n, ng, o, tx, N, ?_, ?_, ?_, ?_, ?_, ?_, ⟨0, rfl, Nat.zero_le B⟩⟩, ?_, fun q k e => ma q k (by omega), fun q k e => am_up_ne (by omega), fun q k e => (mk q k (by omega)).trans (am_up_ne (by omega)), fun q k e => mj q k e⟩
  · rw [rg_78_0, ma_again, am_okb, rg_78_3]
  · rw [rg_133_0, e1, am_okb, rg_133_5]
  · refine again_rel (MAv_clr I) rfl e2 ?_
    have ea : ma_clrI I 1 3 = I 1 3 := ma 1 3 (by omega)
    rw [ea]
    exact h1.2.1
  · exact Rel_p_keep (fun q k e _ => ma q k (by omega)) (fun _ => rfl) (fun q k a b => (mk q k (by omega)).trans (am_up_ne (by omega))) ((mk 49 22 (by omega)).trans (am_up_ne (by omega))) h2
  · exact TX_keep (fun i => ma 4 i (by omega)) (ma 3 1 (by omega)) h3
  · exact TX_keep (fun i => (mk 50 i (by omega)).trans (am_up_ne (by omega))) ((mk 49 2 (by omega)).trans (am_up_ne (by omega))) h4
  · rw [mk 49 3 (by omega), ma 2 2 (by omega)]; exact h5
  · rw [mk 49 4 (by omega), ma 2 3 (by omega)]; exact h6
  · rw [mk 49 0 (by omega)]; rfl
theorem np_in (I : Nat → Nat → Int32) (J : Nat → Nat → Int64) (T : Nat → Nat → Nat) (L : Nat) (C : Nat × Nat) {j m : Nat} (h : j ≤ m) (hm : m < 2 ^ 31) : am_E 152 0 [.int (nI j), .int (nI m)] [] (am_W I J T L C) = some (.int 0, (am_W I J T L C)) := by
  rw [rg_152_0, if_neg (nI_pos (by omega)), if_pos (nI_le h hm)]
theorem np_out (I : Nat → Nat → Int32) (J : Nat → Nat → Int64) (T : Nat → Nat → Nat) (L : Nat) (C : Nat × Nat) {x m : Int32} (h : x < 0 ∨ ¬ x ≤ m) : am_E 152 0 [.int x, .int m] [] (am_W I J T L C) = some (.int 1, (am_W I J T L C)) := by
  rw [rg_152_0]
  rcases h with e | e
  · rw [if_pos e]
  · by_cases c : x < 0
    · rw [if_pos c]
    · rw [if_neg c, if_neg e]
theorem ca_input {B L : Nat} {C : Nat × Nat} {Lm : Nat} {Cm : Nat × Nat} {Tm : Nat → Nat → Nat} {I : Nat → Nat → Int32} {J : Nat → Nat → Int64} {T : Nat → Nat → Nat} {I' : Nat → Nat → Int32} {J' : Nat → Nat → Int64} {j : Nat} {b : Bool} (hj : j < 32) (h : RLE B I J T I' J') : CALL B L C Lm Cm Tm I J T I' J' (am_E 79 0 [.ref 1, .int (nI j), .int (am_b01 b)] [] (am_W I J T L C)) (am_E 153 0 [.ref 49, .int (nI j), .int (am_b01 b)] [] (am_W I' J' Tm Lm Cm)) EQn := by
  obtain ⟨D, n, ng, o, tx, N, h1, h2, h3, h4, h5, h6, h7⟩ := h
  refine ⟨.null, .null, am_up I 1 3 (am_wb (I 1 3) j b), J, T, am_up (am_up I' 49 0 0) 70 j (am_b01 b), J', ?_, ?_, ⟨rfl, rfl⟩, ⟨D, n, ng, o, tx, N, ?_, ?_, ?_, ?_, ?_, ?_, h7⟩, rfl, fun q k e => am_up_ne (by omega), fun _ _ _ => rfl, fun q k e => (am_up_ne (by omega)).trans (am_up_ne (by omega)), fun _ _ _ => rfl⟩
  · rw [rg_79_0, if_neg (nI_pos (by omega)), if_pos (show nI j < 32 from nI_lt (a := j) (b := 32) hj (by decide)), lf_withBit, am_okb, am_vIi, rg_79_16]
  · rw [rg_153_0]
    show Option.bind (am_E 152 0 [.int (nI j), .int (nI 31)] [] _) _ = _
    rw [np_in I' J' Tm Lm Cm (by omega) (by decide), am_okb, am_vIi, rg_153_4, if_pos rfl, rg_153_8, if_pos rfl, am_inb_ok hj (by decide), nI_clamp (by omega), am_b01_bit]
    rfl
  · obtain ⟨s1, s2, s3⟩ := h1
    have s0 : Rel_s (am_up I 1 3 (am_wb (I 1 3) j b)) J (am_up (am_up I' 49 0 0) 70 j (am_b01 b)) J' ↔ Rel_s (am_up I 1 3 (am_wb (I 1 3) j b)) J (am_up I' 70 j (am_b01 b)) J' := ⟨fun x => x, fun x => x⟩
    refine s0.mpr ⟨s1, ?_, s3⟩
    show R_b (am_wb (I 1 3) j b) (am_up I' 70 j (am_b01 b) 70) 32
    exact R_b_set s2 (by decide) hj
  · exact h2
  · exact h3
  · exact h4
  · exact h5
  · exact h6
theorem ca_output {B L : Nat} {C : Nat × Nat} {Lm : Nat} {Cm : Nat × Nat} {Tm : Nat → Nat → Nat} {I : Nat → Nat → Int32} {J : Nat → Nat → Int64} {T : Nat → Nat → Nat} {I' : Nat → Nat → Int32} {J' : Nat → Nat → Int64} {j : Nat} (hj : j < 32) (h : RLE B I J T I' J') : CALL B L C Lm Cm Tm I J T I' J' (am_E 82 0 [.ref 1, .int (nI j)] [] (am_W I J T L C)) (am_E 154 0 [.ref 49, .int (nI j)] [] (am_W I' J' Tm Lm Cm)) EQb := by
  have h' := h
  obtain ⟨D, n, ng, o, tx, N, h1, h2, h3, h4, h5, h6, h7⟩ := h'
  refine ⟨.int (am_b01 (am_bt (I 22 2) j)), .int (am_b01 (am_bt (I 22 2) j)), I, J, T, am_up I' 49 0 0, J', ?_, ?_, ⟨_, rfl, rfl⟩, RLE_th 0 h, am_up_here _ _ _ _, fun _ _ _ => rfl, fun _ _ _ => rfl, th_low, fun _ _ _ => rfl⟩
  · rw [rg_82_0, if_neg (nI_pos (by omega)), if_pos (show nI j < 32 from nI_lt (a := j) (b := 32) hj (by decide)), lf_isSet hj, am_okb, am_vIi, rg_82_15, am_b01_bit]
    rfl
  · have e := h1.2.2.1 j hj
    rw [rg_154_0]
    show Option.bind (am_E 152 0 [.int (nI j), .int (nI 31)] [] _) _ = _
    rw [np_in I' J' Tm Lm Cm (by omega) (by decide), am_okb, am_vIi, rg_154_4, if_pos rfl, rg_154_8, if_pos rfl, am_inb_ok hj (by decide), nI_clamp (by omega), e]
    cases am_bt (I 22 2) j
    · rw [if_neg (by decide)]; rfl
    · rw [if_pos (by decide)]; rfl
theorem ca_word {B L : Nat} {C : Nat × Nat} {Lm : Nat} {Cm : Nat × Nat} {Tm : Nat → Nat → Nat} {I : Nat → Nat → Int32} {J : Nat → Nat → Int64} {T : Nat → Nat → Nat} {I' : Nat → Nat → Int32} {J' : Nat → Nat → Int64} {j : Nat} (hj : j < 32) (h : RLE B I J T I' J') : CALL B L C Lm Cm Tm I J T I' J' (am_E 84 0 [.ref 1, .int (nI j)] [] (am_W I J T L C)) (am_E 156 0 [.ref 49, .int (nI j)] [] (am_W I' J' Tm Lm Cm)) EQi := by
  have h' := h
  obtain ⟨D, n, ng, o, tx, N, h1, h2, h3, h4, h5, h6, h7⟩ := h'
  refine ⟨.int (I 25 j), .int (I 25 j), I, J, T, am_up I' 49 0 0, J', ?_, ?_, ⟨_, rfl, rfl⟩, RLE_th 0 h, am_up_here _ _ _ _, fun _ _ _ => rfl, fun _ _ _ => rfl, th_low, fun _ _ _ => rfl⟩
  · rw [rg_84_0, if_neg (nI_pos (by omega)), if_pos (show nI j < 32 from nI_lt (a := j) (b := 32) hj (by decide))]
    show Option.bind (am_E 2 0 [.ref 23, .int (nI 6), .int (nI j)] [] _) _ = _
    rw [cl_word hj, am_okb, am_vIi, rg_84_16]
  · have e := h1.1.1.2.2.2.2.2.2.1 j hj
    rw [rg_156_0]
    show Option.bind (am_E 152 0 [.int (nI j), .int (nI 31)] [] _) _ = _
    rw [np_in I' J' Tm Lm Cm (by omega) (by decide), am_okb, am_vIi, rg_156_4, if_pos rfl, rg_156_8, if_pos (show (0 : Int32) ≤ 0 by decide), am_inb_ok hj (by decide), nI_clamp (by omega), e]
theorem ca_block {B L : Nat} {C : Nat × Nat} {Lm : Nat} {Cm : Nat × Nat} {Tm : Nat → Nat → Nat} {I : Nat → Nat → Int32} {J : Nat → Nat → Int64} {T : Nat → Nat → Nat} {I' : Nat → Nat → Int32} {J' : Nat → Nat → Int64} {j w : Nat} (hj : j < 8) (hw : w < 4) (h : RLE B I J T I' J') : CALL B L C Lm Cm Tm I J T I' J' (am_E 85 0 [.ref 1, .int (nI j), .int (nI w)] [] (am_W I J T L C)) (am_E 157 0 [.ref 49, .int (nI j), .int (nI w)] [] (am_W I' J' Tm Lm Cm)) EQi := by
  have h' := h
  obtain ⟨D, n, ng, o, tx, N, h1, h2, h3, h4, h5, h6, h7⟩ := h'
  have hc := h1.1.1
  have em : am_E 157 0 [.ref 49, .int (nI j), .int (nI w)] [] (am_W I' J' Tm Lm Cm) = am_E 157 14 [.ref 49, .int (nI j), .int (nI w)] [.int 0, .ref 49] (am_W I' J' Tm Lm Cm) := by
    rw [rg_157_0]
    show Option.bind (am_E 152 0 [.int (nI j), .int (nI 7)] [] _) _ = _
    rw [np_in I' J' Tm Lm Cm (by omega) (by decide), am_okb, am_vIi, rg_157_4, if_pos rfl]
    show Option.bind (am_E 152 0 [.int (nI w), .int (nI 3)] [] _) _ = _
    rw [np_in I' J' Tm Lm Cm (by omega) (by decide), am_okb, am_vIi, rg_157_10, if_pos rfl]
  have ec : am_E 85 0 [.ref 1, .int (nI j), .int (nI w)] [] (am_W I J T L C) = (if nI w = 0 then ((am_E 2 0 [.ref 23, .int 4, .int (nI j)] [] (am_W I J T L C)).bind (fun z4 => am_vI z4.1 fun u4 => (am_E 85 18 [.ref 1, .int (nI j), .int (nI w)] [.int u4] z4.2))) else (if nI w = 0 + 1 then ((am_E 2 0 [.ref 23, .int 9, .int (nI j)] [] (am_W I J T L C)).bind (fun z3 => am_vI z3.1 fun u3 => (am_E 85 25 [.ref 1, .int (nI j), .int (nI w)] [.int u3] z3.2))) else (if nI w = 0 + 1 + 1 then ((am_E 2 0 [.ref 23, .int 5, .int (nI j)] [] (am_W I J T L C)).bind (fun z2 => am_vI z2.1 fun u2 => (am_E 85 32 [.ref 1, .int (nI j), .int (nI w)] [.int u2] z2.2))) else (if nI w = 0 + 1 + 1 + 1 then ((am_E 2 0 [.ref 23, .int 10, .int (nI j)] [] (am_W I J T L C)).bind (fun z1 => am_vI z1.1 fun u1 => (am_E 85 39 [.ref 1, .int (nI j), .int (nI w)] [.int u1] z1.2))) else none)))) := by
    rw [rg_85_0, if_neg (nI_pos (by omega)), if_pos (show nI j < 8 from nI_lt (a := j) (b := 8) hj (by decide))]
  have fin : ∀ x : Int32, am_E 85 0 [.ref 1, .int (nI j), .int (nI w)] [] (am_W I J T L C) = some (.int x, (am_W I J T L C)) → am_E 157 14 [.ref 49, .int (nI j), .int (nI w)] [.int 0, .ref 49] (am_W I' J' Tm Lm Cm) = some (.int x, am_W (am_up I' 49 0 0) J' Tm Lm Cm) → CALL B L C Lm Cm Tm I J T I' J' (am_E 85 0 [.ref 1, .int (nI j), .int (nI w)] [] (am_W I J T L C)) (am_E 157 0 [.ref 49, .int (nI j), .int (nI w)] [] (am_W I' J' Tm Lm Cm)) EQi := fun x a b => ⟨_, _, I, J, T, am_up I' 49 0 0, J', a, em.trans b, ⟨_, rfl, rfl⟩, RLE_th 0 h, am_up_here _ _ _ _, fun _ _ _ => rfl, fun _ _ _ => rfl, th_low, fun _ _ _ => rfl⟩
  rcases (show w = 0 ∨ w = 1 ∨ w = 2 ∨ w = 3 by omega) with rfl | rfl | rfl | rfl
  · refine fin (am_b01 (am_bt (I 24 4) j)) ?_ ?_
    · rw [ec, if_pos (show nI 0 = 0 from rfl)]
      show Option.bind (am_E 2 0 [.ref 23, .int (nI 4), .int (nI j)] [] _) _ = _
      rw [cl_bit (by decide) (by omega), am_okb, am_vIi, rg_85_18]
    · rw [rg_157_14, if_pos (show (0 : Int32) ≤ 0 by decide), if_pos (show nI 0 = 0 from rfl), am_inb_ok hj (by decide), nI_clamp (by omega), hc.2.2.2.2.1 j hj]
  · refine fin (I 26 j) ?_ ?_
    · rw [ec, if_neg (show ¬ nI 1 = 0 by decide), if_pos (show nI 1 = 0 + 1 by decide)]
      show Option.bind (am_E 2 0 [.ref 23, .int (nI 9), .int (nI j)] [] _) _ = _
      rw [cl_te hj, am_okb, am_vIi, rg_85_25]
    · rw [rg_157_14, if_pos (show (0 : Int32) ≤ 0 by decide), if_neg (show ¬ nI 1 = 0 by decide), if_pos (show nI 1 = 1 from rfl), am_inb_ok hj (by decide), nI_clamp (by omega), hc.2.2.2.2.2.2.2.1 j hj]
  · refine fin (am_b01 (am_bt (I 24 5) j)) ?_ ?_
    · rw [ec, if_neg (show ¬ nI 2 = 0 by decide), if_neg (show ¬ nI 2 = 0 + 1 by decide), if_pos (show nI 2 = 0 + 1 + 1 by decide)]
      show Option.bind (am_E 2 0 [.ref 23, .int (nI 5), .int (nI j)] [] _) _ = _
      rw [cl_bit (by decide) (by omega), am_okb, am_vIi, rg_85_32]
    · rw [rg_157_14, if_pos (show (0 : Int32) ≤ 0 by decide), if_neg (show ¬ nI 2 = 0 by decide), if_neg (show ¬ nI 2 = 1 by decide), if_pos (show nI 2 = 2 from rfl), am_inb_ok hj (by decide), nI_clamp (by omega), hc.2.2.2.2.2.1 j hj]
  · refine fin (I 27 j) ?_ ?_
    · rw [ec, if_neg (show ¬ nI 3 = 0 by decide), if_neg (show ¬ nI 3 = 0 + 1 by decide), if_neg (show ¬ nI 3 = 0 + 1 + 1 by decide), if_pos (show nI 3 = 0 + 1 + 1 + 1 by decide)]
      show Option.bind (am_E 2 0 [.ref 23, .int (nI 10), .int (nI j)] [] _) _ = _
      rw [cl_cv hj, am_okb, am_vIi, rg_85_39]
    · rw [rg_157_14, if_pos (show (0 : Int32) ≤ 0 by decide), if_neg (show ¬ nI 3 = 0 by decide), if_neg (show ¬ nI 3 = 1 by decide), if_neg (show ¬ nI 3 = 2 by decide), am_inb_ok hj (by decide), nI_clamp (by omega), hc.2.2.2.2.2.2.2.2.1 j hj]

/-! THE MODEL'S LINE: leaves, frames, outcomes. -/
def MK (I : Nat → Nat → Int32) (f t : Nat) : Prop := I 49 25 = nI f ∧ I 49 26 = nI t
def WR (I : Nat → Nat → Int32) (k p : Nat) : Prop := I 49 3 = nI k ∧ I 49 4 = nI p
def NB (k f nc : Nat) : Prop := 2 * nc ≤ f + 1 ∧ (k = 2 → 2 * nc ≤ f)
def hwd (q : Nat) : Nat := if q ≤ 55 then 80 else if q = 56 then 1 else if q = 57 then 32 else if q = 58 then 16 else if q ≤ 61 then 48 else if q ≤ 66 then 16 else 1
def MA (h q k : Nat) : Prop := (q = 49 ∧ (k = 3 ∨ k = 4 ∨ (24 ≤ k ∧ k ≤ 32))) ∨ q = 68 ∨ q = 69 ∨ (51 ≤ q ∧ q ≤ 67 ∧ hwd q * h ≤ k ∧ k < hwd q * h + hwd q)
def MP (h : Nat) (I I1 : Nat → Nat → Int32) : Prop := ∀ q k, ¬ MA h q k → I1 q k = I q k
def CPf (I I1 : Nat → Nat → Int32) : Prop := ∀ q k, ¬ ((q = 2 ∧ 2 ≤ k ∧ k ≤ 11) ∨ (5 ≤ q ∧ q ≤ 21)) → I1 q k = I q k
def CPt (T T1 : Nat → Nat → Nat) : Prop := ∀ q k, q ≠ 15 → T1 q k = T q k
theorem MP_r (h : Nat) (I : Nat → Nat → Int32) : MP h I I := fun _ _ _ => rfl
theorem MP_t {h : Nat} {I I1 I2 : Nat → Nat → Int32} (a : MP h I I1) (b : MP h I1 I2) : MP h I I2 := fun q k x => (b q k x).trans (a q k x)
theorem MP_u {h q k : Nat} {v : Int32} (I : Nat → Nat → Int32) (a : MA h q k) : MP h I (am_up I q k v) := fun q' k' x => am_up_ne (fun e => x (by rw [e.1, e.2]; exact a))
theorem MP_49 {h k : Nat} {v : Int32} (I : Nat → Nat → Int32) (a : k = 3 ∨ k = 4 ∨ (24 ≤ k ∧ k ≤ 32)) : MP h I (am_up I 49 k v) := MP_u I (Or.inl ⟨rfl, a⟩)
theorem MP_fx {h : Nat} {I I1 : Nat → Nat → Int32} (a : FX I I1) : MP h I I1 := fun q k x => a q k (fun e => x (Or.inl ⟨e.1, by omega⟩))
theorem MP_mfl (h : Nat) (I : Nat → Nat → Int32) (a b : Int32) : MP h I (mfl I a b) := by
  unfold mfl
  split
  · exact MP_t (MP_49 I (Or.inl rfl)) (MP_49 _ (Or.inr (Or.inl rfl)))
  · exact MP_r h I
theorem MP_mfo (h : Nat) (I : Nat → Nat → Int32) (a b : Nat) : MP h I (mfo I a b) := by
  unfold mfo
  split
  · exact MP_r h I
  · exact MP_mfl h I _ _
theorem MP_op {h : Nat} {I I0 I1 : Nat → Nat → Int32} (b : MP h I I0) (a : ∀ q k, ¬ (q = 49 ∧ (k = 28 ∨ k = 29)) → I1 q k = I0 q k) : MP h I I1 := fun q k x => (a q k (fun e => x (Or.inl ⟨e.1, by omega⟩))).trans (b q k x)
theorem CPf_r (I : Nat → Nat → Int32) : CPf I I := fun _ _ _ => rfl
theorem CPf_t {I I1 I2 : Nat → Nat → Int32} (a : CPf I I1) (b : CPf I1 I2) : CPf I I2 := fun q k x => (b q k x).trans (a q k x)
theorem CPf_u {q k : Nat} {v : Int32} (I : Nat → Nat → Int32) (a : (q = 2 ∧ 2 ≤ k ∧ k ≤ 11) ∨ (5 ≤ q ∧ q ≤ 21)) : CPf I (am_up I q k v) := fun q' k' x => am_up_ne (fun e => x (by rw [e.1, e.2]; exact a))
theorem CPf_fo {I I1 : Nat → Nat → Int32} (a : FO I I1) : CPf I I1 := fun q k x => a q k (by omega)
theorem CPf_fg {I I1 : Nat → Nat → Int32} (a : FG I I1) : CPf I I1 := fun q k x => a q k (by omega)
theorem CPf_ft {I I1 : Nat → Nat → Int32} (a : FT I I1) : CPf I I1 := fun q k x => a q k (by omega)
theorem CPf_flt (I : Nat → Nat → Int32) (k p : Nat) : CPf I (flt I k p) := CPf_t (CPf_u I (Or.inl ⟨rfl, by decide, by decide⟩)) (CPf_u _ (Or.inl ⟨rfl, by decide, by decide⟩))
theorem CPf_add (I : Nat → Nat → Int32) (n : Nat) (k m l : Int32) : CPf I (ADD I n k m l) := CPf_t (CPf_t (CPf_t (CPf_u I (Or.inr (by decide))) (CPf_u _ (Or.inr (by decide)))) (CPf_u _ (Or.inr (by decide)))) (CPf_u _ (Or.inr (by decide)))
theorem CPt_r (T : Nat → Nat → Nat) : CPt T T := fun _ _ _ => rfl
theorem CPt_u (T : Nat → Nat → Nat) (k v : Nat) : CPt T (am_up T 15 k v) := fun q k' x => am_up_ne (fun e => x e.1)
theorem nI_k0 {k : Nat} (h0 : 0 < k) (h : k < 7) : ¬ nI k = 0 := nI_ne0 h0 (by omega)
theorem WR_ne {I : Nat → Nat → Int32} {k p : Nat} (w : WR I k p) (h0 : 0 < k) (h : k < 7) : ¬ I 49 3 = 0 := by rw [w.1]; exact nI_k0 h0 h
theorem mfl_w {I : Nat → Nat → Int32} (h : ¬ I 49 3 = 0) (a b : Int32) : mfl I a b = I := if_neg h
theorem mfo_w {I : Nat → Nat → Int32} (h : ¬ I 49 3 = 0) (a b : Nat) : mfo I a b = I := by
  unfold mfo
  split
  · rfl
  · exact mfl_w h _ _
theorem WR_mfl {I : Nat → Nat → Int32} (h : I 49 3 = 0) (k p : Nat) : WR (mfl I (nI k) (nI p)) k p := by
  unfold mfl
  rw [if_pos h]
  exact ⟨(am_up_ne (by omega)).trans (am_up_here I 49 3 (nI k)), am_up_here _ 49 4 (nI p)⟩
theorem mfl_ne {I : Nat → Nat → Int32} {a b : Int32} {q k : Nat} (h : ¬ (q = 49 ∧ (k = 3 ∨ k = 4))) : mfl I a b q k = I q k := by
  unfold mfl
  split
  · rw [am_up_ne (by omega), am_up_ne (by omega)]
  · rfl
/-- the text of the model, its half and what a frame keeps of them -/
def MT (tx : Nat → Nat) (N h : Nat) (I : Nat → Nat → Int32) : Prop := TX I 50 49 2 tx N ∧ h < 2 ∧ I 49 23 = nI h
theorem MT_k {tx : Nat → Nat} {N h : Nat} {I I1 : Nat → Nat → Int32} (a : MT tx N h I) (b : ∀ q k, (q = 50 ∨ (q = 49 ∧ (k = 2 ∨ k = 23))) → I1 q k = I q k) : MT tx N h I1 := by
  obtain ⟨⟨x1, x2, x3⟩, y, z⟩ := a
  refine ⟨⟨?_, x2, fun i hi => ?_⟩, y, ?_⟩
  · rw [b 49 2 (by omega)]; exact x1
  · rw [b 50 i (by omega)]; exact x3 i hi
  · rw [b 49 23 (by omega)]; exact z
theorem MP_k {h : Nat} {I I1 : Nat → Nat → Int32} (p : MP h I I1) {q k : Nat} (e : q < 49 ∨ q = 50 ∨ 70 ≤ q ∨ (q = 49 ∧ (k = 2 ∨ k = 22 ∨ k = 23 ∨ 33 ≤ k))) : I1 q k = I q k := p q k (by unfold MA; omega)
theorem MT_p {tx : Nat → Nat} {N h : Nat} {I I1 : Nat → Nat → Int32} (a : MT tx N h I) (p : MP h I I1) : MT tx N h I1 := MT_k a (fun q k e => MP_k p (by omega))
theorem mo_le (I : Nat → Nat → Int32) (J : Nat → Nat → Int64) (T : Nat → Nat → Nat) (L : Nat) (C : Nat × Nat) {tx : Nat → Nat} {N k f t g : Nat} (h : TX I 50 49 2 tx N) (hf : I 49 25 = nI f) (hk : TK tx N k f t g) : am_E 101 0 [.ref 49] [] (am_W I J T L C) = some (.int (am_b01 (decide (k = 1))), (am_W I J T L C)) := by
  have hN := h.2.1
  rw [rg_101_0, h.1, hf]
  have hle := TK_le hk
  rcases TK_p hk with ⟨rfl, e1, e2, e3, e4⟩ | ⟨rfl, e1, e2, e3⟩ | ⟨rfl, e1, e2⟩
  · have x := TX_lt h f (by omega)
    rw [if_neg (nI_ge (by omega) (by omega)), am_inb_ok (by omega) (by decide), nI_clamp (by omega), (h.2.2 f (by omega)).1, if_neg (show ¬ nI (tx f) = 59 from nb_ne (c := tx f) (n := 59) x (by decide) (e3 f (Nat.le_refl f) (by omega)).2)]; rfl
  · rw [if_neg (nI_ge (by omega) (by omega)), am_inb_ok (by omega) (by decide), nI_clamp (by omega), (h.2.2 f (by omega)).1, if_pos (show nI (tx f) = 59 by rw [e3]; rfl)]; rfl
  · rw [if_pos (nI_le (by omega) (by omega))]; rfl
theorem mo_end (I : Nat → Nat → Int32) (J : Nat → Nat → Int64) (T : Nat → Nat → Nat) (L : Nat) (C : Nat × Nat) {tx : Nat → Nat} {N k f t g : Nat} (h : TX I 50 49 2 tx N) (hf : I 49 25 = nI f) (hk : TK tx N k f t g) : am_E 100 0 [.ref 49] [] (am_W I J T L C) = some (.int (am_b01 (decide (k = 0))), (am_W I J T L C)) := by
  have hN := h.2.1
  rw [rg_100_0, h.1, hf]
  rcases TK_p hk with ⟨rfl, e1, e2, e3, e4⟩ | ⟨rfl, e1, e2, e3⟩ | ⟨rfl, e1, e2⟩
  · rw [if_neg (fun e => by have := (nI_eq (by omega) (by omega)).mp e; omega)]; rfl
  · rw [if_neg (fun e => by have := (nI_eq (by omega) (by omega)).mp e; omega)]; rfl
  · rw [if_pos (by rw [e1])]; rfl
theorem mo_next (I : Nat → Nat → Int32) (J : Nat → Nat → Int64) (T : Nat → Nat → Nat) (L : Nat) (C : Nat × Nat) {tx : Nat → Nat} {N k f t g : Nat} (h : TX I 50 49 2 tx N) (hf : MK I f t) (hk : TK tx N k f t g) : ∃ I1, am_E 99 0 [.ref 49] [] (am_W I J T L C) = some (.null, am_W I1 J T L C) ∧ MK I1 (tkf tx N t) (tkt tx N (tkf tx N t)) ∧ FX I I1 := by
  obtain ⟨I1, e1, e2, e3, e4⟩ := nx_ok I J T L C h (TK_le hk).2 hf.2
  exact ⟨I1, e1, ⟨e2, e3⟩, e4⟩
/-- the next token -/
theorem TK_n {tx : Nat → Nat} {N k f t g : Nat} (hk : TK tx N k f t g) : TK tx N (tkk tx N (tkf tx N t)) (tkf tx N t) (tkt tx N (tkf tx N t)) (tkg tx (tkf tx N t) (tkt tx N (tkf tx N t))) := TK_nx (TK_le hk).2
theorem NB_n {tx : Nat → Nat} {N k f t g nc : Nat} (hk : TK tx N k f t g) (hn : NB k f nc) (h0 : k ≠ 0) : NB (tkk tx N (tkf tx N t)) (tkf tx N t) nc ∧ f < tkf tx N t := by
  have hle := TK_le hk
  have hp := tkf_p (tx := tx) hle.2
  rcases TK_p hk with ⟨rfl, e1, e2, e3, e4⟩ | ⟨rfl, e1, e2, e3⟩ | ⟨rfl, e1, e2⟩
  · exact ⟨⟨by have := hn.1; omega, fun _ => by have := hn.1; omega⟩, by omega⟩
  · exact ⟨⟨by have := hn.1; omega, fun _ => by have := hn.1; omega⟩, by omega⟩
  · exact absurd rfl h0
/-- the next token, behind a name noted at a word -/
theorem NB_s {tx : Nat → Nat} {N f t g nc : Nat} (hk : TK tx N 2 f t g) (hn : NB 2 f nc) : NB (tkk tx N (tkf tx N t)) (tkf tx N t) (nc + 1) ∧ f < tkf tx N t := by
  have hle := TK_le hk
  have hp := tkf_p (tx := tx) hle.2
  have h2 := hn.2 rfl
  rcases TK_p hk with ⟨_, e1, e2, e3, e4⟩ | ⟨e, _⟩ | ⟨e, _⟩
  · refine ⟨⟨by omega, fun ek => ?_⟩, by omega⟩
    have hN : tkf tx N t < N := by
      rcases Nat.lt_or_ge (tkf tx N t) N with c | c
      · exact c
      · exact absurd ek (by unfold tkk; rw [if_neg (by omega)]; decide)
    have h59 : tx (tkf tx N t) ≠ 59 := by
      intro e
      exact absurd ek (by unfold tkk; rw [if_pos hN, if_pos e]; decide)
    have hne : tkf tx N t ≠ t := by
      intro e
      have h32 := hp.2.2 hN
      rw [e] at h32 h59
      rcases e4 (by omega) with c | c
      · omega
      · exact h59 c
    omega
  · exact absurd e (by decide)
  · exact absurd e (by decide)
def MADD (I : Nat → Nat → Int32) (h n : Nat) (a b c d e : Int32) : Nat → Nat → Int32 := am_up (am_up (am_up (am_up (am_up (am_up I 51 (80 * h + n) a) 52 (80 * h + n) b) 53 (80 * h + n) c) 54 (80 * h + n) d) 55 (80 * h + n) e) 56 h (nI (n + 1))
theorem MP_add {h n : Nat} (hn : n < 80) (I : Nat → Nat → Int32) (a b c d e : Int32) : MP h I (MADD I h n a b c d e) := by
  have x : ∀ q, 51 ≤ q → q ≤ 55 → MA h q (80 * h + n) := fun q h1 h2 => Or.inr (Or.inr (Or.inr ⟨h1, by omega, by unfold hwd; rw [if_pos h2]; omega⟩))
  have y : MA h 56 h := Or.inr (Or.inr (Or.inr ⟨by decide, by decide, by show 1 * h ≤ h ∧ h < 1 * h + 1; omega⟩))
  exact MP_t (MP_t (MP_t (MP_t (MP_t (MP_u I (x 51 (by decide) (by decide))) (MP_u _ (x 52 (by decide) (by decide)))) (MP_u _ (x 53 (by decide) (by decide)))) (MP_u _ (x 54 (by decide) (by decide)))) (MP_u _ (x 55 (by decide) (by decide)))) (MP_u _ y)
theorem mo_add (I : Nat → Nat → Int32) (J : Nat → Nat → Int64) (T : Nat → Nat → Nat) (L : Nat) (C : Nat × Nat) {h n : Nat} (a b c d e : Int32) (hh : h < 2) (hn : n < 80) (h23 : I 49 23 = nI h) (h56 : I 56 h = nI n) : am_E 113 0 [.ref 49, .int a, .int b, .int c, .int d, .int e, .null] [] (am_W I J T L C) = some (.null, am_W (MADD I h n a b c d e) J T L C) := by
  have c2 : Int32.toNatClampNeg (nI h) = h := nI_clamp (by omega)
  have cl : Int32.toNatClampNeg (nI (80 * h + n)) = 80 * h + n := nI_clamp (by omega)
  rw [rg_113_0, h23, c2, h56, mo_own n hh, am_inb_ok hh (by decide), am_inb_ok (by omega) (by decide), am_inb_ok (by omega) (by decide), am_inb_ok (by omega) (by decide), am_inb_ok (by omega) (by decide), am_inb_ok (by omega) (by decide), am_inb_ok hh (by decide), am_inb_ok hh (by decide), cl, nI_1]
  rfl
theorem mo_may (I : Nat → Nat → Int32) (J : Nat → Nat → Int64) (T : Nat → Nat → Nat) (L : Nat) (C : Nat × Nat) {h n f : Nat} (hh : h < 2) (hn : n ≤ 80) (h23 : I 49 23 = nI h) (h56 : I 56 h = nI n) (h25 : I 49 25 = nI f) (h3 : I 49 3 = 0) : (n = 80 ∧ am_E 115 0 [.ref 49] [] (am_W I J T L C) = some (.int 0, am_W (mfl I (nI 3) (nI f)) J T L C)) ∨ (n < 80 ∧ am_E 115 0 [.ref 49] [] (am_W I J T L C) = some (.int 1, (am_W I J T L C))) := by
  have c2 : Int32.toNatClampNeg (nI h) = h := nI_clamp (by omega)
  rw [rg_115_0, h23, am_inb_ok hh (by decide), c2, h56, h25]
  by_cases e : n = 80
  · refine Or.inl ⟨e, ?_⟩
    rw [if_pos (show nI n = 80 by rw [e]; rfl)]
    show Option.bind (am_E 98 0 [.ref 49, .int (nI 3), .int (nI f)] [] _) _ = _
    rw [mo_fail, am_okb, rg_115_12, (WR_mfl h3 3 f).1, if_neg (show ¬ nI 3 = 0 by decide)]
  · refine Or.inr ⟨by omega, ?_⟩
    rw [if_neg (show ¬ nI n = 80 from nb_ne (c := n) (n := 80) (by omega) (by decide) e), rg_115_12, if_pos h3]
theorem mo_names (I : Nat → Nat → Int32) (J : Nat → Nat → Int64) (T : Nat → Nat → Nat) (L : Nat) (C : Nat × Nat) {x : Int32} {nc f : Nat} (hn : nc < 400) (h32 : I 49 32 = nI nc) (h25 : I 49 25 = nI f) : am_E 119 0 [.ref 49, .int x] [] (am_W I J T L C) = some (.null, am_W (am_up (am_up (am_up I 68 nc x) 69 nc (nI f)) 49 32 (nI (nc + 1))) J T L C) := by
  have cl : Int32.toNatClampNeg (nI nc) = nc := nI_clamp (by omega)
  rw [rg_119_0, h32, h25, am_inb_ok hn (by decide), am_inb_ok hn (by decide), cl, nI_1]
theorem crv_n {tx : Nat → Nat} {k f t g kd : Nat} (h : kow tx k f t g = some kd) (h11 : kd < 11) : crv tx k f t g = nI (cnv tx g t) := by
  have hck : crk tx k f t g = kd := by unfold crk; rw [h]; rfl
  unfold crv cry
  rw [hck, if_neg (fun e => by omega), lN_i]
theorem bt_all : ∀ k, k < 12 → am_bt 3711 k = decide (k ≠ 7 ∧ k ≠ 8) := by decide +kernel
/-- what a cell read is good for -/
theorem cell_ok {tx : Nat → Nat} {k f t g : Nat} {only : Int32} (h0 : crf tx k f t g only = 0) (hb : am_bt only (crk tx k f t g) = true) (hs : ∀ j, j < 12 → am_bt only j = true → am_bt 3711 j = true) (hk : kow tx k f t g = some (crk tx k f t g)) : op_ok (crk tx k f t g) (crv tx k f t g) := by
  have h12 := (kow_p hk).1
  have ha := hs _ h12 hb
  rw [bt_all _ h12] at ha
  have ha := of_decide_eq_true ha
  by_cases e : crk tx k f t g = 11
  · exact Or.inl e
  · have h11 : crk tx k f t g < 11 := by omega
    have hr : cnv tx g t < rng (crk tx k f t g) := by
      unfold crf at h0
      rw [hk] at h0
      simp only [hb, if_true] at h0
      unfold cfk at h0
      rw [if_neg e] at h0
      rcases Nat.lt_or_ge (cnv tx g t) (rng (crk tx k f t g)) with c | c
      · exact c
      · rw [if_pos (Or.inr c)] at h0; exact absurd h0 (by decide)
    refine Or.inr ⟨cnv tx g t, crv_n hk h11, ?_⟩
    generalize crk tx k f t g = m at *
    rcases (show m = 0 ∨ m = 1 ∨ m = 2 ∨ m = 3 ∨ m = 4 ∨ m = 5 ∨ m = 6 ∨ m = 9 ∨ m = 10 by omega) with rfl | rfl | rfl | rfl | rfl | rfl | rfl | rfl | rfl
    · exact Or.inl ⟨rfl, hr⟩
    · exact Or.inr (Or.inl ⟨rfl, hr⟩)
    · exact Or.inr (Or.inr (Or.inl ⟨rfl, hr⟩))
    · exact Or.inr (Or.inr (Or.inr (Or.inl ⟨rfl, hr⟩)))
    · exact Or.inr (Or.inr (Or.inr (Or.inr (Or.inl ⟨rfl, hr⟩))))
    · exact Or.inr (Or.inr (Or.inr (Or.inr (Or.inr (Or.inl ⟨rfl, hr⟩)))))
    · exact Or.inr (Or.inr (Or.inr (Or.inr (Or.inr (Or.inr (Or.inl ⟨rfl, hr⟩))))))
    · exact Or.inr (Or.inr (Or.inr (Or.inr (Or.inr (Or.inr (Or.inr (Or.inl ⟨rfl, hr⟩)))))))
    · exact Or.inr (Or.inr (Or.inr (Or.inr (Or.inr (Or.inr (Or.inr (Or.inr ⟨rfl, hr⟩)))))))

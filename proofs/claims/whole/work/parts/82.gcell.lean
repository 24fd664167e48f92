/-! AN INSTRUCTION WITH A CELL, in both readers. -/
/-- the values of an instruction that neither jumps nor returns -/
def PV (q : Nat) (k m l a b c dd e : Int32) (d0 d1 : Nat) : Prop :=
  (∃ b' ck, b' < 2 ∧ q = 1001 + b' ∧ a = 14 ∧ b = nI b' ∧ k = nI ck ∧ op_ok ck m ∧ c = nI (cmk ck) ∧ dd = m ∧ d1 = d0)
  ∨ (∃ a' ck, a' < 17 ∧ q = 1007 + a' ∧ a = nI (ow a') ∧ b = nI (oh a') ∧ k = nI ck ∧ op_ok ck m ∧ c = nI (cmk ck) ∧ dd = m ∧ d1 = d0)
  ∨ (∃ a', a' < 17 ∧ q = 1007 + a' ∧ a = nI (ow a') ∧ b = nI (oh a' + 2) ∧ k = 12 ∧ d0 < 8 ∧ d1 = d0 + 1)
  ∨ (∃ b' ck j, b' < 2 ∧ q = 1003 + b' ∧ a = 15 ∧ b = nI b' ∧ k = nI ck ∧ (ck = 1 ∨ ck = 2 ∨ ck = 6) ∧ m = nI j ∧ j < 32 ∧ c = nI (cmk ck) ∧ dd = nI j ∧ d1 = d0)
  ∨ (∃ b' ck j, b' < 2 ∧ q = 1005 + b' ∧ a = nI (16 + b') ∧ k = nI ck ∧ (ck = 1 ∨ ck = 2) ∧ m = nI j ∧ j < 32 ∧ c = nI (cmk ck) ∧ dd = nI j ∧ d1 = d0)
  ∨ (∃ d, q = 1024 ∧ a = 18 ∧ d0 = d + 1 ∧ d1 = d)
  ∨ (q = 1025 ∧ a = 19 ∧ d1 = d0)
  ∨ (∃ b' j, b' < 3 ∧ q = 1032 + b' ∧ a = nI (22 + b') ∧ m = nI j ∧ j < 8 ∧ dd = nI j ∧ e = l ∧ d1 = d0)
  ∨ (∃ b' j, b' < 2 ∧ q = 1035 + b' ∧ a = nI (25 + b') ∧ m = nI j ∧ j < 8 ∧ dd = nI j ∧ e = l ∧ d1 = d0)
  ∨ (∃ j, q = 1037 ∧ a = 27 ∧ m = nI j ∧ j < 8 ∧ dd = nI j ∧ d1 = d0)
  ∨ (∃ b' j, b' < 2 ∧ q = 1038 + b' ∧ a = nI (28 + b') ∧ m = nI j ∧ j < 16 ∧ dd = nI j ∧ d1 = d0)
theorem ADD_v (I : Nat → Nat → Int32) (n : Nat) (k m l : Int32) : ADD I n k m l 16 n = k ∧ ADD I n k m l 17 n = m ∧ ADD I n k m l 18 n = l := by
  unfold ADD
  refine ⟨?_, ?_, ?_⟩
  · rw [am_up_ne (by omega), am_up_ne (by omega), am_up_ne (by omega), am_up_here]
  · rw [am_up_ne (by omega), am_up_ne (by omega), am_up_here]
  · rw [am_up_ne (by omega), am_up_here]
theorem MADD_v (I : Nat → Nat → Int32) (h n : Nat) (a b c d e : Int32) : MADD I h n a b c d e 51 (80 * h + n) = a ∧ MADD I h n a b c d e 52 (80 * h + n) = b ∧ MADD I h n a b c d e 53 (80 * h + n) = c ∧ MADD I h n a b c d e 54 (80 * h + n) = d ∧ MADD I h n a b c d e 55 (80 * h + n) = e := by
  unfold MADD
  refine ⟨?_, ?_, ?_, ?_, ?_⟩
  · rw [am_up_ne (by omega), am_up_ne (by omega), am_up_ne (by omega), am_up_ne (by omega), am_up_ne (by omega), am_up_here]
  · rw [am_up_ne (by omega), am_up_ne (by omega), am_up_ne (by omega), am_up_ne (by omega), am_up_here]
  · rw [am_up_ne (by omega), am_up_ne (by omega), am_up_ne (by omega), am_up_here]
  · rw [am_up_ne (by omega), am_up_ne (by omega), am_up_here]
  · rw [am_up_ne (by omega), am_up_here]
theorem ADD_ne {I : Nat → Nat → Int32} {n : Nat} {k m l : Int32} {q x : Nat} (hq : q < 5 ∨ 18 < q ∨ (5 < q ∧ q < 16)) : ADD I n k m l q x = I q x := by
  unfold ADD
  rw [am_up_ne (by omega), am_up_ne (by omega), am_up_ne (by omega), am_up_ne (by omega)]
theorem MADD_ne {I : Nat → Nat → Int32} {h n : Nat} {a b c d e : Int32} {q x : Nat} (hq : q < 51 ∨ 56 < q) : MADD I h n a b c d e q x = I q x := by
  unfold MADD
  rw [am_up_ne (by omega), am_up_ne (by omega), am_up_ne (by omega), am_up_ne (by omega), am_up_ne (by omega), am_up_ne (by omega)]
theorem PA_of {D : Nat → Nat} {h n q d1 : Nat} {I I' : Nat → Nat → Int32} {T : Nat → Nat → Nat} {k m l a b c dd e : Int32} (p : PV q k m l a b c dd e (D n) d1) : PA (fun x => if x = n + 1 then d1 else D x) h (rI (ADD I n k m l)) (rT (am_up T 15 n q)) (MADD I' h n a b c dd e) n := by
  have e45 : rI (ADD I n k m l) 45 n = k := (ADD_v I n k m l).1
  have e46 : rI (ADD I n k m l) 46 n = m := (ADD_v I n k m l).2.1
  have e47 : rI (ADD I n k m l) 47 n = l := (ADD_v I n k m l).2.2
  have e44 : rT (am_up T 15 n q) 44 n = q := am_up_here T 15 n q
  obtain ⟨m51, m52, m53, m54, m55⟩ := MADD_v I' h n a b c dd e
  have d0 : (if n = n + 1 then d1 else D n) = D n := if_neg (by omega)
  have dn : (if n + 1 = n + 1 then d1 else D (n + 1)) = d1 := if_pos rfl
  unfold PA
  simp only [e44, e45, e46, e47, m51, m52, m53, m54, m55, d0, dn]
  exact p
theorem PJ_of {D : Nat → Nat} {h n d1 : Nat} {I I' : Nat → Nat → Int32} {T : Nat → Nat → Nat} {k m l a b c dd e : Int32} {x y : Nat} (hx : x < 3) (ha : a = 20) (hb : b = nI (jh x)) (hm : m = nI y) (hy : y < 32) (hd : dd = nI y) (h0 : D n = 0) (h1 : d1 = 0) (h20 : I 20 y ≠ -1) : PJ0 (fun x => if x = n + 1 then d1 else D x) h (ADD I n k m l) (am_up T 15 n (1026 + x)) (MADD I' h n a b c dd e) n := by
  obtain ⟨m51, m52, m53, m54, m55⟩ := MADD_v I' h n a b c dd e
  refine ⟨x, y, hx, am_up_here T 15 n _, m51.trans ha, m52.trans hb, (ADD_v I n k m l).2.1.trans hm, hy, m54.trans hd, ?_, ?_, ?_⟩
  · show (if n = n + 1 then d1 else D n) = 0
    rw [if_neg (by omega)]; exact h0
  · show (if n + 1 = n + 1 then d1 else D (n + 1)) = 0
    rw [if_pos rfl]; exact h1
  · rw [ADD_ne (by omega)]; exact h20
theorem PE_of {D : Nat → Nat} {h n d1 : Nat} {I' : Nat → Nat → Int32} {T : Nat → Nat → Nat} {a b c dd e : Int32} {x : Nat} (hx : x < 3) (ha : a = 21) (hb : b = nI (jh x)) (h0 : D n = 0) (h1 : d1 = 0) : PE (fun x => if x = n + 1 then d1 else D x) h (rT (am_up T 15 n (1029 + x))) (MADD I' h n a b c dd e) n := by
  obtain ⟨m51, m52, m53, m54, m55⟩ := MADD_v I' h n a b c dd e
  refine ⟨x, hx, am_up_here T 15 n _, m51.trans ha, m52.trans hb, ?_, ?_⟩
  · show (if n = n + 1 then d1 else D n) = 0
    rw [if_neg (by omega)]; exact h0
  · show (if n + 1 = n + 1 then d1 else D (n + 1)) = 0
    rw [if_pos rfl]; exact h1
/-- the last step of a line that adds an instruction: what both have, one token on -/
theorem fin_add {D : Nat → Nat} {tx : Nat → Nat} {N h n ng : Nat} {T : Nat → Nat → Nat} {f' d1 q nc1 fn : Nat} {I3 Ib I2 : Nat → Nat → Int32} {k m l a b c dd e : Int32} (hn : n < 80) (hd1 : d1 ≤ 8) (v : LV D tx N h n ng d1 nc1 fn I3 T Ib) (hnew : PA (fun x => if x = n + 1 then d1 else D x) h (rI (ADD I3 n k m l)) (rT (am_up T 15 n q)) (MADD Ib h n a b c dd e) n ∨ PJ0 (fun x => if x = n + 1 then d1 else D x) h (ADD I3 n k m l) (am_up T 15 n q) (MADD Ib h n a b c dd e) n ∨ PE (fun x => if x = n + 1 then d1 else D x) h (rT (am_up T 15 n q)) (MADD Ib h n a b c dd e) n) (hff : fn ≤ f') (fx : FX (MADD Ib h n a b c dd e) I2) : LV (fun x => if x = n + 1 then d1 else D x) tx N h (n + 1) ng d1 nc1 f' (ADD I3 n k m l) (am_up T 15 n q) I2 := by
  have v1 : LV (fun x => if x = n + 1 then d1 else D x) tx N h (n + 1) ng d1 nc1 fn (ADD I3 n k m l) (am_up T 15 n q) (MADD Ib h n a b c dd e) := LV_add hn v hnew
  exact LV_f hff (LV_keep (fun _ _ _ => rfl) (fun _ => rfl) (fun q k hq => fx q k (fun x => hq.2.2 ⟨x.1, by omega⟩)) v1)
theorem om_i : ∀ i, i < 23 → (onl (frm i) = 3711 ∧ cmay i = 1023 ∧ (i < 2 ∨ 6 ≤ i)) ∨ (onl (frm i) = 70 ∧ cmay i = 28 ∧ 2 ≤ i ∧ i < 4) ∨ (onl (frm i) = 6 ∧ cmay i = 12 ∧ 4 ≤ i ∧ i < 6) := by decide +kernel
theorem om_ok {i : Nat} (hi : i < 23) : OM (onl (frm i)) (cmay i) := by
  rcases om_i i hi with ⟨a, b, _⟩ | ⟨a, b, _⟩ | ⟨a, b, _⟩
  · rw [a, b]; exact OM_all
  · rw [a, b]; exact OM_st
  · rw [a, b]; exact OM_bit
theorem fr_cell : ∀ i, i < 23 → frm i < 4 ∧ onl (frm i) ≠ 0 := by decide +kernel
theorem bt_70 : ∀ j, j < 12 → am_bt 70 j = true → (j = 1 ∨ j = 2 ∨ j = 6) := by decide +kernel
theorem bt_6 : ∀ j, j < 12 → am_bt 6 j = true → (j = 1 ∨ j = 2) := by decide +kernel
theorem bt_sub1 : ∀ j, j < 12 → am_bt 70 j = true → am_bt 3711 j = true := by decide +kernel
theorem bt_sub2 : ∀ j, j < 12 → am_bt 6 j = true → am_bt 3711 j = true := by decide +kernel
theorem ok_32 {k : Nat} {x : Int32} (h : op_ok k x) (hk : k = 1 ∨ k = 2 ∨ k = 6) : ∃ j, x = nI j ∧ j < 32 := by
  rcases h with h | ⟨j, e, h⟩
  · omega
  · exact ⟨j, e, by omega⟩
theorem pv_cell {tx : Nat → Nat} {k f t g i : Nat} (hi : i < 23) (h0 : crf tx k f t g (onl (frm i)) = 0) (hb : am_bt (onl (frm i)) (crk tx k f t g) = true) (hk : kow tx k f t g = some (crk tx k f t g)) (d0 : Nat) : PV (1001 + i) (nI (crk tx k f t g)) (crv tx k f t g) 0 (cits i) (ctrn i) (nI (cmk (crk tx k f t g))) (crv tx k f t g) 0 d0 d0 := by
  have h12 := (kow_p hk).1
  rcases om_i i hi with ⟨a, b, c⟩ | ⟨a, b, c⟩ | ⟨a, b, c⟩
  · have ok := cell_ok h0 hb (by rw [a]; exact fun _ _ x => x) hk
    rcases c with c | c
    · refine Or.inl ⟨i, crk tx k f t g, c, rfl, ?_, ?_, rfl, ok, rfl, rfl, rfl⟩
      · unfold cits; rw [if_pos c]
      · unfold ctrn; rw [if_pos (by omega)]
        congr 1
        rcases (show i = 0 ∨ i = 1 by omega) with e | e <;> rw [e] <;> rfl
    · refine Or.inr (Or.inl ⟨i - 6, crk tx k f t g, by omega, by omega, ?_, ?_, rfl, ok, rfl, rfl, rfl⟩)
      · unfold cits; rw [if_neg (by omega), if_neg (by omega), if_neg (by omega), if_neg (by omega)]
      · unfold ctrn; rw [if_neg (by omega)]
  · have ok := cell_ok h0 hb (by rw [a]; exact bt_sub1) hk
    rw [a] at hb
    have e3 := bt_70 _ h12 hb
    obtain ⟨j, ej, hj⟩ := ok_32 ok e3
    refine Or.inr (Or.inr (Or.inr (Or.inl ⟨i - 2, crk tx k f t g, j, by omega, by omega, ?_, ?_, rfl, e3, ej, hj, rfl, ej, rfl⟩)))
    · unfold cits; rw [if_neg (by omega), if_pos (by omega)]
    · unfold ctrn; rw [if_pos (by omega)]
      congr 1
      rcases (show i = 2 ∨ i = 3 by omega) with e | e <;> rw [e] <;> rfl
  · have ok := cell_ok h0 hb (by rw [a]; exact bt_sub2) hk
    rw [a] at hb
    have e3 := bt_6 _ h12 hb
    obtain ⟨j, ej, hj⟩ := ok_32 ok (by omega)
    refine Or.inr (Or.inr (Or.inr (Or.inr (Or.inl ⟨i - 4, crk tx k f t g, j, by omega, by omega, ?_, rfl, e3, ej, hj, rfl, ej, rfl⟩))))
    unfold cits
    rcases (show i = 4 ∨ i = 5 by omega) with e | e <;> rw [e] <;> rfl
theorem rof_ok {b : Bool} {i n ng d : Nat} (hi : i < 41) (hb : b = true → frm i = 1) (hn : n < 80) (h13 : frm i ≠ 13) (ha : alw b (frm i) d = true) : rof b i n ng d = 0 := by
  have hf : ful (frm i) n ng = false := by
    unfold ful
    rw [if_neg h13]
    by_cases e : frm i = 12
    · rw [if_pos e]
    · rw [if_neg e]; exact decide_eq_false (by omega)
  unfold rof
  rw [if_pos ⟨hi, hb⟩, hf, if_neg (show ¬ false = true by decide), if_pos ha]
/-- the model reads such a line -/
theorem m_cell (I : Nat → Nat → Int32) (J : Nat → Nat → Int64) (T : Nat → Nat → Nat) (L : Nat) (C : Nat × Nat) {tx : Nat → Nat} {N h n f t g i : Nat} (x1 : Int32) (v2 v3 : Value) {Ia Ib : Nat → Nat → Int32} (hi : i < 23) (hm : MT tx N h I) (hf : MK I f t) (hk : TK tx N 2 f t g) (h3 : I 49 3 = 0) (hn : n < 80) (h56 : I 56 h = nI n) (hw : sl tx f t = wd i) (a1 : am_E 99 0 [.ref 49] [] (am_W I J T L C) = some (.null, am_W Ia J T L C)) (a2 : am_E 111 0 [.ref 49, .int (cmay i), .null, .null, .null, .null, .null] [] (am_W Ia J T L C) = some (.null, am_W Ib J T L C)) (b23 : Ib 49 23 = nI h) (b56 : Ib 56 h = nI n) : am_E 127 75 [.ref 49, .int x1, v2, v3] [.long (lN (cod tx f t))] (am_W I J T L C) = am_E 127 110 [.ref 49, .int x1, .long (lN (cvl (sl tx f t))), .null] [] (am_W (MADD Ib h n (cits i) (ctrn i) (Ib 49 28) (Ib 49 29) 0) J T L C) := by
  have hN := hm.1.2.1
  obtain ⟨hft, htN, hl⟩ := TK_wl (TX_lt hm.1) hN hk
  have hb := (bix_w (by omega : i < 41) hft hw)
  have ne : ∀ j, j < 41 → j ≠ i → sl tx f t ≠ wd j := fun j hj hne => by rw [hw]; exact wd_inj i (by omega) j hj (Ne.symm hne)
  rw [cod_cvl]
  by_cases c1 : i < 6
  · refine ds_1 I J T L C x1 v2 v3 hl (ne 39 (by decide) (by omega)) (ne 40 (by decide) (by omega)) ?_
    rw [hw]
    rcases mv_hit I J T L C c1 hm hf hk h3 (by omega : n ≤ 80) h56 with ⟨r, _⟩ | ⟨_, r⟩
    · omega
    · exact r Ia Ib a1 a2 b23 b56
  · refine ds_2 I J T L C x1 v2 v3 hl (ne 39 (by decide) (by omega)) (ne 40 (by decide) (by omega)) (fun j hj => ne j (by omega) (by omega)) ?_
    obtain ⟨x3, x7, y5, r⟩ := is_signh I J T L C (a := i - 6) hm.1 hf hk (by omega) (by rw [hb.2.2, hw]; congr 1; omega)
    have may : am_E 115 0 [.ref 49] [] (am_W I J T L C) = some (.int 1, (am_W I J T L C)) := by
      rcases mo_may I J T L C hm.2.1 (by omega : n ≤ 80) hm.2.2 h56 hf.1 h3 with ⟨e, _⟩ | ⟨_, e⟩
      · omega
      · exact e
    have em : cmay i = 1023 := by unfold cmay; rw [if_neg (by omega), if_neg (by omega), if_neg c1]
    have ei : cits i = nI (ow (i - 6)) := by unfold cits; rw [if_neg (by omega), if_neg (by omega), if_neg (by omega), if_neg (by omega)]
    have et : ctrn i = nI (oh (i - 6)) := by unfold ctrn; rw [if_neg c1]
    rw [em] at a2
    rw [r, may, am_okb, am_vIi, rg_114_104, if_neg (show ¬ (1 : Int32) = 0 by decide), hb.2.1, if_pos (show am_b01 false = 0 from rfl), a1, am_okb, rg_114_136, a2, am_okb, rg_114_139, mo_add Ib J T L C _ _ _ _ 0 hm.2.1 hn b23 b56, am_okb, rg_114_148, ei, et]
theorem gp_cell {L : Nat} {C : Nat × Nat} {Lm : Nat} {Cm : Nat × Nat} {Tm : Nat → Nat → Nat} {J : Nat → Nat → Int64} {J' : Nat → Nat → Int64} {D : Nat → Nat} {tx : Nat → Nat} {N h n ng d nc f t g : Nat} {I : Nat → Nat → Int32} {T : Nat → Nat → Nat} {I' : Nat → Nat → Int32} (x1 xm : Int32) (v2 v3 u2 u3 : Value) (p : PRE D tx N h n ng d nc f t g I T I') {i : Nat} (hn : n < 80) (hi : i < 23) (hw : sl tx f t = wd i) : OF N h L C Lm Cm Tm J J' I T I' (am_E 44 42 [.ref 2, .int x1, v2, v3] [.int 1] (am_W I J T L C)) (am_E 127 75 [.ref 49, .int xm, u2, u3] [.long (lN (cod tx f t))] (am_W I' J' Tm Lm Cm)) ∨ OG tx N h f I T I' (am_E 44 42 [.ref 2, .int x1, v2, v3] [.int 1] (am_W I J T L C)) (am_E 127 75 [.ref 49, .int xm, u2, u3] [.long (lN (cod tx f t))] (am_W I' J' Tm Lm Cm)) (fcl L C J x1 (1001 + i)) (fmo Lm Cm Tm J' xm (lN (cvl (sl tx f t)))) := by
  have pr := pr_op J L C p
  obtain ⟨v, c, k, mk, nb, hD⟩ := p
  obtain ⟨hm, h3, h4⟩ := LV_mt v
  have hN := hm.1.2.1
  obtain ⟨hft, htN, hl⟩ := TK_wl (TX_lt hm.1) hN k
  have w := v.2.2.2.1
  have h56 : I' 56 h = nI n := w.2.2.2.2.1
  have h9 : I 2 9 = nI d := w.2.2.2.2.2.2.2.2.2.1
  have hd8 : d ≤ 8 := w.2.2.2.2.2.2.2.2.1
  have h5n : I 5 6 = nI n := w.2.2.2.1
  obtain ⟨b1, b2, b3⟩ := bix_w (by omega : i < 41) hft hw
  obtain ⟨q1, q2⟩ := fr_cell i hi
  have hr : rof (brk tx t) (bix tx f t) n ng d = 0 := by
    rw [b1, b2]
    have z : ∀ m, m < 4 → alw false m d = true := fun m hm => by
      rcases (show m = 0 ∨ m = 1 ∨ m = 2 ∨ m = 3 by omega) with e | e | e | e <;> rw [e] <;> rfl
    exact rof_ok (by omega) (fun e => absurd e (by decide)) hn (by omega) (z _ q1)
  have hdn : dnx (brk tx t) (bix tx f t) d = d := by
    rw [b1, b2]
    unfold dnx
    rw [if_neg (by decide), if_neg (by omega)]
  rw [hr, hdn, b1, b2] at pr
  rcases pr with ⟨r, _⟩ | ⟨_, I1, r1, r2, r3, r4, r5⟩
  · exact absurd rfl r
  have hk2 := TK_n k
  have nb2 := NB_n k nb (by decide)
  obtain ⟨Ia, Ib, a1, a2, a3, a4, a5, a6⟩ := mcell I' J' Tm Lm Cm (cmay i) hm mk k h3
  have b23 : Ib 49 23 = nI h := (a4 49 23 (by omega)).trans hm.2.2
  have b56 : Ib 56 h = nI n := (a4 56 h (by omega)).trans h56
  have mo := m_cell I' J' Tm Lm Cm xm u2 u3 hi hm mk k h3 hn h56 hw a1 a2 b23 b56
  have lf := lift_op I J T L C x1 v2 v3 c.1 (by omega : i < 41) (by omega) (by omega) r1
  obtain ⟨p1, p2⟩ := pl_all hk2 hN (TX_lt hm.1) (om_ok hi)
  have mp : MP h I' (MADD Ib h n (cits i) (ctrn i) (Ib 49 28) (Ib 49 29) 0) := MP_t a3 (MP_add hn Ib _ _ _ _ _)
  have hmt := MT_p hm mp
  have k26 : MADD Ib h n (cits i) (ctrn i) (Ib 49 28) (Ib 49 29) 0 49 26 = nI (tkt tx N (tkf tx N t)) := (MADD_ne (by omega)).trans a5.2
  have k25 : MADD Ib h n (cits i) (ctrn i) (Ib 49 28) (Ib 49 29) 0 49 25 = nI (tkf tx N t) := (MADD_ne (by omega)).trans a5.1
  have h1 : TX I1 4 3 1 tx N := ⟨(r5 3 1 (by omega)).trans v.1.1, hN, fun i hi => ⟨(r5 4 i (by omega)).trans (v.1.2.2 i hi).1, (v.1.2.2 i hi).2⟩⟩
  have rc := ro_cell I1 J T L C (by omega : i < 41) (r2.trans rfl) q2 h1 r4 hk2
  generalize hk' : tkk tx N (tkf tx N t) = k' at *
  generalize hf' : tkf tx N t = f' at *
  generalize ht' : tkt tx N f' = t' at *
  generalize hg' : tkg tx f' t' = g' at *
  rcases rc with ⟨c1, c2⟩ | ⟨c1, c2, c3, I3, c4, c5, c6, c7, c8⟩
  · -- the fault
    refine Or.inl ?_
    rcases a6 with ⟨e1, e2⟩ | ⟨e1, _⟩
    · rw [p1] at e1 e2
      have c7' : crf tx k' f' t' g' (onl (frm i)) < 7 := by
        unfold crf cfk
        split
        · decide
        · split
          · split
            · split <;> decide
            · split <;> decide
          · decide
      have w2 : WR (MADD Ib h n (cits i) (ctrn i) (Ib 49 28) (Ib 49 29) 0) (crf tx k' f' t' g' (onl (frm i))) f' := ⟨(MADD_ne (by omega)).trans e2.1, (MADD_ne (by omega)).trans e2.2⟩
      obtain ⟨I2, m1, m2, ⟨t2, m3, m4⟩, m5⟩ := mt_110 _ J' Tm Lm Cm xm (lN (cvl (sl tx f t))) hmt.1 k26 (TK_le hk2).2 w2 (by omega) c7'
      refine OF_mk (by omega) c7' (by have := (TK_le hk2); omega) ?_ (mo.trans m1) m5 m3 m4 ?_ (CPt_r T) (MP_t mp (MP_fx m2)) (Ia := am_up (am_up I1 2 10 12) 2 11 0)
      · rw [lf, c2, am_okb, am_vIi, t73_0]
      · exact CPf_t (CPf_t (CPf_fo r5) (CPf_u _ (Or.inl ⟨rfl, by decide, by decide⟩))) (CPf_u _ (Or.inl ⟨rfl, by decide, by decide⟩))
    · rw [p1] at e1; exact absurd e1 c1
  · refine Or.inr ?_
    rcases a6 with ⟨e1, _⟩ | ⟨e1, e2, e3, e4, e5⟩
    · rw [p1] at e1; exact absurd c1 e1
    obtain ⟨p3, p4⟩ := p2 c1
    obtain ⟨I2, m1, m2, m3⟩ := mt_ok (MADD Ib h n (cits i) (ctrn i) (Ib 49 28) (Ib 49 29) 0) J' Tm Lm Cm xm (lN (cvl (sl tx f t))) hmt.1 ⟨k25, k26⟩ hk2
    have h3n : I3 5 6 = nI n := (c8 5 6 (by omega)).trans ((r5 5 6 (by omega)).trans h5n)
    have hk3 := TK_n hk2
    have vv : LV D tx N h n ng d nc f I3 T Ib := by
      refine LV_keep (fun q k hq => ?_) (fun _ => rfl) (fun q k hq => ?_) v
      · rw [c8 q k (fun e => hq.2.2 ⟨e.1, by omega⟩)]
        by_cases e9 : q = 2 ∧ k = 9
        · rw [e9.1, e9.2, r3, h9]
        · exact r5 q k (fun e => hq.2.2 ⟨e.1, by omega⟩)
      · by_cases e34 : q = 49 ∧ (k = 3 ∨ k = 4)
        · rcases e34 with ⟨rfl, rfl | rfl⟩
          · rw [e2, h3]
          · exact e3
        · exact a4 q k (fun e => by have := hq.2.2; omega)
    have k0 : k' ≠ 0 := by rw [(kow_p c3).2.1]; decide
    have nb3 := NB_n hk2 nb2.1 k0
    have pv := pv_cell hi c1 c2 c3 (D n)
    have lv := fin_add hn hd8 vv (q := 1001 + i) (k := nI (crk tx k' f' t' g')) (m := crv tx k' f' t' g') (l := 0) (a := cits i) (b := ctrn i) (c := Ib 49 28) (dd := Ib 49 29) (e := 0) (Or.inl (PA_of (by rw [e4, e5, ← p3, ← p4]; rw [hD] at pv ⊢; exact pv))) (f' := tkf tx N t') (by omega) m3
    refine ⟨_, n + 1, ng, d, nc, _, _, _, _, _, _, I2, ?_, mo.trans m1, lv, ?_, hk3, m2, nb3.1, if_pos rfl, by omega, ?_, CPt_u T _ _, MP_t mp (MP_fx m3)⟩
    · rw [lf, c4, ro_28 I3 J T L C _ _ (by omega : i < 41) hn h3n (by omega), am_okb, am_vIi, t73_1, c5, c6]
      rfl
    · exact ⟨(ADD_ne (by omega)).trans c7.1, (ADD_ne (by omega)).trans c7.2.1, (ADD_ne (by omega)).trans c7.2.2.1, (ADD_ne (by omega)).trans c7.2.2.2⟩
    · exact CPf_t (CPf_t (CPf_fo r5) (CPf_fg c8)) (CPf_add I3 n _ _ _)

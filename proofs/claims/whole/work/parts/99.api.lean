/-! BITS, FEED, SCAN, RUN in both. -/
theorem sh_b01 (b : Bool) {x : Int32} {k : Nat} (hk : k < 32) : x ||| (am_b01 b <<< (nI k &&& 31)) = if b = true then am_wb x k true else x := by
  cases b
  · show x ||| ((0 : Int32) <<< (nI k &&& 31)) = x
    rw [bt_shl0 k hk]
    exact bt_ext fun j hj => by rw [bt_or, bt_0 j hj, Bool.or_false]
  · rfl
/-- the model gathers the bits of a mask -/
theorem bi_loop (J : Nat → Nat → Int64) (T : Nat → Nat → Nat) (L : Nat) (C : Nat × Nat) {I : Nat → Nat → Int32} {w : Nat} {m : Int32} (hw : w < 5) (h0 : I 49 0 = 0) (hb : ∀ k, k < 32 → (w = 0 → I 71 k = am_b01 (am_bt m k)) ∧ (w = 1 → I 72 k = am_b01 (am_bt m k)) ∧ (w = 2 → I 73 k = am_b01 (am_bt m k)) ∧ (w = 4 → I 80 k = am_b01 (am_bt m k)) ∧ (w = 3 → (k < 16 → I 79 k = am_b01 (am_bt m k)) ∧ (16 ≤ k → am_bt m k = false))) : ∀ (d k : Nat) (x2 : Int32) (v4 : Value), k + d = 32 → (∀ j, j < 32 → am_bt x2 j = (decide (j < k) && am_bt m j)) → am_E 155 13 [.ref 49, .int (nI w), .int x2, .int (nI k), v4] [] (am_W I J T L C) = some (.int m, (am_W I J T L C))
  | 0, k, x2, v4, hd, hx => by
    have e : k = 32 := by omega
    subst e
    rw [rg_155_13, if_pos (show (32 : Int32) ≤ nI 32 by decide)]
    have em : x2 = m := bt_ext fun j hj => by rw [hx j hj, decide_eq_true hj, Bool.true_and]
    rw [em]
  | d + 1, k, x2, v4, hd, hx => by
    have step : am_E 155 59 [.ref 49, .int (nI w), .int x2, .int (nI k), v4] [.int (am_b01 (am_bt m k))] (am_W I J T L C) = some (.int m, (am_W I J T L C)) := by
      rw [rg_155_59, sh_b01 _ (by omega), nI_1]
      refine bi_loop J T L C hw h0 hb d (k + 1) _ _ (by omega) (fun j hj => ?_)
      cases hbk : am_bt m k with
      | false =>
        rw [if_neg (by decide), hx j hj]
        by_cases c : j = k
        · rw [c, hbk, Bool.and_false, Bool.and_false]
        · by_cases c2 : j < k
          · rw [decide_eq_true c2, decide_eq_true (by omega)]
          · rw [decide_eq_false c2, decide_eq_false (by omega)]
      | true =>
        rw [if_pos rfl, bt_wb (by omega) hj]
        by_cases c : j = k
        · rw [if_pos c, c, hbk, decide_eq_true (by omega)]; rfl
        · rw [if_neg c, hx j hj]
          by_cases c2 : j < k
          · rw [decide_eq_true c2, decide_eq_true (by omega)]
          · rw [decide_eq_false c2, decide_eq_false (by omega)]
    obtain ⟨b0, b1, b2, b4, b3⟩ := hb k (by omega)
    rw [rg_155_13, if_neg (show ¬ (32 : Int32) ≤ nI k from nI_ge (a := k) (b := 32) (by omega) (by decide)), if_pos h0]
    rcases (show w = 0 ∨ w = 1 ∨ w = 2 ∨ w = 3 ∨ w = 4 by omega) with rfl | rfl | rfl | rfl | rfl
    · rw [if_pos (show nI 0 = 0 from rfl), am_inb_ok (by omega) (by decide), nI_clamp (by omega), b0 rfl]; exact step
    · rw [if_neg (show ¬ nI 1 = 0 by decide), if_pos (show nI 1 = 1 from rfl), am_inb_ok (by omega) (by decide), nI_clamp (by omega), b1 rfl]; exact step
    · rw [if_neg (show ¬ nI 2 = 0 by decide), if_neg (show ¬ nI 2 = 1 by decide), if_pos (show nI 2 = 2 from rfl), am_inb_ok (by omega) (by decide), nI_clamp (by omega), b2 rfl]; exact step
    · rw [if_neg (show ¬ nI 3 = 0 by decide), if_neg (show ¬ nI 3 = 1 by decide), if_neg (show ¬ nI 3 = 2 by decide), if_neg (show ¬ nI 3 = 4 by decide)]
      by_cases c : 16 ≤ k
      · rw [if_pos (show (16 : Int32) ≤ nI k from nI_le (a := 16) (b := k) c (by omega))]
        have e := (b3 rfl).2 c
        rw [e] at step
        exact step
      · rw [if_neg (show ¬ (16 : Int32) ≤ nI k from nI_ge (a := k) (b := 16) (by omega) (by decide)), am_inb_ok (by omega) (by decide), nI_clamp (by omega), (b3 rfl).1 (by omega)]; exact step
    · rw [if_neg (show ¬ nI 4 = 0 by decide), if_neg (show ¬ nI 4 = 1 by decide), if_neg (show ¬ nI 4 = 2 by decide), if_pos (show nI 4 = 4 from rfl), am_inb_ok (by omega) (by decide), nI_clamp (by omega), b4 rfl]; exact step
theorem ca_bits {B L : Nat} {C : Nat × Nat} {Lm : Nat} {Cm : Nat × Nat} {Tm : Nat → Nat → Nat} {I : Nat → Nat → Int32} {J : Nat → Nat → Int64} {T : Nat → Nat → Nat} {I' : Nat → Nat → Int32} {J' : Nat → Nat → Int64} {w : Nat} (hw : w < 5) (h : RLE B I J T I' J') : CALL B L C Lm Cm Tm I J T I' J' (am_E 83 0 [.ref 1, .int (nI w)] [] (am_W I J T L C)) (am_E 155 0 [.ref 49, .int (nI w), .null, .null, .null] [] (am_W I' J' Tm Lm Cm)) EQi := by
  have h' := h
  obtain ⟨D, n, ng, o, tx, N, h1, h2, h3, h4, h5, h6, h7⟩ := h'
  obtain ⟨c0, c1, c2, c3, c4, c5, c6, c7, c8, c9⟩ := h1.1.1
  refine ⟨.int (if w = 4 then I 22 2 else I 24 w), .int (if w = 4 then I 22 2 else I 24 w), I, J, T, am_up I' 49 0 0, J', ?_, ?_, ⟨_, rfl, rfl⟩, RLE_th 0 h, am_up_here _ _ _ _, fun _ _ _ => rfl, fun _ _ _ => rfl, th_low, fun _ _ _ => rfl⟩
  · rw [rg_83_0, if_neg (nI_pos (by omega)), if_pos (show nI w ≤ 4 from nI_le (a := w) (b := 4) (by omega) (by decide))]
    by_cases c : w = 4
    · rw [if_pos (show nI w = 4 by rw [c]; rfl), rg_83_23, if_pos c]
    · rw [if_neg (show ¬ nI w = 4 from nb_ne (c := w) (n := 4) (by omega) (by decide) c), lf_at (q := 24) (N := 6) rfl (by omega) (by decide), am_okb, am_vIi, rg_83_23, if_neg c]
  · rw [rg_155_0]
    show Option.bind (am_E 152 0 [.int (nI w), .int (nI 4)] [] _) _ = _
    rw [np_in I' J' Tm Lm Cm (by omega) (by decide), am_okb, am_vIi, rg_155_4, if_pos rfl, rg_155_8]
    refine bi_loop J' Tm Lm Cm hw (am_up_here _ _ _ _) (fun k hk => ⟨fun e => ?_, fun e => ?_, fun e => ?_, fun e => ?_, fun e => ⟨fun q => ?_, fun q => ?_⟩⟩) 32 0 0 .null rfl (fun j hj => ?_)
    · rw [if_neg (show ¬ w = 4 by omega), e]; exact c0 k hk
    · rw [if_neg (show ¬ w = 4 by omega), e]; exact c1 k hk
    · rw [if_neg (show ¬ w = 4 by omega), e]; exact c2 k hk
    · rw [if_pos e]; exact h1.2.2.1 k hk
    · rw [if_neg (show ¬ w = 4 by omega), e]; exact c3 k q
    · rw [if_neg (show ¬ w = 4 by omega), e]; exact c9 k q hk
    · rw [bt_0 j hj, decide_eq_false (Nat.not_lt_zero j)]; rfl
def fbv (y : Int64) (k : Nat) : Nat := ((y >>> (Int32.toInt64 (8 * nI k) &&& 63)) &&& 255 : Int64).toBitVec.toNat
theorem fb_eq (y : Int64) {k : Nat} (hk : k < 8) : ((Int64.toUInt64 y >>> ((Int32.toInt64 (8 * nI k)).toUInt64 &&& Int64.toUInt64 63)).toInt64 &&& 255 : Int64) = (y >>> (Int32.toInt64 (8 * nI k) &&& 63)) &&& 255 := by
  refine Int64.toBitVec_inj.mp (BitVec.eq_of_getLsbD_eq fun i hi => ?_)
  have sh : ∀ s, s < 57 → ((y.toBitVec >>> s) &&& 255#64).getLsbD i = ((y.toBitVec.sshiftRight s) &&& 255#64).getLsbD i := by
    intro s hs
    rw [BitVec.getLsbD_and, BitVec.getLsbD_and]
    by_cases c : i < 8
    · have e : (y.toBitVec >>> s).getLsbD i = (y.toBitVec.sshiftRight s).getLsbD i := by
        rw [BitVec.getLsbD_ushiftRight, BitVec.getLsbD_sshiftRight]
        simp [hi, show s + i < 64 by omega]
      rw [e]
    · have q : ∀ i, i < 64 → 8 ≤ i → (255#64).getLsbD i = false := by decide +kernel
      rw [q i hi (by omega), Bool.and_false, Bool.and_false]
  rcases (show k = 0 ∨ k = 1 ∨ k = 2 ∨ k = 3 ∨ k = 4 ∨ k = 5 ∨ k = 6 ∨ k = 7 by omega) with rfl | rfl | rfl | rfl | rfl | rfl | rfl | rfl
  · exact sh 0 (by decide)
  · exact sh 8 (by decide)
  · exact sh 16 (by decide)
  · exact sh 24 (by decide)
  · exact sh 32 (by decide)
  · exact sh 40 (by decide)
  · exact sh 48 (by decide)
  · exact sh 56 (by decide)
theorem fb_v (y : Int64) {k : Nat} (hk : k < 8) : Int64.toInt32 ((y >>> (Int32.toInt64 (8 * nI k) &&& 63)) &&& 255) = nI (fbv y k) ∧ fbv y k < 256 := by
  have a : ∀ v : Int64, Int64.toInt32 v = nI v.toBitVec.toNat := fun v => by
    have e : v = lN v.toBitVec.toNat := Int64.toBitVec_inj.mp (BitVec.ofNat_toNat _ _ |>.trans (BitVec.setWidth_eq _) |>.symm)
    have e2 := lN_i v.toBitVec.toNat
    rw [← e] at e2
    exact e2
  have b : ∀ v : BitVec 64, (v &&& 255#64).toNat < 256 := fun v => by
    rw [BitVec.toNat_and]
    exact Nat.lt_succ_of_le Nat.and_le_right
  exact ⟨a _, b _⟩
def apb (y : Int64) (N : Nat) : Nat → Nat → (Nat → Nat) → Nat → Nat
  | 0, _, tx => tx
  | d + 1, k, tx => apb y N d (k + 1) (fun i => if i = N + k then fbv y k else tx i)
theorem up_tx {f : Nat → Int32} {tx : Nat → Nat} {I : Nat → Nat → Int32} {q a b : Nat} (hb : b < 256) (h : ∀ i, i < 700 → I q i = nI (tx i) ∧ tx i < 256) : ∀ i, i < 700 → am_up I q a (nI b) q i = nI (if i = a then b else tx i) ∧ (if i = a then b else tx i) < 256 := by
  intro i hi
  by_cases c : i = a
  · rw [if_pos c, c, am_up_here]; exact ⟨rfl, hb⟩
  · rw [if_neg c, am_up_ne (by omega)]; exact h i hi
theorem cl_fd (J : Nat → Nat → Int64) (T : Nat → Nat → Nat) (L : Nat) (C : Nat × Nat) {y : Int64} {n N : Nat} (hn : n ≤ 8) (hN : N + n ≤ 700) : ∀ (d k : Nat) (I : Nat → Nat → Int32) (tx : Nat → Nat), k + d = n → (∀ i, i < 700 → I 4 i = nI (tx i) ∧ tx i < 256) → I 3 1 = nI N → ∃ I1, am_E 68 10 [.ref 3, .int (nI n), .long y, .null, .int (nI k)] [] (am_W I J T L C) = some (.int (nI (N + n)), am_W I1 J T L C) ∧ TX I1 4 3 1 (apb y N d k tx) (N + n) ∧ ∀ q j, ¬ (q = 4 ∨ (q = 3 ∧ j = 1)) → I1 q j = I q j
  | 0, k, I, tx, hd, hx, h3 => by
    have e : k = n := by omega
    subst e
    refine ⟨am_up I 3 1 (nI (N + k)), ?_, ⟨am_up_here _ _ _ _, hN, fun i hi => ⟨(am_up_ne (by omega)).trans (hx i hi).1, (hx i hi).2⟩⟩, fun q j e => am_up_ne (by omega)⟩
    rw [rg_68_10, if_pos (nI_le (Nat.le_refl k) (by omega)), h3, nI_add]
  | d + 1, k, I, tx, hd, hx, h3 => by
    obtain ⟨v1, v2⟩ := fb_v y (show k < 8 by omega)
    obtain ⟨I1, e1, e2, e3⟩ := cl_fd J T L C hn hN d (k + 1) (am_up I 4 (N + k) (nI (fbv y k))) _ (by omega) (up_tx (f := fun _ => 0) v2 hx) ((am_up_ne (by omega)).trans h3)
    refine ⟨I1, ?_, e2, fun q j e => (e3 q j e).trans (am_up_ne (by omega))⟩
    rw [rg_68_10, if_neg (nI_ge (by omega) (by omega)), h3, nI_add, fb_eq y (by omega), v1, lf_put (q := 4) (N := 700) rfl (by omega) (by decide), am_okb, rg_68_28, nI_1]
    exact e1
theorem mo_fd (J : Nat → Nat → Int64) (T : Nat → Nat → Nat) (L : Nat) (C : Nat × Nat) {y : Int64} {n N : Nat} (hn : n ≤ 8) (hN : N + n ≤ 700) : ∀ (d k : Nat) (I : Nat → Nat → Int32) (tx : Nat → Nat), k + d = n → (∀ i, i < 700 → I 50 i = nI (tx i) ∧ tx i < 256) → I 49 2 = nI (N + k) → ∃ I1, am_E 96 26 [.ref 49, .int (nI n), .long y, .null, .int (nI k)] [] (am_W I J T L C) = some (.int (nI (N + n)), am_W I1 J T L C) ∧ TX I1 50 49 2 (apb y N d k tx) (N + n) ∧ ∀ q j, ¬ (q = 50 ∨ (q = 49 ∧ j = 2)) → I1 q j = I q j
  | 0, k, I, tx, hd, hx, h3 => by
    have e : k = n := by omega
    subst e
    refine ⟨I, ?_, ⟨h3, hN, hx⟩, fun _ _ _ => rfl⟩
    rw [rg_96_26, if_pos (nI_le (Nat.le_refl k) (by omega)), h3]
  | d + 1, k, I, tx, hd, hx, h3 => by
    obtain ⟨v1, v2⟩ := fb_v y (show k < 8 by omega)
    obtain ⟨I1, e1, e2, e3⟩ := mo_fd J T L C hn hN d (k + 1) (am_up (am_up I 50 (N + k) (nI (fbv y k))) 49 2 (nI (N + (k + 1)))) _ (by omega) (fun i hi => by rw [am_up_ne (by omega)]; exact up_tx (f := fun _ => 0) v2 hx i hi) (am_up_here _ _ _ _)
    refine ⟨I1, ?_, e2, fun q j e => (e3 q j e).trans ((am_up_ne (by omega)).trans (am_up_ne (by omega)))⟩
    rw [rg_96_26, if_neg (nI_ge (by omega) (by omega)), h3, am_inb_ok (by omega) (by decide), nI_clamp (by omega), v1, nI_1, nI_1]
    exact e1
theorem RLE_tx {B : Nat} {D : Nat → Nat} {n ng o N : Nat} {tx : Nat → Nat} {I I1 : Nat → Nat → Int32} {J : Nat → Nat → Int64} {T : Nat → Nat → Nat} {I' I2 : Nat → Nat → Int32} {J' : Nat → Nat → Int64} {tx1 : Nat → Nat} {N1 : Nat} (h : RLd D n ng o tx N B I J T I' J') (a : TX I1 4 3 1 tx1 N1) (b : TX I2 50 49 2 tx1 N1) (c : ∀ q j, ¬ (q = 4 ∨ (q = 3 ∧ j = 1)) → I1 q j = I q j) (d : ∀ q j, ¬ (q = 50 ∨ (q = 49 ∧ j = 2)) → ¬ (q = 49 ∧ j = 0) → I2 q j = I' q j) : RLE B I1 J T I2 J' := by
  obtain ⟨h1, h2, h3, h4, h5, h6, h7⟩ := h
  refine ⟨D, n, ng, o, tx1, N1, Rel_s_keep (fun q k e => c q k (by omega)) (fun _ _ _ => rfl) (fun q k e => d q k (by omega) (by omega)) (fun _ _ _ => rfl) h1, ?_, a, b, (d 49 3 (by omega) (by omega)).trans (h5.trans (c 2 2 (by omega)).symm), (d 49 4 (by omega) (by omega)).trans (h6.trans (c 2 3 (by omega)).symm), h7⟩
  -- the rows of the programs are not the text's
  have hp : Rel_p D n ng o I T (fun q j => if q = 50 then I2 q j else I' q j) := h2
  exact Rel_p_keep (fun q k e e2 => c q k (by omega)) (fun _ => rfl) (fun q k e e2 => by
    by_cases q50 : q = 50
    · rw [if_pos q50]
    · rw [if_neg q50]; exact d q k (by omega) (by omega)) (by show I2 49 22 = I' 49 22; exact d 49 22 (by omega) (by omega)) hp
theorem ca_feed {B L : Nat} {C : Nat × Nat} {Lm : Nat} {Cm : Nat × Nat} {Tm : Nat → Nat → Nat} {I : Nat → Nat → Int32} {J : Nat → Nat → Int64} {T : Nat → Nat → Nat} {I' : Nat → Nat → Int32} {J' : Nat → Nat → Int64} {n : Nat} {y : Int64} (h1n : 1 ≤ n) (hn : n ≤ 8) (h : RLE B I J T I' J') : CALL B L C Lm Cm Tm I J T I' J' (am_E 73 0 [.ref 1, .int (nI n), .long y, .null] [] (am_W I J T L C)) (am_E 96 0 [.ref 49, .int (nI n), .long y, .null, .null] [] (am_W I' J' Tm Lm Cm)) EQi := by
  have h' := h
  obtain ⟨D, np, ng, o, tx, N, hr⟩ := h'
  have hr' := hr
  obtain ⟨h1, h2, h3, h4, h5, h6, h7⟩ := hr'
  have hN := h3.2.1
  have ec : am_E 73 0 [.ref 1, .int (nI n), .long y, .null] [] (am_W I J T L C) = Option.bind (am_E 68 0 [.ref 3, .int (nI n), .long y, .null, .null] [] (am_W I J T L C)) (fun z1 => am_vI z1.1 fun u1 => am_E 73 17 [.ref 1, .int (nI n), .long y, .null] [.int u1] z1.2) := by
    rw [rg_73_0, if_neg (show ¬ nI n < 1 from nI_nlt (a := n) (b := 1) h1n (by omega)), if_pos (show nI n ≤ 8 from nI_le (a := n) (b := 8) hn (by decide))]
  have em : am_E 96 0 [.ref 49, .int (nI n), .long y, .null, .null] [] (am_W I' J' Tm Lm Cm) = am_E 96 10 [.ref 49, .int (nI n), .long y, .null, .null] [.int 0, .ref 49] (am_W I' J' Tm Lm Cm) := by
    rw [rg_96_0, if_neg (show ¬ nI n < 1 from nI_nlt (a := n) (b := 1) h1n (by omega)), if_pos (show nI n ≤ 8 from nI_le (a := n) (b := 8) hn (by decide))]
  have e2 : I' 49 2 = nI N := h4.1
  have e3 : I 3 1 = nI N := h3.1
  have tc : ∀ i, i < 700 → I 4 i = nI (tx i) ∧ tx i < 256 := h3.2.2
  have tm : ∀ i, i < 700 → am_up I' 49 0 0 50 i = nI (tx i) ∧ tx i < 256 := h4.2.2
  have tm2 : am_up I' 49 0 0 49 2 = nI N := h4.1
  by_cases c : N + n ≤ 700
  · obtain ⟨I1, a1, a2, a3⟩ := cl_fd J T L C (y := y) hn c n 0 I tx (by omega) tc e3
    obtain ⟨I2, b1, b2, b3⟩ := mo_fd J' Tm Lm Cm (y := y) hn c n 0 (am_up I' 49 0 0) tx (by omega) tm tm2
    refine ⟨_, _, I1, J, T, I2, J', ?_, ?_, ⟨nI (N + n), rfl, rfl⟩, RLE_tx hr a2 b2 a3 (fun q j e e0 => (b3 q j e).trans (am_up_ne e0)), (b3 49 0 (by omega)).trans (am_up_here _ _ _ _), fun q k e => a3 q k (by omega), fun _ _ _ => rfl, fun q k e => (b3 q k (by omega)).trans (am_up_ne (by omega)), fun _ _ _ => rfl⟩
    · rw [ec, rg_68_0, e3, nI_add, if_pos (show nI (N + n) ≤ 700 from nI_le (a := N + n) (b := 700) c (by decide))]
      change Option.bind (am_E 68 10 [.ref 3, .int (nI n), .long y, .null, .int (nI 0)] [] (am_W I J T L C)) _ = _
      rw [a1, am_okb, am_vIi, rg_73_17]
    · rw [em, rg_96_10, if_pos (show (0 : Int32) ≤ 0 by decide), e2, nI_add, if_pos (show nI (N + n) ≤ 700 from nI_le (a := N + n) (b := 700) c (by decide))]
      exact b1
  · refine ⟨_, _, I, J, T, am_up I' 49 0 0, J', ?_, ?_, ⟨-1, rfl, rfl⟩, RLE_th 0 h, am_up_here _ _ _ _, fun _ _ _ => rfl, fun _ _ _ => rfl, th_low, fun _ _ _ => rfl⟩
    · rw [ec, rg_68_0, e3, nI_add, if_neg (show ¬ nI (N + n) ≤ 700 from nI_ge (a := 700) (b := N + n) (by omega) (by omega)), am_okb, am_vIi, rg_73_17]
    · rw [em, rg_96_10, if_pos (show (0 : Int32) ≤ 0 by decide), e2, nI_add, if_neg (show ¬ nI (N + n) ≤ 700 from nI_ge (a := 700) (b := N + n) (by omega) (by omega))]
/-- one scan of both, stopped or not -/
theorem sc_run {B L : Nat} {C : Nat × Nat} {Lm : Nat} {Cm : Nat × Nat} {Tm : Nat → Nat → Nat} {I : Nat → Nat → Int32} {J : Nat → Nat → Int64} {T : Nat → Nat → Nat} {I' : Nat → Nat → Int32} {J' : Nat → Nat → Int64} {tt : Nat} (htt : tt ≤ 1000000) (hb : B + 1000000 < 2 ^ 62) (s0 : I 22 3 = 0) (h : RLE B I J T I' J') : ∃ I1 J1 T1 I2 J2, am_E 13 0 [.ref 22, .ref 34, .int (I 1 3), .int (nI tt)] [] (am_W I J T L C) = some (.null, am_W I1 J1 T1 L C) ∧ am_E 149 0 [.ref 49, .int (nI tt), .null] [] (am_W I' J' Tm Lm Cm) = some (.int (I1 22 3), am_W I2 J2 Tm Lm Cm) ∧ RLE (B + 1000000) I1 J1 T1 I2 J2 ∧ (∀ q k, 49 ≤ q → I1 q k = I q k) ∧ (∀ q k, 49 ≤ q → J1 q k = J q k) ∧ (∀ q k, (q < 49 ∨ 92 ≤ q) → I2 q k = I' q k) ∧ (∀ q k, (q < 49 ∨ 92 ≤ q) → J2 q k = J' q k) ∧ I2 49 0 = I' 49 0 := by
  obtain ⟨D, n, ng, o, tx, N, h1, h2, h3, h4, h5, h6, h7⟩ := h
  obtain ⟨I1, J1, T1, I2, J2, e1, e2, e3, e4, e5, ⟨f1, f2, f3⟩, ⟨g1, g2⟩⟩ := scan_sim (L := L) (C := C) (Lm := Lm) (Cm := Cm) (Tm := Tm) h1 h2 h7 s0 htt hb
  exact ⟨I1, J1, T1, I2, J2, e1, e2, ⟨D, n, ng, o, tx, N, e3, e4, TX_keep (fun i => f1 4 i (by omega)) (f1 3 1 (by omega)) h3, TX_keep (fun i => g1 50 i (by omega)) (g1 49 2 (by omega)) h4, (g1 49 3 (by omega)).trans (h5.trans (f1 2 2 (by omega)).symm), (g1 49 4 (by omega)).trans (h6.trans (f1 2 3 (by omega)).symm), e5⟩, fun q k e => f1 q k (by omega), fun q k e => f2 q k (by omega), fun q k e => g1 q k (by omega), fun q k e => g2 q k e, g1 49 0 (by omega)⟩
theorem RLE_st {B : Nat} {I : Nat → Nat → Int32} {J : Nat → Nat → Int64} {T : Nat → Nat → Nat} {I' : Nat → Nat → Int32} {J' : Nat → Nat → Int64} (h : RLE B I J T I' J') : I' 49 45 = I 22 3 ∧ (I 22 3 = 0 ∨ I 22 3 = 2 ∨ I 22 3 = 3) := by
  obtain ⟨D, n, ng, o, tx, N, h1, _⟩ := h
  exact ⟨h1.2.2.2.1, h1.2.2.2.2.1⟩
theorem mo_stop (I : Nat → Nat → Int32) (J : Nat → Nat → Int64) (T : Nat → Nat → Nat) (L : Nat) (C : Nat × Nat) {x : Int32} (h : I 49 45 = 2 ∨ I 49 45 = 3) : am_E 149 0 [.ref 49, .int x, .null] [] (am_W I J T L C) = some (.int (-1), (am_W I J T L C)) := by
  rw [rg_149_0]
  rcases h with e | e <;> rw [e] <;> rfl
theorem ca_scan {B L : Nat} {C : Nat × Nat} {Lm : Nat} {Cm : Nat × Nat} {Tm : Nat → Nat → Nat} {I : Nat → Nat → Int32} {J : Nat → Nat → Int64} {T : Nat → Nat → Nat} {I' : Nat → Nat → Int32} {J' : Nat → Nat → Int64} {tt : Nat} (htt : tt ≤ 1000000) (hb : B + 1000000 < 2 ^ 62) (h : RLE B I J T I' J') : CALL (B + 1000000) L C Lm Cm Tm I J T I' J' (am_E 80 0 [.ref 1, .int (nI tt)] [] (am_W I J T L C)) (am_E 150 0 [.ref 49, .int (nI tt)] [] (am_W I' J' Tm Lm Cm)) EQi := by
  obtain ⟨hs1, hs2⟩ := RLE_st h
  have em : am_E 150 0 [.ref 49, .int (nI tt)] [] (am_W I' J' Tm Lm Cm) = Option.bind (am_E 149 0 [.ref 49, .int (nI tt), .null] [] (am_W (am_up I' 49 0 0) J' Tm Lm Cm)) (fun z1 => am_vI z1.1 fun u1 => am_E 150 18 [.ref 49, .int (nI tt)] [.int u1] z1.2) := by
    rw [rg_150_0, if_neg (nI_pos (by omega)), if_pos (show nI tt ≤ 1000000 from nI_le (a := tt) (b := 1000000) htt (by decide)), rg_150_9, if_pos (show (0 : Int32) ≤ 0 by decide)]
  have ec : am_E 80 0 [.ref 1, .int (nI tt)] [] (am_W I J T L C) = (if I 22 3 = 0 then ((am_E 13 0 [.ref 22, .ref 34, .int (I 1 3), .int (nI tt)] [] (am_W I J T L C)).bind (fun z1 => (am_E 80 24 [.ref 1, .int (nI tt)] [] z1.2))) else (some (.int (-1), (am_W I J T L C)))) := by
    rw [rg_80_0, if_neg (nI_pos (by omega)), if_pos (show nI tt ≤ 1000000 from nI_le (a := tt) (b := 1000000) htt (by decide))]
  by_cases s0 : I 22 3 = 0
  · obtain ⟨I1, J1, T1, I2, J2, e1, e2, e3, e4, e5, e6, e7, e8⟩ := sc_run (L := L) (C := C) (Lm := Lm) (Cm := Cm) (Tm := Tm) htt hb s0 (RLE_th 0 h)
    refine ⟨.int (I1 22 3), .int (I1 22 3), I1, J1, T1, I2, J2, ?_, ?_, ⟨_, rfl, rfl⟩, e3, e8.trans (am_up_here _ _ _ _), e4, e5, fun q k e => (e6 q k e).trans (am_up_ne (by omega)), e7⟩
    · rw [ec, if_pos s0, e1, am_okb, rg_80_24]
    · rw [em, e2, am_okb, am_vIi, rg_150_18]
  · refine ⟨_, _, I, J, T, am_up I' 49 0 0, J', ?_, ?_, ⟨-1, rfl, rfl⟩, RLE_up (by omega) (RLE_th 0 h), am_up_here _ _ _ _, fun _ _ _ => rfl, fun _ _ _ => rfl, th_low, fun _ _ _ => rfl⟩
    · rw [ec, if_neg s0]
    · have e : am_up I' 49 0 0 49 45 = I 22 3 := hs1
      rw [em, mo_stop (am_up I' 49 0 0) J' Tm Lm Cm (by rw [e]; exact hs2.resolve_left s0), am_okb, am_vIi, rg_150_18]
theorem ru_loop {L : Nat} {C : Nat × Nat} {Lm : Nat} {Cm : Nat × Nat} {Tm : Nat → Nat → Nat} {n tt : Nat} (hn : n ≤ 100) (htt : tt ≤ 1000000) : ∀ (d k B : Nat) (I : Nat → Nat → Int32) (J : Nat → Nat → Int64) (T : Nat → Nat → Nat) (I' : Nat → Nat → Int32) (J' : Nat → Nat → Int64), k + d = n → B + d * 1000000 < 2 ^ 62 → I 22 3 = 0 → RLE B I J T I' J' → ∃ x I1 J1 T1 I2 J2, am_E 81 24 [.ref 1, .int (nI n), .int (nI tt), .int (nI k), .int (nI k)] [] (am_W I J T L C) = some (.int x, am_W I1 J1 T1 L C) ∧ am_E 151 24 [.ref 49, .int (nI n), .int (nI tt), .int (nI k), .int 1] [] (am_W I' J' Tm Lm Cm) = some (.int x, am_W I2 J2 Tm Lm Cm) ∧ RLE (B + d * 1000000) I1 J1 T1 I2 J2 ∧ (∀ q k, 49 ≤ q → I1 q k = I q k) ∧ (∀ q k, 49 ≤ q → J1 q k = J q k) ∧ (∀ q k, (q < 49 ∨ 92 ≤ q) → I2 q k = I' q k) ∧ (∀ q k, (q < 49 ∨ 92 ≤ q) → J2 q k = J' q k) ∧ I2 49 0 = I' 49 0
  | 0, k, B, I, J, T, I', J', hd, hb, s0, h => by
    have e : k = n := by omega
    subst e
    refine ⟨nI k, I, J, T, I', J', ?_, ?_, RLE_up (by omega) h, fun _ _ _ => rfl, fun _ _ _ => rfl, fun _ _ _ => rfl, fun _ _ _ => rfl, rfl⟩
    · rw [rg_81_24, if_pos (nI_le (Nat.le_refl k) (by omega))]
    · rw [rg_151_24, if_neg (by decide), if_pos (nI_le (Nat.le_refl k) (by omega))]
  | d + 1, k, B, I, J, T, I', J', hd, hb, s0, h => by
    obtain ⟨I1, J1, T1, I2, J2, e1, e2, e3, e4, e5, e6, e7, e8⟩ := sc_run (L := L) (C := C) (Lm := Lm) (Cm := Cm) (Tm := Tm) htt (by omega) s0 h
    have nge : ¬ nI n ≤ nI k := nI_ge (by omega) (by omega)
    have ec : am_E 81 24 [.ref 1, .int (nI n), .int (nI tt), .int (nI k), .int (nI k)] [] (am_W I J T L C) = am_E 81 39 [.ref 1, .int (nI n), .int (nI tt), .int (nI k), .int (nI k)] [] (am_W I1 J1 T1 L C) := by
      rw [rg_81_24, if_neg nge, if_pos s0, e1, am_okb]
    have em : am_E 151 24 [.ref 49, .int (nI n), .int (nI tt), .int (nI k), .int 1] [] (am_W I' J' Tm Lm Cm) = am_E 151 32 [.ref 49, .int (nI n), .int (nI tt), .int (nI k), .int 1] [.int (I1 22 3)] (am_W I2 J2 Tm Lm Cm) := by
      rw [rg_151_24, if_neg (by decide), if_neg nge, e2, am_okb, am_vIi]
    by_cases s1 : I1 22 3 = 0
    · obtain ⟨x, I3, J3, T3, I4, J4, r1, r2, r3, r4, r5, r6, r7, r8⟩ := ru_loop hn htt d (k + 1) (B + 1000000) I1 J1 T1 I2 J2 (by omega) (by omega) s1 e3 (L := L) (C := C) (Lm := Lm) (Cm := Cm) (Tm := Tm)
      refine ⟨x, I3, J3, T3, I4, J4, ?_, ?_, RLE_up (by omega) r3, fun q k e => (r4 q k e).trans (e4 q k e), fun q k e => (r5 q k e).trans (e5 q k e), fun q k e => (r6 q k e).trans (e6 q k e), fun q k e => (r7 q k e).trans (e7 q k e), r8.trans e8⟩
      · rw [ec, rg_81_39, if_pos s1, nI_1]; exact r1
      · rw [em, rg_151_32, if_pos s1, rg_151_36, if_neg (by decide), nI_1]; exact r2
    · refine ⟨nI k, I1, J1, T1, I2, J2, ?_, ?_, RLE_up (by omega) e3, e4, e5, e6, e7, e8⟩
      · rw [ec, rg_81_39, if_neg s1, nI_1, rg_81_24]
        by_cases c : nI n ≤ nI (k + 1)
        · rw [if_pos c]
        · rw [if_neg c, if_neg s1]
      · rw [em, rg_151_32, if_neg s1, rg_151_36, if_pos rfl, rg_151_24, if_pos rfl]
theorem ca_run {B L : Nat} {C : Nat × Nat} {Lm : Nat} {Cm : Nat × Nat} {Tm : Nat → Nat → Nat} {I : Nat → Nat → Int32} {J : Nat → Nat → Int64} {T : Nat → Nat → Nat} {I' : Nat → Nat → Int32} {J' : Nat → Nat → Int64} {n tt : Nat} (hn : n ≤ 100) (htt : tt ≤ 1000000) (hb : B + 100000000 < 2 ^ 62) (h : RLE B I J T I' J') : CALL (B + 100000000) L C Lm Cm Tm I J T I' J' (am_E 81 0 [.ref 1, .int (nI n), .int (nI tt), .null, .null] [] (am_W I J T L C)) (am_E 151 0 [.ref 49, .int (nI n), .int (nI tt), .null, .null] [] (am_W I' J' Tm Lm Cm)) EQi := by
  obtain ⟨hs1, hs2⟩ := RLE_st h
  have ec : am_E 81 0 [.ref 1, .int (nI n), .int (nI tt), .null, .null] [] (am_W I J T L C) = am_E 81 24 [.ref 1, .int (nI n), .int (nI tt), .int (nI 0), .int (nI 0)] [] (am_W I J T L C) := by
    rw [rg_81_0, if_neg (nI_pos (by omega)), if_pos (show nI n ≤ 100 from nI_le (a := n) (b := 100) hn (by decide)), if_neg (nI_pos (by omega)), if_pos (show nI tt ≤ 1000000 from nI_le (a := tt) (b := 1000000) htt (by decide))]
    rfl
  have em : am_E 151 0 [.ref 49, .int (nI n), .int (nI tt), .null, .null] [] (am_W I' J' Tm Lm Cm) = am_E 151 24 [.ref 49, .int (nI n), .int (nI tt), .int (nI 0), .int 1] [] (am_W (am_up I' 49 0 0) J' Tm Lm Cm) := by
    rw [rg_151_0, if_neg (nI_pos (by omega)), if_neg (show ¬ (100 : Int32) < nI n from nI_nlt (a := 100) (b := n) hn (by decide)), if_neg (nI_pos (by omega)), if_pos (show nI tt ≤ 1000000 from nI_le (a := tt) (b := 1000000) htt (by decide)), rg_151_14, if_pos rfl]
    rfl
  by_cases s0 : I 22 3 = 0
  · obtain ⟨x, I1, J1, T1, I2, J2, r1, r2, r3, r4, r5, r6, r7, r8⟩ := ru_loop (L := L) (C := C) (Lm := Lm) (Cm := Cm) (Tm := Tm) hn htt n 0 B I J T (am_up I' 49 0 0) J' (by omega) (by omega) s0 (RLE_th 0 h)
    exact ⟨.int x, .int x, I1, J1, T1, I2, J2, ec.trans r1, em.trans r2, ⟨_, rfl, rfl⟩, RLE_up (by omega) r3, r8.trans (am_up_here _ _ _ _), r4, r5, fun q k e => (r6 q k e).trans (am_up_ne (by omega)), r7⟩
  · refine ⟨.int (nI 0), .int (nI 0), I, J, T, am_up I' 49 0 0, J', ?_, ?_, ⟨_, rfl, rfl⟩, RLE_up (by omega) (RLE_th 0 h), am_up_here _ _ _ _, fun _ _ _ => rfl, fun _ _ _ => rfl, th_low, fun _ _ _ => rfl⟩
    · rw [ec, rg_81_24]
      by_cases c : nI n ≤ nI 0
      · rw [if_pos c]
      · rw [if_neg c, if_neg s0]
    · have e : am_up I' 49 0 0 49 45 = I 22 3 := hs1
      rw [em, rg_151_24, if_neg (by decide)]
      by_cases c : nI n ≤ nI 0
      · rw [if_pos c]
      · rw [if_neg c, mo_stop (am_up I' 49 0 0) J' Tm Lm Cm (by rw [e]; exact hs2.resolve_left s0), am_okb, am_vIi, rg_151_32, if_neg (by decide), rg_151_36, if_pos rfl, rg_151_24, if_pos rfl]

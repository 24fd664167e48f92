/-! THE START: from the bare heap to the loop; the law's run. -/
def am_h0 (L : Nat) (xs : Nat → Int32) : am_H := ((fun q k => cond (Nat.beq q 4600) (xs k) 0, fun _ _ => 0, fun _ _ => 0), (fun _ _ => 0, am_S0 L, 0), (0, 0))
theorem st_S0 (L q : Nat) : cond (Nat.beq q 4600) (24, L) (am_S0 0 q) = am_S0 L q := by
  by_cases c : q = 4600
  · rw [c]; rfl
  · rw [beq_f c]
    unfold am_S0
    rw [beq_f c]
    rfl
theorem st_h0 (L : Nat) (xs : Nat → Int32) : tw L xs st_00 = am_h0 L xs := by
  have e : (fun q => cond (Nat.beq q 4600) (24, L) (am_S0 0 q)) = am_S0 L := funext (st_S0 L)
  show ((_, _, _), (_, (fun q => cond (Nat.beq q 4600) (24, L) (am_S0 0 q)), _), _) = _
  rw [e]; rfl
theorem st_e1' : am_exQ 900 72 0 (am_ent [.ref 1] (am_nL 72)) [] (am_new st_00 8 4) = some (.null, st_A1) := by
  have h := st_e1
  unfold st_r1 at h
  exact h
theorem st_e2' : am_exQ 3000 94 0 (am_ent [.ref 49] (am_nL 94)) [] (am_new st_A1 9 61) = some (.null, st_A2) := by
  have h := st_e2
  unfold st_r2 at h
  exact h
def st_P (n : Nat) (h : am_H) : Prop := h.2.1.2.2 = n ∧ (∀ q, n < q → am_S h q = am_S0 0 q ∧ ∀ k, h.2.1.1 q k = 0) ∧ ∀ q k, 64 ≤ k → h.2.1.1 q k = 0
theorem st_Pn {n kd len : Nat} {h : am_H} (p : st_P n h) : st_P (n + 1) (am_new h kd len) := by
  obtain ⟨⟨I, J, T⟩, ⟨R, S, m⟩, C⟩ := h
  obtain ⟨p1, p2, p3⟩ := p
  have p1 : m = n := p1
  subst p1
  refine ⟨rfl, fun q hq => ?_, fun q k hk => ?_⟩
  · obtain ⟨c1, c2⟩ := p2 q (by omega)
    refine ⟨Eq.trans ?_ c1, fun k => Eq.trans ?_ (c2 k)⟩
    · show cond (Nat.beq q (m + 1)) (kd, len) (S q) = _
      rw [beq_f (by omega)]; rfl
    · show am_clr R (m + 1) 0 q k = _
      rw [am_clr_eq, if_neg (by omega)]
  · show am_clr R (m + 1) 0 q k = _
    rw [am_clr_eq]
    by_cases c : q = m + 1
    · rw [if_pos c]
    · rw [if_neg c]; exact p3 q k hk
theorem st_Pr {n n1 : Nat} {h h1 : am_H} {v : Value} (a : PN h (some (v, h1))) (p : st_P n h) (e : h1.2.1.2.2 = n1) : st_P n1 h1 := by
  obtain ⟨a1, a2, a3⟩ := a _ rfl
  obtain ⟨p1, p2, p3⟩ := p
  have a1 : h.2.1.2.2 ≤ h1.2.1.2.2 := a1
  refine ⟨e, fun q hq => ?_, fun q k hk => (a3 q k hk).elim (fun z => z.trans (p3 q k hk)) id⟩
  obtain ⟨b1, b2⟩ := a2 q (by rw [e]; exact hq)
  obtain ⟨c1, c2⟩ := p2 q (by omega)
  exact ⟨b1.trans c1, fun k => (b2 k).trans (c2 k)⟩
theorem st_P0 : st_P 0 st_00 := ⟨rfl, fun _ _ => ⟨rfl, fun _ => rfl⟩, fun _ _ _ => rfl⟩
theorem st_P1 : st_P 48 st_A1 := by
  have a := PNex 900 72 0 (am_ent [.ref 1] (am_nL 72)) [] (am_new st_00 8 4)
  rw [st_e1'] at a
  exact st_Pr a (st_Pn st_P0) st_n1
theorem st_P2 : st_P 91 st_A2 := by
  have a := PNex 3000 94 0 (am_ent [.ref 49] (am_nL 94)) [] (am_new st_A1 9 61)
  rw [st_e2'] at a
  exact st_Pr a (st_Pn st_P1) st_n2
theorem st_P3 : st_P 92 st_A3 := st_Pn st_P2
theorem st_p3 : (∀ q, 92 < q → am_S st_A3 q = am_S0 0 q ∧ ∀ k, st_A3.2.1.1 q k = 0) ∧ ∀ q k, 64 ≤ k → st_A3.2.1.1 q k = 0 := st_P3.2
theorem st_n3 : st_A3.2.1.2.2 = 92 := st_P3.1
theorem st_RF : st_A3.2.1.1 = am_RF := by
  funext q k
  by_cases hk : k < 64
  · by_cases hq : q < 96
    · have h := List.all_eq_true.mp (List.all_eq_true.mp st_R q (List.mem_range.mpr hq)) k (List.mem_range.mpr hk)
      exact Nat.eq_of_beq_eq_true h
    · rw [rf_row (Or.inl (by omega))]
      exact (st_p3.1 q (by omega)).2 k
  · rw [rf_row (Or.inr (by omega))]
    exact st_p3.2 q k (by omega)
theorem st_SF (L : Nat) : (fun q => cond (Nat.beq q 4600) (24, L) (am_S st_A3 q)) = am_SF L := by
  funext q
  by_cases hq : q ≤ 92
  · rw [beq_f (by omega)]
    obtain ⟨h1, h2⟩ := Bool.and_eq_true_iff.mp (List.all_eq_true.mp st_S q (List.mem_range.mpr (by omega)))
    unfold am_SF
    rw [Nat.ble_eq_true_of_le hq]
    exact Prod.ext (Nat.eq_of_beq_eq_true h1) (Nat.eq_of_beq_eq_true h2)
  · rw [(st_p3.1 q (by omega)).1, st_S0]
    unfold am_SF
    rw [ble_f (by omega)]
    rfl
def st_I (xs : Nat → Int32) (q k : Nat) : Int32 := cond (Nat.beq q 4600) (xs k) (st_A3.1.1 q k)
theorem st_W (L : Nat) (xs : Nat → Int32) : tw L xs st_A3 = am_W (st_I xs) st_A3.1.2.1 st_A3.1.2.2 L st_A3.2.2 := by
  show ((st_I xs, _, _), (st_A3.2.1.1, (fun q => cond (Nat.beq q 4600) (24, L) (am_S st_A3 q)), st_A3.2.1.2.2), _) = _
  rw [st_RF, st_SF, st_n3]
theorem st_in {α : Type} {n : Nat} {P : Nat → Prop} [DecidablePred P] (h : (List.range n).all (fun j => decide (P j)) = true) : ∀ j, j < n → P j := fun j hj => of_decide_eq_true (List.all_eq_true.mp h j (List.mem_range.mpr hj))
theorem st_rel0 : RLE 0 st_A3.1.1 st_A3.1.2.1 st_A3.1.2.2 st_A3.1.1 st_A3.1.2.1 := by
  have v0 := st_in (α := Nat) st_v0
  have v1 := st_in (α := Nat) st_v1
  have v2 := st_in (α := Nat) st_v2
  have v3 := st_in (α := Nat) st_v3
  have v4 := st_in (α := Nat) st_v4
  obtain ⟨w1, w2, w3, w4, w5, w6, w7, w8, w9, w10, w11, w12, w13, w14, w15⟩ := st_v5
  have hT : ∀ q k, st_A3.1.1 q k = 0 → st_A3.1.1 q k = nI 0 := fun _ _ e => e
  refine ⟨fun _ => 0, 0, 0, 0, fun _ => 0, 0, ⟨⟨⟨?_, ?_, ?_, ?_, ?_, ?_, ?_, ?_, ?_, ?_⟩, ⟨?_, ?_, ?_, ?_, ?_, ?_, ?_, ?_, ?_⟩, w1, ?_⟩, ?_, ?_, w3, w4, w5, w6⟩, ⟨by decide, by decide, rfl, ?_, w7, w8, w9, by decide, w10, w11, ?_, ?_⟩, ⟨w12, by decide, ?_⟩, ⟨w13, by decide, ?_⟩, w14, w15, ⟨0, w2, Nat.le_refl _⟩⟩
  · exact fun j hj => (v2 j hj).1
  · exact fun j hj => (v2 j hj).2.1
  · exact fun j hj => (v2 j hj).2.2.1
  · exact fun j hj => (v3 j hj).1
  · exact fun j hj => (v4 j hj).1
  · exact fun j hj => (v4 j hj).2.1
  · exact fun j hj => (v2 j hj).2.2.2.2.2.1
  · exact fun j hj => (v4 j hj).2.2.1
  · exact fun j hj => (v4 j hj).2.2.2.1
  · exact fun j h1 h2 => (v2 j h2).2.2.2.2.2.2 h1
  · exact fun j hj => Or.inr (v4 j hj).2.2.2.2.1
  · exact fun j hj => (v4 j hj).2.2.2.2.2.1
  · exact fun j hj => Or.inr (v4 j hj).2.2.2.2.2.2.1
  · exact fun j hj => Or.inr ⟨(v4 j hj).2.2.2.2.2.2.2.1.1, (v4 j hj).2.2.2.2.2.2.2.1.2.1⟩
  · exact fun j hj => Or.inr ⟨(v4 j hj).2.2.2.2.2.2.2.1.1, (v4 j hj).2.2.2.2.2.2.2.1.2.2⟩
  · exact fun j hj => (v4 j hj).2.2.2.2.2.2.2.2.1
  · exact fun j hj => (v4 j hj).2.2.2.2.2.2.2.2.2
  · exact fun j hj => (v3 j hj).2.1
  · exact fun j hj => (v3 j hj).2.2
  · rw [w2]; exact lN_nn (by decide)
  · exact fun j hj => (v2 j hj).2.2.2.1
  · exact fun j hj => (v2 j hj).2.2.2.2.1
  · exact fun p hp => absurd hp (Nat.not_lt_zero p)
  · exact fun p hp => absurd hp (Nat.not_lt_zero p)
  · intro x hx
    obtain ⟨a1, a2, a3⟩ := v1 x hx
    refine ⟨?_, Or.inl a3⟩
    rw [a3, show 48 * 0 + x = x by omega]
    exact a1
  · exact fun i hi => ⟨(v0 i hi).1, show (0 : Nat) < 256 from by decide⟩
  · exact fun i hi => ⟨(v0 i hi).2, show (0 : Nat) < 256 from by decide⟩
theorem st_rel (xs : Nat → Int32) : RLE 0 (st_I xs) st_A3.1.2.1 st_A3.1.2.2 (st_I xs) st_A3.1.2.1 := by
  have e : ∀ q k, q ≠ 4600 → st_I xs q k = st_A3.1.1 q k := fun q k h => by
    show cond (Nat.beq q 4600) _ _ = _
    rw [beq_f h]; rfl
  exact RLE_keep (fun q k h => e q k (by omega)) (fun _ _ _ => rfl) (fun _ _ _ => rfl) (fun q k h1 h2 _ => e q k (by omega)) (fun _ _ _ _ => rfl) st_rel0
theorem st_l1 (L : Nat) (xs : Nat → Int32) : am_E 179 0 [.ref 4600, .null, .null, .null, .null, .null, .null] [] (am_h0 L xs) = (am_E 72 0 [.ref 1] [] (am_new (am_h0 L xs) 8 4)).bind fun z => am_E 179 3 [.ref 4600, .null, .null, .null, .null, .null, .null] [.ref 1] z.2 := (am_rg [3] 3 _ _ _ _ _).trans rfl
theorem st_l2 (I : Nat → Nat → Int32) (J : Nat → Nat → Int64) (T R : Nat → Nat → Nat) (S : Nat → Nat × Nat) (C : Nat × Nat) : am_E 179 3 [.ref 4600, .null, .null, .null, .null, .null, .null] [.ref 1] ((I, J, T), (R, S, 48), C) = (am_E 94 0 (am_ent [.ref 49] (am_nL 94)) [] (am_new ((I, J, T), (R, S, 48), C) 9 61)).bind fun z => am_E 179 7 [.ref 4600, .ref 1, .null, .null, .null, .null, .null] [.ref 49] z.2 := (am_rg [7] 4 _ _ _ _ _).trans rfl
theorem st_l3 (I : Nat → Nat → Int32) (J : Nat → Nat → Int64) (T R : Nat → Nat → Nat) (S : Nat → Nat × Nat) (C : Nat × Nat) : am_E 179 7 [.ref 4600, .ref 1, .null, .null, .null, .null, .null] [.ref 49] ((I, J, T), (R, S, 91), C) = am_E 179 13 [.ref 4600, .ref 1, .ref 49, .ref 92, .int (nI 0), .null, .null] [] (am_new ((I, J, T), (R, S, 91), C) 22 1) := (am_rg [13] 6 _ _ _ _ _).trans rfl
theorem st_l2' (h : am_H) (hn : h.2.1.2.2 = 48) : am_E 179 3 [.ref 4600, .null, .null, .null, .null, .null, .null] [.ref 1] h = (am_E 94 0 (am_ent [.ref 49] (am_nL 94)) [] (am_new h 9 61)).bind fun z => am_E 179 7 [.ref 4600, .ref 1, .null, .null, .null, .null, .null] [.ref 49] z.2 := by
  obtain ⟨⟨I, J, T⟩, ⟨R, S, n⟩, C⟩ := h
  cases hn
  exact st_l2 I J T R S C
theorem st_l3' (h : am_H) (hn : h.2.1.2.2 = 91) : am_E 179 7 [.ref 4600, .ref 1, .null, .null, .null, .null, .null] [.ref 49] h = am_E 179 13 [.ref 4600, .ref 1, .ref 49, .ref 92, .int (nI 0), .null, .null] [] (am_new h 22 1) := by
  obtain ⟨⟨I, J, T⟩, ⟨R, S, n⟩, C⟩ := h
  cases hn
  exact st_l3 I J T R S C
theorem st_tr {L n m : Nat} {xs : Nat → Int32} {ls ls' : List Value} {h h1 : am_H} {v : Value} (e : am_exQ n m 0 ls [] h = some (v, h1)) (el : ls = ls') : am_E m 0 ls' [] (tw L xs h) = some (v, tw L xs h1) := by
  subst el
  exact am_E_iff.mpr ⟨n, TRex L xs n m 0 ls [] h _ e⟩
theorem st_a3 : am_new st_A2 22 1 = st_A3 := rfl
theorem st_t1 (L : Nat) (xs : Nat → Int32) : am_E 72 0 [.ref 1] [] (am_new (am_h0 L xs) 8 4) = some (.null, tw L xs st_A1) := by
  rw [← st_h0, tw_new (show (0:Nat) + 1 ≤ 1000 by decide)]
  exact st_tr st_e1' rfl
theorem st_t2 (L : Nat) (xs : Nat → Int32) : am_E 94 0 (am_ent [.ref 49] (am_nL 94)) [] (am_new (tw L xs st_A1) 9 61) = some (.null, tw L xs st_A2) := by
  rw [tw_new (by rw [st_n1]; decide)]
  exact st_tr st_e2' rfl
theorem tw_n (L : Nat) (xs : Nat → Int32) (h : am_H) : (tw L xs h).2.1.2.2 = h.2.1.2.2 := rfl
theorem st_m1 (L : Nat) (xs : Nat → Int32) : (tw L xs st_A1).2.1.2.2 = 48 := (tw_n L xs st_A1).trans st_n1
theorem st_m2 (L : Nat) (xs : Nat → Int32) : (tw L xs st_A2).2.1.2.2 = 91 := (tw_n L xs st_A2).trans st_n2
theorem st_t3 (L : Nat) (xs : Nat → Int32) : am_new (tw L xs st_A2) 22 1 = am_W (st_I xs) st_A3.1.2.1 st_A3.1.2.2 L st_A3.2.2 := by
  rw [tw_new (by rw [st_n2]; decide), st_a3, st_W]
theorem st_go (L : Nat) (xs : Nat → Int32) : am_E 179 0 [.ref 4600, .null, .null, .null, .null, .null, .null] [] (am_h0 L xs) = am_E 179 13 [.ref 4600, .ref 1, .ref 49, .ref 92, .int (nI 0), .null, .null] [] (am_W (st_I xs) st_A3.1.2.1 st_A3.1.2.2 L st_A3.2.2) := by
  rw [st_l1, st_t1, am_okb, st_l2' (tw L xs st_A1) (st_m1 L xs), st_t2, am_okb, st_l3' (tw L xs st_A2) (st_m2 L xs), st_t3]
/-- THE LAW ANSWERS TRUE, whatever the script. -/
theorem st_law {L : Nat} (xs : Nat → Int32) (hL : L ≤ 256) : ∃ hf, am_E 179 0 (am_ent [.ref 4600] (am_nL 179)) [] (am_h0 L xs) = some (.int 1, hf) ∧ hf.2.2.1 ≤ 230 ∧ hf.2.2.2 ≤ 6413 := by
  obtain ⟨I2, J2, T2, C2, a1, a2, a3⟩ := law_loop (L := L) (by omega) 64 0 0 st_A3.2.2 (st_I xs) st_A3.1.2.1 st_A3.1.2.2 .null .null (by omega) (Nat.zero_le _) (by decide) (st_rel xs)
  obtain ⟨c1, c2⟩ := st_c
  refine ⟨_, (st_go L xs).trans a1, ?_, ?_⟩
  · show C2.1 ≤ 230
    omega
  · show C2.2 ≤ 6413
    omega

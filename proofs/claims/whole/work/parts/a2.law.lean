/-! ONE TURN OF THE LAW. -/
theorem one_call {B B' L : Nat} {C : Nat × Nat} {I : Nat → Nat → Int32} {J : Nat → Nat → Int64} {T : Nat → Nat → Nat} {cl : am_R} {mo : (Nat → Nat → Int32) → (Nat → Nat → Int64) → (Nat → Nat → Nat) → Nat → Nat × Nat → am_R} {P : Value → Value → Prop} (H : ∀ (I' : Nat → Nat → Int32) (J' : Nat → Nat → Int64) (Tm : Nat → Nat → Nat) (Lm : Nat) (Cm : Nat × Nat), RLE B I J T I' J' → CALL B' L C Lm Cm Tm I J T I' J' cl (mo I' J' Tm Lm Cm) P) (h : RLE B I J T I J) : ∃ v I1 J1 T1, cl = some (v, am_W I1 J1 T1 L C) ∧ (∀ k, I1 4600 k = I 4600 k) ∧ ∀ Jx : Nat → Nat → Int64, (∀ q k, q ≠ 92 → Jx q k = J1 q k) → ∃ w I2 J2, mo I1 Jx T1 L C = some (w, am_W I2 J2 T1 L C) ∧ P v w ∧ RLE B' I2 J2 T1 I2 J2 ∧ I2 49 0 = 0 ∧ (∀ k, I2 4600 k = I 4600 k) ∧ (∀ k, J2 92 k = Jx 92 k) := by
  obtain ⟨v, w, I1, J1, T1, I2, J2, a1, a2, a3, a4, a5, a6, a7, a8, a9⟩ := H I J T L C h
  refine ⟨v, I1, J1, T1, a1, fun k => a6 4600 k (by decide), fun Jx hx => ?_⟩
  have hr : RLE B I J T I1 Jx := RLE_keep (fun _ _ _ => rfl) (fun _ _ _ => rfl) (fun _ _ _ => rfl) (fun q k e _ _ => a6 q k e) (fun q k e e2 => (hx q k (by omega)).trans (a7 q k e)) h
  obtain ⟨v', w', I1', J1', T1', I2', J2', b1, b2, b3, b4, b5, b6, b7, b8, b9⟩ := H I1 Jx T1 L C hr
  have e := a1.symm.trans b1
  simp only [Option.some.injEq, Prod.mk.injEq] at e
  obtain ⟨rfl, ⟨rfl, rfl, rfl⟩, _⟩ := e
  refine ⟨w', I2', J2', b2, b3, ?_, b5, fun k => (b8 4600 k (by decide)).trans (a6 4600 k (by decide)), fun k => b9 92 k (by decide)⟩
  exact RLE_keep (fun q k e => b8 q k (Or.inl e)) (fun q k e => (b9 q k (Or.inl e)).trans (hx q k (by omega))) (fun _ _ _ => rfl) (fun _ _ _ _ _ => rfl) (fun _ _ _ _ => rfl) b4
theorem RLE_th1 {B : Nat} {I : Nat → Nat → Int32} {J : Nat → Nat → Int64} {T : Nat → Nat → Nat} (v : Int32) (h : RLE B I J T I J) : RLE (B + 100000000) (am_up I 49 0 v) J T (am_up I 49 0 v) J := RLE_up (by omega) (RLE_keep (fun q k e => am_up_ne (by omega)) (fun _ _ _ => rfl) (fun _ _ _ => rfl) (fun q k _ _ e => am_up_ne e) (fun _ _ _ _ => rfl) h)
theorem mo_thr (I : Nat → Nat → Int32) (J : Nat → Nat → Int64) (T : Nat → Nat → Nat) (L : Nat) (C : Nat × Nat) {x : Int32} (h : I 49 0 = x) : am_E 95 0 [.ref 49] [] (am_W I J T L C) = some (.int x, (am_W I J T L C)) := by rw [rg_95_0, h]
theorem ao_1 (L : Nat) (C : Nat × Nat) (I : Nat → Nat → Int32) (J : Nat → Nat → Int64) (T : Nat → Nat → Nat) (as : List Value) (v : Value) (k : am_H → am_R) : am_out 1 as v (am_W I J T L C) k = k (am_W I J T L C) := rfl
theorem ao_0 (L : Nat) (C : Nat × Nat) (I : Nat → Nat → Int32) (J : Nat → Nat → Int64) (T : Nat → Nat → Nat) (n m : Int32) (y : Int64) (x : Int32) (k : am_H → am_R) : am_out 0 [.ref 1, .int n, .long y, .ref 92] (.int x) (am_W I J T L C) k = k (am_W I (am_up J 92 0 x.toInt64) T L C) := rfl
theorem ao_2 (L : Nat) (C : Nat × Nat) (I : Nat → Nat → Int32) (J : Nat → Nat → Int64) (T : Nat → Nat → Nat) (n m : Int32) (y : Int64) (x : Int32) (k : am_H → am_R) : am_out 2 [.ref 1, .int n, .ref 92] (.int x) (am_W I J T L C) k = k (am_W I (am_up J 92 0 x.toInt64) T L C) := rfl
theorem ao_3 (L : Nat) (C : Nat × Nat) (I : Nat → Nat → Int32) (J : Nat → Nat → Int64) (T : Nat → Nat → Nat) (n m : Int32) (y : Int64) (x : Int32) (k : am_H → am_R) : am_out 3 [.ref 1, .int n, .int m, .ref 92] (.int x) (am_W I J T L C) k = k (am_W I (am_up J 92 0 x.toInt64) T L C) := rfl
theorem ao_5 (L : Nat) (C : Nat × Nat) (I : Nat → Nat → Int32) (J : Nat → Nat → Int64) (T : Nat → Nat → Nat) (n m : Int32) (y : Int64) (x : Int32) (k : am_H → am_R) : am_out 5 [.ref 1, .int n, .ref 92] (.int x) (am_W I J T L C) k = k (am_W I (am_up J 92 0 x.toInt64) T L C) := rfl
theorem ao_6 (L : Nat) (C : Nat × Nat) (I : Nat → Nat → Int32) (J : Nat → Nat → Int64) (T : Nat → Nat → Nat) (n m : Int32) (y : Int64) (x : Int32) (k : am_H → am_R) : am_out 6 [.ref 1, .int n, .ref 92] (.int x) (am_W I J T L C) k = k (am_W I (am_up J 92 0 x.toInt64) T L C) := rfl
theorem ao_7 (L : Nat) (C : Nat × Nat) (I : Nat → Nat → Int32) (J : Nat → Nat → Int64) (T : Nat → Nat → Nat) (n m : Int32) (y : Int64) (x : Int32) (k : am_H → am_R) : am_out 7 [.ref 1, .int n, .int m, .ref 92] (.int x) (am_W I J T L C) k = k (am_W I (am_up J 92 0 x.toInt64) T L C) := rfl
theorem ao_4 (L : Nat) (C : Nat × Nat) (I : Nat → Nat → Int32) (J : Nat → Nat → Int64) (T : Nat → Nat → Nat) (n : Int32) (b : Bool) (k : am_H → am_R) : am_out 4 [.ref 1, .int n, .ref 92] (.int (am_b01 b)) (am_W I J T L C) k = k (am_W I (am_up J 92 0 (if b = true then 1 else 0)) T L C) := by
  cases b <;> rfl
theorem cmp_self (y : Int64) : lg_cmp y y = 0 := (lg_cmp_eq y y).mpr rfl
theorem in_rng {x : Int32} {M : Nat} (hM : M < 2 ^ 31) (h0 : ¬ x < 0) (h1 : ¬ nI M < x) : ∃ j, j ≤ M ∧ x = nI j := by
  obtain ⟨j, j1, j2⟩ := nI_of h0
  refine ⟨j, ?_, j2⟩
  rw [j2] at h1
  rcases Nat.lt_or_ge M j with c | c
  · exact absurd (nI_lt c j1) h1
  · exact c
theorem in_rng2 {x : Int32} {M : Nat} (hM : M < 2 ^ 31) (h0 : ¬ x < 0) (h1 : ¬ nI M ≤ x) : ∃ j, j < M ∧ x = nI j := by
  obtain ⟨j, j1, j2⟩ := nI_of h0
  refine ⟨j, ?_, j2⟩
  rw [j2] at h1
  rcases Nat.lt_or_ge j M with c | c
  · exact c
  · exact absurd (nI_le c j1) h1
theorem RLE_b {B : Nat} {I : Nat → Nat → Int32} {J : Nat → Nat → Int64} {T : Nat → Nat → Nat} (h : RLE B I J T I J) : RLE (B + 100000000) I J T I J := RLE_up (by omega) h
theorem up92 {J : Nat → Nat → Int64} {v : Int64} : ∀ q k, q ≠ 92 → am_up J 92 0 v q k = J q k := fun q k e => am_up_ne (fun c => e c.1)
theorem lt_wipe {B L m : Nat} {C : Nat × Nat} {I : Nat → Nat → Int32} {J : Nat → Nat → Int64} {T : Nat → Nat → Nat} (v5 v6 : Value) (h : RLE B I J T I J) : ∃ v5' v6' I2 J2 T2 C2, am_E 179 94 [.ref 4600, .ref 1, .ref 49, .ref 92, .int (nI m), v5, v6] [] (am_W I J T L C) = am_E 179 422 [.ref 4600, .ref 1, .ref 49, .ref 92, .int (nI m), v5', v6'] [] (am_W I2 J2 T2 L C2) ∧ RLE (B + 100000000) I2 J2 T2 I2 J2 ∧ (∀ k, I2 4600 k = I 4600 k) ∧ C2.1 ≤ C.1 + 2 ∧ C2.2 ≤ C.2 + 16 := by
  obtain ⟨v, I1, J1, T1, a1, a2, a3⟩ := one_call (C := C) (L := L) (mo := fun I' J' Tm Lm Cm => am_E 97 0 [.ref 49, .null] [] (am_W I' J' Tm Lm Cm)) (fun I' J' Tm Lm Cm r => ca_wipe r) h
  obtain ⟨w, I2, J2, b1, ⟨x, rfl, rfl⟩, b3, b4, b5, b6⟩ := a3 J1 (fun _ _ _ => rfl)
  refine ⟨v5, v6, I2, J2, T1, C, ?_, RLE_b b3, b5, by omega, by omega⟩
  rw [rg_179_94, a1, am_okb, am_vIi, rg_179_96, b1, am_okb, am_vIi, rg_179_98, if_pos rfl]
theorem lt_fault {B L m : Nat} {C : Nat × Nat} {I : Nat → Nat → Int32} {J : Nat → Nat → Int64} {T : Nat → Nat → Nat} (v5 v6 : Value) (h : RLE B I J T I J) : ∃ v5' v6' I2 J2 T2 C2, am_E 179 108 [.ref 4600, .ref 1, .ref 49, .ref 92, .int (nI m), v5, v6] [] (am_W I J T L C) = am_E 179 422 [.ref 4600, .ref 1, .ref 49, .ref 92, .int (nI m), v5', v6'] [] (am_W I2 J2 T2 L C2) ∧ RLE (B + 100000000) I2 J2 T2 I2 J2 ∧ (∀ k, I2 4600 k = I 4600 k) ∧ C2.1 ≤ C.1 + 2 ∧ C2.2 ≤ C.2 + 16 := by
  obtain ⟨v, I1, J1, T1, a1, a2, a3⟩ := one_call (C := C) (L := L) (mo := fun I' J' Tm Lm Cm => am_E 130 0 [.ref 49] [] (am_W I' J' Tm Lm Cm)) (fun I' J' Tm Lm Cm r => ca_fault r) h
  obtain ⟨w, I2, J2, b1, ⟨x, rfl, rfl⟩, b3, b4, b5, b6⟩ := a3 J1 (fun _ _ _ => rfl)
  refine ⟨v5, v6, I2, J2, T1, C, ?_, RLE_b b3, b5, by omega, by omega⟩
  rw [rg_179_108, a1, am_okb, am_vIi, rg_179_110, b1, am_okb, am_vIi, rg_179_112, if_pos rfl]
theorem lt_place {B L m : Nat} {C : Nat × Nat} {I : Nat → Nat → Int32} {J : Nat → Nat → Int64} {T : Nat → Nat → Nat} (v5 v6 : Value) (h : RLE B I J T I J) : ∃ v5' v6' I2 J2 T2 C2, am_E 179 115 [.ref 4600, .ref 1, .ref 49, .ref 92, .int (nI m), v5, v6] [] (am_W I J T L C) = am_E 179 422 [.ref 4600, .ref 1, .ref 49, .ref 92, .int (nI m), v5', v6'] [] (am_W I2 J2 T2 L C2) ∧ RLE (B + 100000000) I2 J2 T2 I2 J2 ∧ (∀ k, I2 4600 k = I 4600 k) ∧ C2.1 ≤ C.1 + 2 ∧ C2.2 ≤ C.2 + 16 := by
  obtain ⟨v, I1, J1, T1, a1, a2, a3⟩ := one_call (C := C) (L := L) (mo := fun I' J' Tm Lm Cm => am_E 131 0 [.ref 49] [] (am_W I' J' Tm Lm Cm)) (fun I' J' Tm Lm Cm r => ca_place r) h
  obtain ⟨w, I2, J2, b1, ⟨x, rfl, rfl⟩, b3, b4, b5, b6⟩ := a3 J1 (fun _ _ _ => rfl)
  refine ⟨v5, v6, I2, J2, T1, C, ?_, RLE_b b3, b5, by omega, by omega⟩
  rw [rg_179_115, a1, am_okb, am_vIi, rg_179_117, b1, am_okb, am_vIi, rg_179_119, if_pos rfl]
theorem lt_done {B L m : Nat} {C : Nat × Nat} {I : Nat → Nat → Int32} {J : Nat → Nat → Int64} {T : Nat → Nat → Nat} (v5 v6 : Value) (h : RLE B I J T I J) : ∃ v5' v6' I2 J2 T2 C2, am_E 179 400 [.ref 4600, .ref 1, .ref 49, .ref 92, .int (nI m), v5, v6] [] (am_W I J T L C) = am_E 179 422 [.ref 4600, .ref 1, .ref 49, .ref 92, .int (nI m), v5', v6'] [] (am_W I2 J2 T2 L C2) ∧ RLE (B + 100000000) I2 J2 T2 I2 J2 ∧ (∀ k, I2 4600 k = I 4600 k) ∧ C2.1 ≤ C.1 + 2 ∧ C2.2 ≤ C.2 + 16 := by
  obtain ⟨v, I1, J1, T1, a1, a2, a3⟩ := one_call (C := C) (L := L) (mo := fun I' J' Tm Lm Cm => am_E 158 0 [.ref 49] [] (am_W I' J' Tm Lm Cm)) (fun I' J' Tm Lm Cm r => ca_done r) h
  obtain ⟨w, I2, J2, b1, ⟨x, rfl, rfl⟩, b3, b4, b5, b6⟩ := a3 J1 (fun _ _ _ => rfl)
  refine ⟨v5, v6, I2, J2, T1, C, ?_, RLE_b b3, b5, by omega, by omega⟩
  rw [rg_179_400, a1, am_okb, am_vIi, rg_179_402, b1, am_okb, am_vIi, rg_179_404, if_pos rfl]
theorem lt_fired {B L m : Nat} {C : Nat × Nat} {I : Nat → Nat → Int32} {J : Nat → Nat → Int64} {T : Nat → Nat → Nat} (v5 v6 : Value) (h : RLE B I J T I J) : ∃ v5' v6' I2 J2 T2 C2, am_E 179 407 [.ref 4600, .ref 1, .ref 49, .ref 92, .int (nI m), v5, v6] [] (am_W I J T L C) = am_E 179 422 [.ref 4600, .ref 1, .ref 49, .ref 92, .int (nI m), v5', v6'] [] (am_W I2 J2 T2 L C2) ∧ RLE (B + 100000000) I2 J2 T2 I2 J2 ∧ (∀ k, I2 4600 k = I 4600 k) ∧ C2.1 ≤ C.1 + 2 ∧ C2.2 ≤ C.2 + 16 := by
  obtain ⟨v, I1, J1, T1, a1, a2, a3⟩ := one_call (C := C) (L := L) (mo := fun I' J' Tm Lm Cm => am_E 159 0 [.ref 49] [] (am_W I' J' Tm Lm Cm)) (fun I' J' Tm Lm Cm r => ca_fired r) h
  obtain ⟨w, I2, J2, b1, ⟨x, rfl, rfl⟩, b3, b4, b5, b6⟩ := a3 J1 (fun _ _ _ => rfl)
  refine ⟨v5, v6, I2, J2, T1, C, ?_, RLE_b b3, b5, by omega, by omega⟩
  rw [rg_179_407, a1, am_okb, am_vIi, rg_179_409, b1, am_okb, am_vIi, rg_179_411, if_pos rfl]
theorem lt_time {B L m : Nat} {C : Nat × Nat} {I : Nat → Nat → Int32} {J : Nat → Nat → Int64} {T : Nat → Nat → Nat} (v5 v6 : Value) (h : RLE B I J T I J) : ∃ v5' v6' I2 J2 T2 C2, am_E 179 414 [.ref 4600, .ref 1, .ref 49, .ref 92, .int (nI m), v5, v6] [] (am_W I J T L C) = am_E 179 422 [.ref 4600, .ref 1, .ref 49, .ref 92, .int (nI m), v5', v6'] [] (am_W I2 J2 T2 L C2) ∧ RLE (B + 100000000) I2 J2 T2 I2 J2 ∧ (∀ k, I2 4600 k = I 4600 k) ∧ C2.1 ≤ C.1 + 2 ∧ C2.2 ≤ C.2 + 16 := by
  obtain ⟨v, I1, J1, T1, a1, a2, a3⟩ := one_call (C := C) (L := L) (mo := fun I' J' Tm Lm Cm => am_E 160 0 [.ref 49] [] (am_W I' J' Tm Lm Cm)) (fun I' J' Tm Lm Cm r => ca_time r) h
  obtain ⟨w, I2, J2, b1, ⟨x, rfl, rfl⟩, b3, b4, b5, b6⟩ := a3 J1 (fun _ _ _ => rfl)
  refine ⟨v5, v6, I2, J2, T1, C, ?_, RLE_b b3, b5, by omega, by omega⟩
  rw [rg_179_414, a1, am_okb, am_vJl, rg_179_416, b1, am_okb, am_vJl, rg_179_418, if_pos (cmp_self _)]
theorem lt_reset {B L m : Nat} {C : Nat × Nat} {I : Nat → Nat → Int32} {J : Nat → Nat → Int64} {T : Nat → Nat → Nat} (v5 v6 : Value) (h : RLE B I J T I J) : ∃ v5' v6' I2 J2 T2 C2, am_E 179 122 [.ref 4600, .ref 1, .ref 49, .ref 92, .int (nI m), v5, v6] [] (am_W I J T L C) = am_E 179 422 [.ref 4600, .ref 1, .ref 49, .ref 92, .int (nI m), v5', v6'] [] (am_W I2 J2 T2 L C2) ∧ RLE (B + 100000000) I2 J2 T2 I2 J2 ∧ (∀ k, I2 4600 k = I 4600 k) ∧ C2.1 ≤ C.1 + 2 ∧ C2.2 ≤ C.2 + 16 := by
  obtain ⟨v, I1, J1, T1, a1, a2, a3⟩ := one_call (C := C) (L := L) (mo := fun I' J' Tm Lm Cm => am_E 133 0 [.ref 49] [] (am_W I' J' Tm Lm Cm)) (fun I' J' Tm Lm Cm r => ca_reset r) h
  obtain ⟨w, I2, J2, b1, ⟨rfl, rfl⟩, b3, b4, b5, b6⟩ := a3 J1 (fun _ _ _ => rfl)
  refine ⟨v5, v6, I2, J2, T1, C, ?_, RLE_b b3, b5, by omega, by omega⟩
  rw [rg_179_122, a1, am_okb, rg_179_124, b1, am_okb, rg_179_126]
theorem le31 {n : Int32} (h : 32 ≤ n) : ¬ n ≤ 31 := fun e => absurd (Int32.le_trans h e) (by decide)
theorem le7 {n : Int32} (h : 8 ≤ n) : ¬ n ≤ 7 := fun e => absurd (Int32.le_trans h e) (by decide)
theorem rf_feed (I : Nat → Nat → Int32) (J : Nat → Nat → Int64) (T : Nat → Nat → Nat) (L : Nat) (C : Nat × Nat) {n : Int32} {y : Int64} (h : n < 1 ∨ 8 < n) : am_E 96 0 [.ref 49, .int n, .long y, .null, .null] [] (am_W I J T L C) = some (.int 0, am_W (am_up I 49 0 1) J T L C) := by
  have r : am_E 96 0 [.ref 49, .int n, .long y, .null, .null] [] (am_W I J T L C) = am_E 96 7 [.ref 49, .int n, .long y, .null, .null] [.ref 49] (am_W I J T L C) := by
    rw [rg_96_0]
    by_cases c : n < 1
    · rw [if_pos c]
    · rw [if_neg c, if_neg (Int32.not_le.mpr (h.resolve_left c))]
  rw [r, rg_96_7, rg_96_10, if_neg (by decide)]
theorem rf_input (I : Nat → Nat → Int32) (J : Nat → Nat → Int64) (T : Nat → Nat → Nat) (L : Nat) (C : Nat × Nat) {n b : Int32} (h : n < 0 ∨ 32 ≤ n) : am_E 153 0 [.ref 49, .int n, .int b] [] (am_W I J T L C) = some (.null, am_W (am_up I 49 0 1) J T L C) := by
  rw [rg_153_0, np_out I J T L C (m := 31) (h.imp id le31), am_okb, am_vIi, rg_153_4, if_neg (by decide), rg_153_8, if_neg (by decide)]
theorem rf_scan (I : Nat → Nat → Int32) (J : Nat → Nat → Int64) (T : Nat → Nat → Nat) (L : Nat) (C : Nat × Nat) {n : Int32} (h : n < 0 ∨ 1000000 < n) : am_E 150 0 [.ref 49, .int n] [] (am_W I J T L C) = some (.int 0, am_W (am_up I 49 0 1) J T L C) := by
  have r : am_E 150 0 [.ref 49, .int n] [] (am_W I J T L C) = am_E 150 6 [.ref 49, .int n] [.ref 49] (am_W I J T L C) := by
    rw [rg_150_0]
    by_cases c : n < 0
    · rw [if_pos c]
    · rw [if_neg c, if_neg (Int32.not_le.mpr (h.resolve_left c))]
  rw [r, rg_150_6, rg_150_9, if_neg (by decide), rg_150_18]
theorem rf_run (I : Nat → Nat → Int32) (J : Nat → Nat → Int64) (T : Nat → Nat → Nat) (L : Nat) (C : Nat × Nat) {n k : Int32} (h : n < 0 ∨ 100 < n ∨ k < 0 ∨ 1000000 < k) : am_E 151 0 [.ref 49, .int n, .int k, .null, .null] [] (am_W I J T L C) = some (.int 0, am_W (am_up I 49 0 1) J T L C) := by
  have r : am_E 151 0 [.ref 49, .int n, .int k, .null, .null] [] (am_W I J T L C) = am_E 151 11 [.ref 49, .int n, .int k, .null, .null] [.ref 49] (am_W I J T L C) := by
    rw [rg_151_0]
    by_cases c : n < 0
    · rw [if_pos c]
    · by_cases c2 : 100 < n
      · rw [if_neg c, if_pos c2]
      · by_cases c3 : k < 0
        · rw [if_neg c, if_neg c2, if_pos c3]
        · rw [if_neg c, if_neg c2, if_neg c3, if_neg (Int32.not_le.mpr (((h.resolve_left c).resolve_left c2).resolve_left c3))]
  rw [r, rg_151_11, rg_151_14, if_neg (by decide), rg_151_24, if_pos rfl]
theorem rf_output (I : Nat → Nat → Int32) (J : Nat → Nat → Int64) (T : Nat → Nat → Nat) (L : Nat) (C : Nat × Nat) {n : Int32} (h : n < 0 ∨ 32 ≤ n) : am_E 154 0 [.ref 49, .int n] [] (am_W I J T L C) = some (.int 0, am_W (am_up I 49 0 1) J T L C) := by
  rw [rg_154_0, np_out I J T L C (m := 31) (h.imp id le31), am_okb, am_vIi, rg_154_4, if_neg (by decide), rg_154_8, if_neg (by decide)]
theorem rf_bits (I : Nat → Nat → Int32) (J : Nat → Nat → Int64) (T : Nat → Nat → Nat) (L : Nat) (C : Nat × Nat) {n : Int32} (h : n < 0 ∨ 4 < n) : am_E 155 0 [.ref 49, .int n, .null, .null, .null] [] (am_W I J T L C) = some (.int 0, am_W (am_up I 49 0 1) J T L C) := by
  rw [rg_155_0, np_out I J T L C (m := 4) (h.imp id Int32.not_le.mpr), am_okb, am_vIi, rg_155_4, if_neg (by decide), rg_155_8, rg_155_13, if_neg (by decide), if_neg (show ¬ am_up I 49 0 1 49 0 = 0 by rw [am_up_here]; decide)]
theorem rf_word (I : Nat → Nat → Int32) (J : Nat → Nat → Int64) (T : Nat → Nat → Nat) (L : Nat) (C : Nat × Nat) {n : Int32} (h : n < 0 ∨ 32 ≤ n) : am_E 156 0 [.ref 49, .int n] [] (am_W I J T L C) = some (.int 0, am_W (am_up I 49 0 1) J T L C) := by
  rw [rg_156_0, np_out I J T L C (m := 31) (h.imp id le31), am_okb, am_vIi, rg_156_4, if_neg (by decide), rg_156_8, if_neg (by decide)]
theorem rf_block1 (I : Nat → Nat → Int32) (J : Nat → Nat → Int64) (T : Nat → Nat → Nat) (L : Nat) (C : Nat × Nat) {n k : Int32} (h : n < 0 ∨ 8 ≤ n) : am_E 157 0 [.ref 49, .int n, .int k] [] (am_W I J T L C) = some (.int 0, am_W (am_up I 49 0 1) J T L C) := by
  rw [rg_157_0, np_out I J T L C (m := 7) (h.imp id le7), am_okb, am_vIi, rg_157_4, if_neg (by decide), rg_157_14, if_neg (by decide)]
theorem rf_block2 (I : Nat → Nat → Int32) (J : Nat → Nat → Int64) (T : Nat → Nat → Nat) (L : Nat) (C : Nat × Nat) {j : Nat} {k : Int32} (hj : j < 8) (h : k < 0 ∨ 3 < k) : am_E 157 0 [.ref 49, .int (nI j), .int k] [] (am_W I J T L C) = some (.int 0, am_W (am_up I 49 0 2) J T L C) := by
  rw [rg_157_0]
  show Option.bind (am_E 152 0 [.int (nI j), .int (nI 7)] [] _) _ = _
  rw [np_in I J T L C (by omega) (by decide), am_okb, am_vIi, rg_157_4, if_pos rfl, np_out I J T L C (m := 3) (h.imp id Int32.not_le.mpr), am_okb, am_vIi, rg_157_10, if_neg (by decide), rg_157_14, if_neg (by decide)]

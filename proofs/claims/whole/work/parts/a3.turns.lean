/-! THE TURNS OF THE LAW WITH A CATCH; load. -/
theorem i0_ok (r : am_R) : am_inb 0 1 r = r := am_inb_ok (j := 0) (n := 1) (by decide) (by decide) r
theorem lt_feed {B L m : Nat} {C : Nat × Nat} {I : Nat → Nat → Int32} {J : Nat → Nat → Int64} {T : Nat → Nat → Nat} (v5 v6 : Value) (h : RLE B I J T I J) (hm : m + 3 < L) (hL : L < 2 ^ 31) : ∃ v5' v6' I2 J2 T2 C2, am_E 179 25 [.ref 4600, .ref 1, .ref 49, .ref 92, .int (nI m), v5, v6] [] (am_W I J T L C) = am_E 179 422 [.ref 4600, .ref 1, .ref 49, .ref 92, .int (nI m), v5', v6'] [] (am_W I2 J2 T2 L C2) ∧ RLE (B + 100000000) I2 J2 T2 I2 J2 ∧ (∀ k, I2 4600 k = I 4600 k) ∧ C2.1 ≤ C.1 + 2 ∧ C2.2 ≤ C.2 + 16 := by
  have x1 : nI m + 1 = nI (m + 1) := nI_1 m
  have x2 : nI m + 2 = nI (m + 2) := nI_add m 2
  have x3 : nI m + 3 = nI (m + 3) := nI_add m 3
  have c1 : Int32.toNatClampNeg (nI (m + 1)) = m + 1 := nI_clamp (by omega)
  have c2 : Int32.toNatClampNeg (nI (m + 2)) = m + 2 := nI_clamp (by omega)
  have c3 : Int32.toNatClampNeg (nI (m + 3)) = m + 3 := nI_clamp (by omega)
  have i1 : ∀ r, am_inb (nI (m + 1)) L r = r := fun r => am_inb_ok (by omega) hL r
  have i2 : ∀ r, am_inb (nI (m + 2)) L r = r := fun r => am_inb_ok (by omega) hL r
  have i3 : ∀ r, am_inb (nI (m + 3)) L r = r := fun r => am_inb_ok (by omega) hL r
  have e0 := rg_179_25 I J T L C (nI m) v5 v6
  rw [x1, x2, x3, i1, i2, i3, c1, c2, c3] at e0
  have em : ∀ (I1 : Nat → Nat → Int32) (J1 : Nat → Nat → Int64) (T1 : Nat → Nat → Nat) (C1 : Nat × Nat) (z : Int32), (∀ k, I1 4600 k = I 4600 k) → am_E 179 50 [.ref 4600, .ref 1, .ref 49, .ref 92, .int (nI m), v5, v6] [.int z] (am_W I1 J1 T1 L C1) = Option.bind (am_E 96 0 [.ref 49, .int (I 4600 (m + 1)), .long (((Int32.toInt64 (I 4600 (m + 2))) <<< (Int32.toInt64 32 &&& 63)) ||| ((Int32.toInt64 (I 4600 (m + 3))) &&& 4294967295)), .null, .null] [] (am_W I1 J1 T1 L C1)) (fun z1 => am_vI z1.1 fun u1 => am_E 179 75 [.ref 4600, .ref 1, .ref 49, .ref 92, .int (nI m), .int z, v6] [.int u1] z1.2) := by
    intro I1 J1 T1 C1 z hI
    rw [rg_179_50, x1, x2, x3, i1, i2, i3, c1, c2, c3, hI, hI, hI]
  by_cases g1 : I 4600 (m + 1) < 1
  · rw [if_pos g1] at e0
    refine ⟨.int 1, .int 0, am_up I 49 0 1, J, T, (C.1 + 2, C.2 + 16), ?_, RLE_th1 1 h, fun k => am_up_ne (by omega), by show C.1 + 2 ≤ _; omega, by show C.2 + 16 ≤ _; omega⟩
    rw [e0, em I J T _ 1 (fun _ => rfl), rf_feed _ _ _ _ _ (Or.inl g1), am_okb, am_vIi, rg_179_75, mo_thr _ _ _ _ _ (am_up_here _ _ _ _), am_okb, am_vIi, rg_179_78, if_pos rfl, if_neg (by decide)]
  · rw [if_neg g1] at e0
    by_cases g2 : 8 < I 4600 (m + 1)
    · rw [if_pos g2] at e0
      refine ⟨.int 1, .int 0, am_up I 49 0 1, J, T, (C.1 + 2, C.2 + 16), ?_, RLE_th1 1 h, fun k => am_up_ne (by omega), by show C.1 + 2 ≤ _; omega, by show C.2 + 16 ≤ _; omega⟩
      rw [e0, em I J T _ 1 (fun _ => rfl), rf_feed _ _ _ _ _ (Or.inr g2), am_okb, am_vIi, rg_179_75, mo_thr _ _ _ _ _ (am_up_here _ _ _ _), am_okb, am_vIi, rg_179_78, if_pos rfl, if_neg (by decide)]
    · rw [if_neg g2] at e0
      obtain ⟨j, j1, j2⟩ := in_rng (M := 8) (by decide) (fun q => g1 (Int32.lt_trans q (by decide))) g2
      rw [j2] at e0 em g1
      have j3 : 1 ≤ j := by
        rcases Nat.lt_or_ge j 1 with c | c
        · exact absurd (nI_lt (a := j) (b := 1) c (by decide)) g1
        · exact c
      obtain ⟨v, I1, J1, T1, a1, a2, a3⟩ := one_call (C := C) (L := L) (cl := am_E 73 0 [.ref 1, .int (nI j), .long (((Int32.toInt64 (I 4600 (m + 2))) <<< (Int32.toInt64 32 &&& 63)) ||| ((Int32.toInt64 (I 4600 (m + 3))) &&& 4294967295)), .null] [] (am_W I J T L C)) (mo := fun I' J' Tm Lm Cm => am_E 96 0 [.ref 49, .int (nI j), .long (((Int32.toInt64 (I 4600 (m + 2))) <<< (Int32.toInt64 32 &&& 63)) ||| ((Int32.toInt64 (I 4600 (m + 3))) &&& 4294967295)), .null, .null] [] (am_W I' J' Tm Lm Cm)) (fun I' J' Tm Lm Cm r => ca_feed j3 j1 r) h
      obtain ⟨w0, _, _, _, ⟨x, rfl, rfl⟩, _⟩ := a3 J1 (fun _ _ _ => rfl)
      obtain ⟨w, I2, J2, b1, ⟨x', hx, rfl⟩, b3, b4, b5, b6⟩ := a3 (am_up J1 92 0 x.toInt64) up92
      have hx2 : x = x' := Value.int.inj hx
      subst hx2
      have e92 : J2 92 (Int32.toNatClampNeg 0) = x.toInt64 := (b6 _).trans (am_up_here _ _ _ _)
      refine ⟨.int 0, .int x, I2, J2, T1, C, ?_, RLE_up (by omega) b3, b5, by omega, by omega⟩
      rw [e0, a1, am_okb, ao_0 L C I1 J1 T1 (nI j) 0 _ x, em I1 _ T1 C 0 a2, b1, am_okb, am_vIi, rg_179_75, mo_thr _ _ _ _ _ b4, am_okb, am_vIi, rg_179_78, if_pos rfl, if_pos rfl, i0_ok, e92, if_pos (cmp_self _)]
theorem lt_scan {B L m : Nat} {C : Nat × Nat} {I : Nat → Nat → Int32} {J : Nat → Nat → Int64} {T : Nat → Nat → Nat} (v5 v6 : Value) (h : RLE B I J T I J) (hm : m + 3 < L) (hL : L < 2 ^ 31) (hb : B + 1000000 < 2 ^ 62) : ∃ v5' v6' I2 J2 T2 C2, am_E 179 167 [.ref 4600, .ref 1, .ref 49, .ref 92, .int (nI m), v5, v6] [] (am_W I J T L C) = am_E 179 422 [.ref 4600, .ref 1, .ref 49, .ref 92, .int (nI m), v5', v6'] [] (am_W I2 J2 T2 L C2) ∧ RLE (B + 100000000) I2 J2 T2 I2 J2 ∧ (∀ k, I2 4600 k = I 4600 k) ∧ C2.1 ≤ C.1 + 2 ∧ C2.2 ≤ C.2 + 16 := by
  have x1 : nI m + 1 = nI (m + 1) := nI_1 m
  have x2 : nI m + 2 = nI (m + 2) := nI_add m 2
  have x3 : nI m + 3 = nI (m + 3) := nI_add m 3
  have c1 : Int32.toNatClampNeg (nI (m + 1)) = m + 1 := nI_clamp (by omega)
  have c2 : Int32.toNatClampNeg (nI (m + 2)) = m + 2 := nI_clamp (by omega)
  have c3 : Int32.toNatClampNeg (nI (m + 3)) = m + 3 := nI_clamp (by omega)
  have i1 : ∀ r, am_inb (nI (m + 1)) L r = r := fun r => am_inb_ok (by omega) hL r
  have i2 : ∀ r, am_inb (nI (m + 2)) L r = r := fun r => am_inb_ok (by omega) hL r
  have i3 : ∀ r, am_inb (nI (m + 3)) L r = r := fun r => am_inb_ok (by omega) hL r
  have e0 := rg_179_167 I J T L C (nI m) v5 v6
  rw [x1, i1, c1] at e0
  have em : ∀ (I1 : Nat → Nat → Int32) (J1 : Nat → Nat → Int64) (T1 : Nat → Nat → Nat) (C1 : Nat × Nat) (z : Int32), (∀ k, I1 4600 k = I 4600 k) → am_E 179 175 [.ref 4600, .ref 1, .ref 49, .ref 92, .int (nI m), v5, v6] [.int z] (am_W I1 J1 T1 L C1) = Option.bind (am_E 150 0 [.ref 49, .int (I 4600 (m + 1))] [] (am_W I1 J1 T1 L C1)) (fun z1 => am_vI z1.1 fun u1 => am_E 179 183 [.ref 4600, .ref 1, .ref 49, .ref 92, .int (nI m), .int z, v6] [.int u1] z1.2) := by
    intro I1 J1 T1 C1 z hI
    rw [rg_179_175, x1, i1, c1, hI]
  by_cases g1 : I 4600 (m + 1) < 0
  · rw [if_pos g1] at e0
    refine ⟨.int 1, .int 0, am_up I 49 0 1, J, T, (C.1 + 2, C.2 + 16), ?_, RLE_th1 1 h, fun k => am_up_ne (by omega), by show C.1 + 2 ≤ _; omega, by show C.2 + 16 ≤ _; omega⟩
    rw [e0, em I J T _ 1 (fun _ => rfl), rf_scan _ _ _ _ _ (Or.inl g1), am_okb, am_vIi, rg_179_183, mo_thr _ _ _ _ _ (am_up_here _ _ _ _), am_okb, am_vIi, rg_179_186, if_pos rfl, if_neg (by decide)]
  · rw [if_neg g1] at e0
    by_cases g2 : 1000000 < I 4600 (m + 1)
    · rw [if_pos g2] at e0
      refine ⟨.int 1, .int 0, am_up I 49 0 1, J, T, (C.1 + 2, C.2 + 16), ?_, RLE_th1 1 h, fun k => am_up_ne (by omega), by show C.1 + 2 ≤ _; omega, by show C.2 + 16 ≤ _; omega⟩
      rw [e0, em I J T _ 1 (fun _ => rfl), rf_scan _ _ _ _ _ (Or.inr g2), am_okb, am_vIi, rg_179_183, mo_thr _ _ _ _ _ (am_up_here _ _ _ _), am_okb, am_vIi, rg_179_186, if_pos rfl, if_neg (by decide)]
    · rw [if_neg g2] at e0
      obtain ⟨j, j1, j2⟩ := in_rng (M := 1000000) (by decide) g1 g2
      rw [j2] at e0 em
      obtain ⟨v, I1, J1, T1, a1, a2, a3⟩ := one_call (C := C) (L := L) (cl := am_E 80 0 [.ref 1, .int (nI j)] [] (am_W I J T L C)) (mo := fun I' J' Tm Lm Cm => am_E 150 0 [.ref 49, .int (nI j)] [] (am_W I' J' Tm Lm Cm)) (fun I' J' Tm Lm Cm r => ca_scan j1 hb r) h
      obtain ⟨w0, _, _, _, ⟨x, rfl, rfl⟩, _⟩ := a3 J1 (fun _ _ _ => rfl)
      obtain ⟨w, I2, J2, b1, ⟨x', hx, rfl⟩, b3, b4, b5, b6⟩ := a3 (am_up J1 92 0 x.toInt64) up92
      have hx2 : x = x' := Value.int.inj hx
      subst hx2
      have e92 : J2 92 (Int32.toNatClampNeg 0) = x.toInt64 := (b6 _).trans (am_up_here _ _ _ _)
      refine ⟨.int 0, .int x, I2, J2, T1, C, ?_, RLE_up (by omega) b3, b5, by omega, by omega⟩
      rw [e0, a1, am_okb, ao_2 L C I1 J1 T1 (nI j) 0 0 x, em I1 _ T1 C 0 a2, b1, am_okb, am_vIi, rg_179_183, mo_thr _ _ _ _ _ b4, am_okb, am_vIi, rg_179_186, if_pos rfl, if_pos rfl, i0_ok, e92, if_pos (cmp_self _)]
theorem lt_output {B L m : Nat} {C : Nat × Nat} {I : Nat → Nat → Int32} {J : Nat → Nat → Int64} {T : Nat → Nat → Nat} (v5 v6 : Value) (h : RLE B I J T I J) (hm : m + 3 < L) (hL : L < 2 ^ 31) : ∃ v5' v6' I2 J2 T2 C2, am_E 179 247 [.ref 4600, .ref 1, .ref 49, .ref 92, .int (nI m), v5, v6] [] (am_W I J T L C) = am_E 179 422 [.ref 4600, .ref 1, .ref 49, .ref 92, .int (nI m), v5', v6'] [] (am_W I2 J2 T2 L C2) ∧ RLE (B + 100000000) I2 J2 T2 I2 J2 ∧ (∀ k, I2 4600 k = I 4600 k) ∧ C2.1 ≤ C.1 + 2 ∧ C2.2 ≤ C.2 + 16 := by
  have x1 : nI m + 1 = nI (m + 1) := nI_1 m
  have x2 : nI m + 2 = nI (m + 2) := nI_add m 2
  have x3 : nI m + 3 = nI (m + 3) := nI_add m 3
  have c1 : Int32.toNatClampNeg (nI (m + 1)) = m + 1 := nI_clamp (by omega)
  have c2 : Int32.toNatClampNeg (nI (m + 2)) = m + 2 := nI_clamp (by omega)
  have c3 : Int32.toNatClampNeg (nI (m + 3)) = m + 3 := nI_clamp (by omega)
  have i1 : ∀ r, am_inb (nI (m + 1)) L r = r := fun r => am_inb_ok (by omega) hL r
  have i2 : ∀ r, am_inb (nI (m + 2)) L r = r := fun r => am_inb_ok (by omega) hL r
  have i3 : ∀ r, am_inb (nI (m + 3)) L r = r := fun r => am_inb_ok (by omega) hL r
  have e0 := rg_179_247 I J T L C (nI m) v5 v6
  rw [x1, i1, c1] at e0
  have em : ∀ (I1 : Nat → Nat → Int32) (J1 : Nat → Nat → Int64) (T1 : Nat → Nat → Nat) (C1 : Nat × Nat) (z : Int32), (∀ k, I1 4600 k = I 4600 k) → am_E 179 255 [.ref 4600, .ref 1, .ref 49, .ref 92, .int (nI m), v5, v6] [.int z] (am_W I1 J1 T1 L C1) = Option.bind (am_E 154 0 [.ref 49, .int (I 4600 (m + 1))] [] (am_W I1 J1 T1 L C1)) (fun z1 => am_vI z1.1 fun u1 => am_E 179 263 [.ref 4600, .ref 1, .ref 49, .ref 92, .int (nI m), .int z, v6] [.int u1] z1.2) := by
    intro I1 J1 T1 C1 z hI
    rw [rg_179_255, x1, i1, c1, hI]
  by_cases g1 : I 4600 (m + 1) < 0
  · rw [if_pos g1] at e0
    refine ⟨.int 1, .int 0, am_up I 49 0 1, J, T, (C.1 + 2, C.2 + 16), ?_, RLE_th1 1 h, fun k => am_up_ne (by omega), by show C.1 + 2 ≤ _; omega, by show C.2 + 16 ≤ _; omega⟩
    rw [e0, em I J T _ 1 (fun _ => rfl), rf_output _ _ _ _ _ (Or.inl g1), am_okb, am_vIi, rg_179_263, mo_thr _ _ _ _ _ (am_up_here _ _ _ _), am_okb, am_vIi, rg_179_266, if_pos rfl, if_neg (by decide)]
  · rw [if_neg g1] at e0
    by_cases g2 : 32 ≤ I 4600 (m + 1)
    · rw [if_pos g2] at e0
      refine ⟨.int 1, .int 0, am_up I 49 0 1, J, T, (C.1 + 2, C.2 + 16), ?_, RLE_th1 1 h, fun k => am_up_ne (by omega), by show C.1 + 2 ≤ _; omega, by show C.2 + 16 ≤ _; omega⟩
      rw [e0, em I J T _ 1 (fun _ => rfl), rf_output _ _ _ _ _ (Or.inr g2), am_okb, am_vIi, rg_179_263, mo_thr _ _ _ _ _ (am_up_here _ _ _ _), am_okb, am_vIi, rg_179_266, if_pos rfl, if_neg (by decide)]
    · rw [if_neg g2] at e0
      obtain ⟨j, j1, j2⟩ := in_rng2 (M := 32) (by decide) g1 g2
      rw [j2] at e0 em
      obtain ⟨v, I1, J1, T1, a1, a2, a3⟩ := one_call (C := C) (L := L) (cl := am_E 82 0 [.ref 1, .int (nI j)] [] (am_W I J T L C)) (mo := fun I' J' Tm Lm Cm => am_E 154 0 [.ref 49, .int (nI j)] [] (am_W I' J' Tm Lm Cm)) (fun I' J' Tm Lm Cm r => ca_output j1 r) h
      obtain ⟨w0, _, _, _, ⟨x, rfl, rfl⟩, _⟩ := a3 J1 (fun _ _ _ => rfl)
      obtain ⟨w, I2, J2, b1, ⟨x', hx, rfl⟩, b3, b4, b5, b6⟩ := a3 (am_up J1 92 0 (if x = true then 1 else 0)) up92
      have hx2 : x = x' := by
        have := Value.int.inj hx
        cases x <;> cases x' <;> first | rfl | exact absurd this (by decide)
      subst hx2
      have e92 : J2 92 (Int32.toNatClampNeg 0) = (if x = true then 1 else 0) := (b6 _).trans (am_up_here _ _ _ _)
      refine ⟨.int 0, .int (am_b01 x), I2, J2, T1, C, ?_, RLE_up (by omega) b3, b5, by omega, by omega⟩
      rw [e0, a1, am_okb, ao_4, em I1 _ T1 C 0 a2, b1, am_okb, am_vIi, rg_179_263, mo_thr _ _ _ _ _ b4, am_okb, am_vIi, rg_179_266, if_pos rfl, if_pos rfl, i0_ok, e92]
      cases x
      · rw [if_pos (show am_b01 false = 0 from rfl), rg_179_280, if_pos (show lg_cmp (if false = true then 1 else 0) 0 = 0 by decide)]
      · rw [if_neg (show ¬ am_b01 true = 0 by decide), rg_179_280, if_pos (show lg_cmp (if true = true then 1 else 0) 1 = 0 by decide)]
theorem lt_bits {B L m : Nat} {C : Nat × Nat} {I : Nat → Nat → Int32} {J : Nat → Nat → Int64} {T : Nat → Nat → Nat} (v5 v6 : Value) (h : RLE B I J T I J) (hm : m + 3 < L) (hL : L < 2 ^ 31) : ∃ v5' v6' I2 J2 T2 C2, am_E 179 285 [.ref 4600, .ref 1, .ref 49, .ref 92, .int (nI m), v5, v6] [] (am_W I J T L C) = am_E 179 422 [.ref 4600, .ref 1, .ref 49, .ref 92, .int (nI m), v5', v6'] [] (am_W I2 J2 T2 L C2) ∧ RLE (B + 100000000) I2 J2 T2 I2 J2 ∧ (∀ k, I2 4600 k = I 4600 k) ∧ C2.1 ≤ C.1 + 2 ∧ C2.2 ≤ C.2 + 16 := by
  have x1 : nI m + 1 = nI (m + 1) := nI_1 m
  have x2 : nI m + 2 = nI (m + 2) := nI_add m 2
  have x3 : nI m + 3 = nI (m + 3) := nI_add m 3
  have c1 : Int32.toNatClampNeg (nI (m + 1)) = m + 1 := nI_clamp (by omega)
  have c2 : Int32.toNatClampNeg (nI (m + 2)) = m + 2 := nI_clamp (by omega)
  have c3 : Int32.toNatClampNeg (nI (m + 3)) = m + 3 := nI_clamp (by omega)
  have i1 : ∀ r, am_inb (nI (m + 1)) L r = r := fun r => am_inb_ok (by omega) hL r
  have i2 : ∀ r, am_inb (nI (m + 2)) L r = r := fun r => am_inb_ok (by omega) hL r
  have i3 : ∀ r, am_inb (nI (m + 3)) L r = r := fun r => am_inb_ok (by omega) hL r
  have e0 := rg_179_285 I J T L C (nI m) v5 v6
  rw [x1, i1, c1] at e0
  have em : ∀ (I1 : Nat → Nat → Int32) (J1 : Nat → Nat → Int64) (T1 : Nat → Nat → Nat) (C1 : Nat × Nat) (z : Int32), (∀ k, I1 4600 k = I 4600 k) → am_E 179 293 [.ref 4600, .ref 1, .ref 49, .ref 92, .int (nI m), v5, v6] [.int z] (am_W I1 J1 T1 L C1) = Option.bind (am_E 155 0 [.ref 49, .int (I 4600 (m + 1)), .null, .null, .null] [] (am_W I1 J1 T1 L C1)) (fun z1 => am_vI z1.1 fun u1 => am_E 179 301 [.ref 4600, .ref 1, .ref 49, .ref 92, .int (nI m), .int z, v6] [.int u1] z1.2) := by
    intro I1 J1 T1 C1 z hI
    rw [rg_179_293, x1, i1, c1, hI]
  by_cases g1 : I 4600 (m + 1) < 0
  · rw [if_pos g1] at e0
    refine ⟨.int 1, .int 0, am_up I 49 0 1, J, T, (C.1 + 2, C.2 + 16), ?_, RLE_th1 1 h, fun k => am_up_ne (by omega), by show C.1 + 2 ≤ _; omega, by show C.2 + 16 ≤ _; omega⟩
    rw [e0, em I J T _ 1 (fun _ => rfl), rf_bits _ _ _ _ _ (Or.inl g1), am_okb, am_vIi, rg_179_301, mo_thr _ _ _ _ _ (am_up_here _ _ _ _), am_okb, am_vIi, rg_179_304, if_pos rfl, if_neg (by decide)]
  · rw [if_neg g1] at e0
    by_cases g2 : 4 < I 4600 (m + 1)
    · rw [if_pos g2] at e0
      refine ⟨.int 1, .int 0, am_up I 49 0 1, J, T, (C.1 + 2, C.2 + 16), ?_, RLE_th1 1 h, fun k => am_up_ne (by omega), by show C.1 + 2 ≤ _; omega, by show C.2 + 16 ≤ _; omega⟩
      rw [e0, em I J T _ 1 (fun _ => rfl), rf_bits _ _ _ _ _ (Or.inr g2), am_okb, am_vIi, rg_179_301, mo_thr _ _ _ _ _ (am_up_here _ _ _ _), am_okb, am_vIi, rg_179_304, if_pos rfl, if_neg (by decide)]
    · rw [if_neg g2] at e0
      obtain ⟨j, j1, j2⟩ := in_rng (M := 4) (by decide) g1 g2
      rw [j2] at e0 em
      obtain ⟨v, I1, J1, T1, a1, a2, a3⟩ := one_call (C := C) (L := L) (cl := am_E 83 0 [.ref 1, .int (nI j)] [] (am_W I J T L C)) (mo := fun I' J' Tm Lm Cm => am_E 155 0 [.ref 49, .int (nI j), .null, .null, .null] [] (am_W I' J' Tm Lm Cm)) (fun I' J' Tm Lm Cm r => ca_bits (by omega) r) h
      obtain ⟨w0, _, _, _, ⟨x, rfl, rfl⟩, _⟩ := a3 J1 (fun _ _ _ => rfl)
      obtain ⟨w, I2, J2, b1, ⟨x', hx, rfl⟩, b3, b4, b5, b6⟩ := a3 (am_up J1 92 0 x.toInt64) up92
      have hx2 : x = x' := Value.int.inj hx
      subst hx2
      have e92 : J2 92 (Int32.toNatClampNeg 0) = x.toInt64 := (b6 _).trans (am_up_here _ _ _ _)
      refine ⟨.int 0, .int x, I2, J2, T1, C, ?_, RLE_up (by omega) b3, b5, by omega, by omega⟩
      rw [e0, a1, am_okb, ao_5 L C I1 J1 T1 (nI j) 0 0 x, em I1 _ T1 C 0 a2, b1, am_okb, am_vIi, rg_179_301, mo_thr _ _ _ _ _ b4, am_okb, am_vIi, rg_179_304, if_pos rfl, if_pos rfl, i0_ok, e92, if_pos (cmp_self _)]
theorem lt_word {B L m : Nat} {C : Nat × Nat} {I : Nat → Nat → Int32} {J : Nat → Nat → Int64} {T : Nat → Nat → Nat} (v5 v6 : Value) (h : RLE B I J T I J) (hm : m + 3 < L) (hL : L < 2 ^ 31) : ∃ v5' v6' I2 J2 T2 C2, am_E 179 320 [.ref 4600, .ref 1, .ref 49, .ref 92, .int (nI m), v5, v6] [] (am_W I J T L C) = am_E 179 422 [.ref 4600, .ref 1, .ref 49, .ref 92, .int (nI m), v5', v6'] [] (am_W I2 J2 T2 L C2) ∧ RLE (B + 100000000) I2 J2 T2 I2 J2 ∧ (∀ k, I2 4600 k = I 4600 k) ∧ C2.1 ≤ C.1 + 2 ∧ C2.2 ≤ C.2 + 16 := by
  have x1 : nI m + 1 = nI (m + 1) := nI_1 m
  have x2 : nI m + 2 = nI (m + 2) := nI_add m 2
  have x3 : nI m + 3 = nI (m + 3) := nI_add m 3
  have c1 : Int32.toNatClampNeg (nI (m + 1)) = m + 1 := nI_clamp (by omega)
  have c2 : Int32.toNatClampNeg (nI (m + 2)) = m + 2 := nI_clamp (by omega)
  have c3 : Int32.toNatClampNeg (nI (m + 3)) = m + 3 := nI_clamp (by omega)
  have i1 : ∀ r, am_inb (nI (m + 1)) L r = r := fun r => am_inb_ok (by omega) hL r
  have i2 : ∀ r, am_inb (nI (m + 2)) L r = r := fun r => am_inb_ok (by omega) hL r
  have i3 : ∀ r, am_inb (nI (m + 3)) L r = r := fun r => am_inb_ok (by omega) hL r
  have e0 := rg_179_320 I J T L C (nI m) v5 v6
  rw [x1, i1, c1] at e0
  have em : ∀ (I1 : Nat → Nat → Int32) (J1 : Nat → Nat → Int64) (T1 : Nat → Nat → Nat) (C1 : Nat × Nat) (z : Int32), (∀ k, I1 4600 k = I 4600 k) → am_E 179 328 [.ref 4600, .ref 1, .ref 49, .ref 92, .int (nI m), v5, v6] [.int z] (am_W I1 J1 T1 L C1) = Option.bind (am_E 156 0 [.ref 49, .int (I 4600 (m + 1))] [] (am_W I1 J1 T1 L C1)) (fun z1 => am_vI z1.1 fun u1 => am_E 179 336 [.ref 4600, .ref 1, .ref 49, .ref 92, .int (nI m), .int z, v6] [.int u1] z1.2) := by
    intro I1 J1 T1 C1 z hI
    rw [rg_179_328, x1, i1, c1, hI]
  by_cases g1 : I 4600 (m + 1) < 0
  · rw [if_pos g1] at e0
    refine ⟨.int 1, .int 0, am_up I 49 0 1, J, T, (C.1 + 2, C.2 + 16), ?_, RLE_th1 1 h, fun k => am_up_ne (by omega), by show C.1 + 2 ≤ _; omega, by show C.2 + 16 ≤ _; omega⟩
    rw [e0, em I J T _ 1 (fun _ => rfl), rf_word _ _ _ _ _ (Or.inl g1), am_okb, am_vIi, rg_179_336, mo_thr _ _ _ _ _ (am_up_here _ _ _ _), am_okb, am_vIi, rg_179_339, if_pos rfl, if_neg (by decide)]
  · rw [if_neg g1] at e0
    by_cases g2 : 32 ≤ I 4600 (m + 1)
    · rw [if_pos g2] at e0
      refine ⟨.int 1, .int 0, am_up I 49 0 1, J, T, (C.1 + 2, C.2 + 16), ?_, RLE_th1 1 h, fun k => am_up_ne (by omega), by show C.1 + 2 ≤ _; omega, by show C.2 + 16 ≤ _; omega⟩
      rw [e0, em I J T _ 1 (fun _ => rfl), rf_word _ _ _ _ _ (Or.inr g2), am_okb, am_vIi, rg_179_336, mo_thr _ _ _ _ _ (am_up_here _ _ _ _), am_okb, am_vIi, rg_179_339, if_pos rfl, if_neg (by decide)]
    · rw [if_neg g2] at e0
      obtain ⟨j, j1, j2⟩ := in_rng2 (M := 32) (by decide) g1 g2
      rw [j2] at e0 em
      obtain ⟨v, I1, J1, T1, a1, a2, a3⟩ := one_call (C := C) (L := L) (cl := am_E 84 0 [.ref 1, .int (nI j)] [] (am_W I J T L C)) (mo := fun I' J' Tm Lm Cm => am_E 156 0 [.ref 49, .int (nI j)] [] (am_W I' J' Tm Lm Cm)) (fun I' J' Tm Lm Cm r => ca_word j1 r) h
      obtain ⟨w0, _, _, _, ⟨x, rfl, rfl⟩, _⟩ := a3 J1 (fun _ _ _ => rfl)
      obtain ⟨w, I2, J2, b1, ⟨x', hx, rfl⟩, b3, b4, b5, b6⟩ := a3 (am_up J1 92 0 x.toInt64) up92
      have hx2 : x = x' := Value.int.inj hx
      subst hx2
      have e92 : J2 92 (Int32.toNatClampNeg 0) = x.toInt64 := (b6 _).trans (am_up_here _ _ _ _)
      refine ⟨.int 0, .int x, I2, J2, T1, C, ?_, RLE_up (by omega) b3, b5, by omega, by omega⟩
      rw [e0, a1, am_okb, ao_6 L C I1 J1 T1 (nI j) 0 0 x, em I1 _ T1 C 0 a2, b1, am_okb, am_vIi, rg_179_336, mo_thr _ _ _ _ _ b4, am_okb, am_vIi, rg_179_339, if_pos rfl, if_pos rfl, i0_ok, e92, if_pos (cmp_self _)]
theorem lt_input {B L m : Nat} {C : Nat × Nat} {I : Nat → Nat → Int32} {J : Nat → Nat → Int64} {T : Nat → Nat → Nat} (v5 v6 : Value) (h : RLE B I J T I J) (hm : m + 3 < L) (hL : L < 2 ^ 31) : ∃ v5' v6' I2 J2 T2 C2, am_E 179 127 [.ref 4600, .ref 1, .ref 49, .ref 92, .int (nI m), v5, v6] [] (am_W I J T L C) = am_E 179 422 [.ref 4600, .ref 1, .ref 49, .ref 92, .int (nI m), v5', v6'] [] (am_W I2 J2 T2 L C2) ∧ RLE (B + 100000000) I2 J2 T2 I2 J2 ∧ (∀ k, I2 4600 k = I 4600 k) ∧ C2.1 ≤ C.1 + 2 ∧ C2.2 ≤ C.2 + 16 := by
  have x1 : nI m + 1 = nI (m + 1) := nI_1 m
  have x2 : nI m + 2 = nI (m + 2) := nI_add m 2
  have x3 : nI m + 3 = nI (m + 3) := nI_add m 3
  have c1 : Int32.toNatClampNeg (nI (m + 1)) = m + 1 := nI_clamp (by omega)
  have c2 : Int32.toNatClampNeg (nI (m + 2)) = m + 2 := nI_clamp (by omega)
  have c3 : Int32.toNatClampNeg (nI (m + 3)) = m + 3 := nI_clamp (by omega)
  have i1 : ∀ r, am_inb (nI (m + 1)) L r = r := fun r => am_inb_ok (by omega) hL r
  have i2 : ∀ r, am_inb (nI (m + 2)) L r = r := fun r => am_inb_ok (by omega) hL r
  have i3 : ∀ r, am_inb (nI (m + 3)) L r = r := fun r => am_inb_ok (by omega) hL r
  have eb : ∃ b : Bool, am_E 179 127 [.ref 4600, .ref 1, .ref 49, .ref 92, .int (nI m), v5, v6] [] (am_W I J T L C) = am_E 179 142 [.ref 4600, .ref 1, .ref 49, .ref 92, .int (nI m), v5, v6] [.int (am_b01 b), .int (I 4600 (m + 1)), .ref 1] (am_W I J T L C) ∧ ∀ (I1 : Nat → Nat → Int32) (J1 : Nat → Nat → Int64) (T1 : Nat → Nat → Nat) (C1 : Nat × Nat) (z : Int32), (∀ k, I1 4600 k = I 4600 k) → am_E 179 143 [.ref 4600, .ref 1, .ref 49, .ref 92, .int (nI m), v5, v6] [.int z] (am_W I1 J1 T1 L C1) = Option.bind (am_E 153 0 [.ref 49, .int (I 4600 (m + 1)), .int (am_b01 b)] [] (am_W I1 J1 T1 L C1)) (fun z1 => am_E 179 160 [.ref 4600, .ref 1, .ref 49, .ref 92, .int (nI m), .int z, v6] [] z1.2) := by
    by_cases c : I 4600 (m + 2) = 0
    · refine ⟨false, ?_, fun I1 J1 T1 C1 z hI => ?_⟩
      · rw [rg_179_127, x1, x2, i1, i2, c1, c2, if_pos c]; rfl
      · rw [rg_179_143, x1, x2, i1, i2, c1, c2, hI, hI, if_pos c, rg_179_159]; rfl
    · refine ⟨true, ?_, fun I1 J1 T1 C1 z hI => ?_⟩
      · rw [rg_179_127, x1, x2, i1, i2, c1, c2, if_neg c]; rfl
      · rw [rg_179_143, x1, x2, i1, i2, c1, c2, hI, hI, if_neg c, rg_179_159]; rfl
  obtain ⟨b, e0, em⟩ := eb
  rw [rg_179_142] at e0
  by_cases g1 : I 4600 (m + 1) < 0
  · rw [if_pos g1] at e0
    refine ⟨.int 1, v6, am_up I 49 0 1, J, T, (C.1 + 2, C.2 + 16), ?_, RLE_th1 1 h, fun k => am_up_ne (by omega), by show C.1 + 2 ≤ _; omega, by show C.2 + 16 ≤ _; omega⟩
    rw [e0, em I J T _ 1 (fun _ => rfl), rf_input _ _ _ _ _ (Or.inl g1), am_okb, rg_179_160, mo_thr _ _ _ _ _ (am_up_here _ _ _ _), am_okb, am_vIi, rg_179_162, if_pos rfl]
  · rw [if_neg g1] at e0
    by_cases g2 : 32 ≤ I 4600 (m + 1)
    · rw [if_pos g2] at e0
      refine ⟨.int 1, v6, am_up I 49 0 1, J, T, (C.1 + 2, C.2 + 16), ?_, RLE_th1 1 h, fun k => am_up_ne (by omega), by show C.1 + 2 ≤ _; omega, by show C.2 + 16 ≤ _; omega⟩
      rw [e0, em I J T _ 1 (fun _ => rfl), rf_input _ _ _ _ _ (Or.inr g2), am_okb, rg_179_160, mo_thr _ _ _ _ _ (am_up_here _ _ _ _), am_okb, am_vIi, rg_179_162, if_pos rfl]
    · rw [if_neg g2] at e0
      obtain ⟨j, j1, j2⟩ := in_rng2 (M := 32) (by decide) g1 g2
      rw [j2] at e0 em
      obtain ⟨v, I1, J1, T1, a1, a2, a3⟩ := one_call (C := C) (L := L) (cl := am_E 79 0 [.ref 1, .int (nI j), .int (am_b01 b)] [] (am_W I J T L C)) (mo := fun I' J' Tm Lm Cm => am_E 153 0 [.ref 49, .int (nI j), .int (am_b01 b)] [] (am_W I' J' Tm Lm Cm)) (fun I' J' Tm Lm Cm r => ca_input j1 r) h
      obtain ⟨w, I2, J2, b1, ⟨rfl, rfl⟩, b3, b4, b5, b6⟩ := a3 J1 (fun _ _ _ => rfl)
      refine ⟨.int 0, v6, I2, J2, T1, C, ?_, RLE_b b3, b5, by omega, by omega⟩
      rw [e0, a1, am_okb, ao_1, em I1 _ T1 C 0 a2, b1, am_okb, rg_179_160, mo_thr _ _ _ _ _ b4, am_okb, am_vIi, rg_179_162, if_pos rfl]
theorem lt_run {B L m : Nat} {C : Nat × Nat} {I : Nat → Nat → Int32} {J : Nat → Nat → Int64} {T : Nat → Nat → Nat} (v5 v6 : Value) (h : RLE B I J T I J) (hm : m + 3 < L) (hL : L < 2 ^ 31) (hb : B + 100000000 < 2 ^ 62) : ∃ v5' v6' I2 J2 T2 C2, am_E 179 202 [.ref 4600, .ref 1, .ref 49, .ref 92, .int (nI m), v5, v6] [] (am_W I J T L C) = am_E 179 422 [.ref 4600, .ref 1, .ref 49, .ref 92, .int (nI m), v5', v6'] [] (am_W I2 J2 T2 L C2) ∧ RLE (B + 100000000) I2 J2 T2 I2 J2 ∧ (∀ k, I2 4600 k = I 4600 k) ∧ C2.1 ≤ C.1 + 2 ∧ C2.2 ≤ C.2 + 16 := by
  have x1 : nI m + 1 = nI (m + 1) := nI_1 m
  have x2 : nI m + 2 = nI (m + 2) := nI_add m 2
  have x3 : nI m + 3 = nI (m + 3) := nI_add m 3
  have c1 : Int32.toNatClampNeg (nI (m + 1)) = m + 1 := nI_clamp (by omega)
  have c2 : Int32.toNatClampNeg (nI (m + 2)) = m + 2 := nI_clamp (by omega)
  have c3 : Int32.toNatClampNeg (nI (m + 3)) = m + 3 := nI_clamp (by omega)
  have i1 : ∀ r, am_inb (nI (m + 1)) L r = r := fun r => am_inb_ok (by omega) hL r
  have i2 : ∀ r, am_inb (nI (m + 2)) L r = r := fun r => am_inb_ok (by omega) hL r
  have i3 : ∀ r, am_inb (nI (m + 3)) L r = r := fun r => am_inb_ok (by omega) hL r
  have e0 := rg_179_202 I J T L C (nI m) v5 v6
  rw [x1, x2, i1, i2, c1, c2] at e0
  have em : ∀ (I1 : Nat → Nat → Int32) (J1 : Nat → Nat → Int64) (T1 : Nat → Nat → Nat) (C1 : Nat × Nat) (z : Int32), (∀ k, I1 4600 k = I 4600 k) → am_E 179 215 [.ref 4600, .ref 1, .ref 49, .ref 92, .int (nI m), v5, v6] [.int z] (am_W I1 J1 T1 L C1) = Option.bind (am_E 151 0 [.ref 49, .int (I 4600 (m + 1)), .int (I 4600 (m + 2)), .null, .null] [] (am_W I1 J1 T1 L C1)) (fun z1 => am_vI z1.1 fun u1 => am_E 179 228 [.ref 4600, .ref 1, .ref 49, .ref 92, .int (nI m), .int z, v6] [.int u1] z1.2) := by
    intro I1 J1 T1 C1 z hI
    rw [rg_179_215, x1, x2, i1, i2, c1, c2, hI, hI]
  by_cases g1 : I 4600 (m + 1) < 0
  · rw [if_pos g1] at e0
    refine ⟨.int 1, .int 0, am_up I 49 0 1, J, T, (C.1 + 2, C.2 + 16), ?_, RLE_th1 1 h, fun k => am_up_ne (by omega), by show C.1 + 2 ≤ _; omega, by show C.2 + 16 ≤ _; omega⟩
    rw [e0, em I J T _ 1 (fun _ => rfl), rf_run _ _ _ _ _ (Or.inl g1), am_okb, am_vIi, rg_179_228, mo_thr _ _ _ _ _ (am_up_here _ _ _ _), am_okb, am_vIi, rg_179_231, if_pos rfl, if_neg (by decide)]
  · rw [if_neg g1] at e0
    by_cases g2 : 100 < I 4600 (m + 1)
    · rw [if_pos g2] at e0
      refine ⟨.int 1, .int 0, am_up I 49 0 1, J, T, (C.1 + 2, C.2 + 16), ?_, RLE_th1 1 h, fun k => am_up_ne (by omega), by show C.1 + 2 ≤ _; omega, by show C.2 + 16 ≤ _; omega⟩
      rw [e0, em I J T _ 1 (fun _ => rfl), rf_run _ _ _ _ _ (Or.inr (Or.inl g2)), am_okb, am_vIi, rg_179_228, mo_thr _ _ _ _ _ (am_up_here _ _ _ _), am_okb, am_vIi, rg_179_231, if_pos rfl, if_neg (by decide)]
    · rw [if_neg g2] at e0
      by_cases g3 : I 4600 (m + 2) < 0
      · rw [if_pos g3] at e0
        refine ⟨.int 1, .int 0, am_up I 49 0 1, J, T, (C.1 + 2, C.2 + 16), ?_, RLE_th1 1 h, fun k => am_up_ne (by omega), by show C.1 + 2 ≤ _; omega, by show C.2 + 16 ≤ _; omega⟩
        rw [e0, em I J T _ 1 (fun _ => rfl), rf_run _ _ _ _ _ (Or.inr (Or.inr (Or.inl g3))), am_okb, am_vIi, rg_179_228, mo_thr _ _ _ _ _ (am_up_here _ _ _ _), am_okb, am_vIi, rg_179_231, if_pos rfl, if_neg (by decide)]
      · rw [if_neg g3] at e0
        by_cases g4 : 1000000 < I 4600 (m + 2)
        · rw [if_pos g4] at e0
          refine ⟨.int 1, .int 0, am_up I 49 0 1, J, T, (C.1 + 2, C.2 + 16), ?_, RLE_th1 1 h, fun k => am_up_ne (by omega), by show C.1 + 2 ≤ _; omega, by show C.2 + 16 ≤ _; omega⟩
          rw [e0, em I J T _ 1 (fun _ => rfl), rf_run _ _ _ _ _ (Or.inr (Or.inr (Or.inr g4))), am_okb, am_vIi, rg_179_228, mo_thr _ _ _ _ _ (am_up_here _ _ _ _), am_okb, am_vIi, rg_179_231, if_pos rfl, if_neg (by decide)]
        · rw [if_neg g4] at e0
          obtain ⟨j, j1, j2⟩ := in_rng (M := 100) (by decide) g1 g2
          obtain ⟨k, k1, k2⟩ := in_rng (M := 1000000) (by decide) g3 g4
          rw [j2, k2] at e0 em
          obtain ⟨v, I1, J1, T1, a1, a2, a3⟩ := one_call (C := C) (L := L) (cl := am_E 81 0 [.ref 1, .int (nI j), .int (nI k), .null, .null] [] (am_W I J T L C)) (mo := fun I' J' Tm Lm Cm => am_E 151 0 [.ref 49, .int (nI j), .int (nI k), .null, .null] [] (am_W I' J' Tm Lm Cm)) (fun I' J' Tm Lm Cm r => ca_run j1 k1 hb r) h
          obtain ⟨w0, _, _, _, ⟨x, rfl, rfl⟩, _⟩ := a3 J1 (fun _ _ _ => rfl)
          obtain ⟨w, I2, J2, b1, ⟨x', hx, rfl⟩, b3, b4, b5, b6⟩ := a3 (am_up J1 92 0 x.toInt64) up92
          have hx2 : x = x' := Value.int.inj hx
          subst hx2
          have e92 : J2 92 (Int32.toNatClampNeg 0) = x.toInt64 := (b6 _).trans (am_up_here _ _ _ _)
          refine ⟨.int 0, .int x, I2, J2, T1, C, ?_, RLE_up (by omega) b3, b5, by omega, by omega⟩
          rw [e0, a1, am_okb, ao_3 L C I1 J1 T1 (nI j) (nI k) 0 x, em I1 _ T1 C 0 a2, b1, am_okb, am_vIi, rg_179_228, mo_thr _ _ _ _ _ b4, am_okb, am_vIi, rg_179_231, if_pos rfl, if_pos rfl, i0_ok, e92, if_pos (cmp_self _)]
theorem lt_block {B L m : Nat} {C : Nat × Nat} {I : Nat → Nat → Int32} {J : Nat → Nat → Int64} {T : Nat → Nat → Nat} (v5 v6 : Value) (h : RLE B I J T I J) (hm : m + 3 < L) (hL : L < 2 ^ 31) : ∃ v5' v6' I2 J2 T2 C2, am_E 179 355 [.ref 4600, .ref 1, .ref 49, .ref 92, .int (nI m), v5, v6] [] (am_W I J T L C) = am_E 179 422 [.ref 4600, .ref 1, .ref 49, .ref 92, .int (nI m), v5', v6'] [] (am_W I2 J2 T2 L C2) ∧ RLE (B + 100000000) I2 J2 T2 I2 J2 ∧ (∀ k, I2 4600 k = I 4600 k) ∧ C2.1 ≤ C.1 + 2 ∧ C2.2 ≤ C.2 + 16 := by
  have x1 : nI m + 1 = nI (m + 1) := nI_1 m
  have x2 : nI m + 2 = nI (m + 2) := nI_add m 2
  have x3 : nI m + 3 = nI (m + 3) := nI_add m 3
  have c1 : Int32.toNatClampNeg (nI (m + 1)) = m + 1 := nI_clamp (by omega)
  have c2 : Int32.toNatClampNeg (nI (m + 2)) = m + 2 := nI_clamp (by omega)
  have c3 : Int32.toNatClampNeg (nI (m + 3)) = m + 3 := nI_clamp (by omega)
  have i1 : ∀ r, am_inb (nI (m + 1)) L r = r := fun r => am_inb_ok (by omega) hL r
  have i2 : ∀ r, am_inb (nI (m + 2)) L r = r := fun r => am_inb_ok (by omega) hL r
  have i3 : ∀ r, am_inb (nI (m + 3)) L r = r := fun r => am_inb_ok (by omega) hL r
  have e0 := rg_179_355 I J T L C (nI m) v5 v6
  rw [x1, x2, i1, i2, c1, c2] at e0
  have em : ∀ (I1 : Nat → Nat → Int32) (J1 : Nat → Nat → Int64) (T1 : Nat → Nat → Nat) (C1 : Nat × Nat) (z : Int32), (∀ k, I1 4600 k = I 4600 k) → am_E 179 368 [.ref 4600, .ref 1, .ref 49, .ref 92, .int (nI m), v5, v6] [.int z] (am_W I1 J1 T1 L C1) = Option.bind (am_E 157 0 [.ref 49, .int (I 4600 (m + 1)), .int (I 4600 (m + 2))] [] (am_W I1 J1 T1 L C1)) (fun z1 => am_vI z1.1 fun u1 => am_E 179 381 [.ref 4600, .ref 1, .ref 49, .ref 92, .int (nI m), .int z, v6] [.int u1] z1.2) := by
    intro I1 J1 T1 C1 z hI
    rw [rg_179_368, x1, x2, i1, i2, c1, c2, hI, hI]
  by_cases g1 : I 4600 (m + 1) < 0
  · rw [if_pos g1] at e0
    refine ⟨.int 1, .int 0, am_up I 49 0 1, J, T, (C.1 + 2, C.2 + 16), ?_, RLE_th1 1 h, fun k => am_up_ne (by omega), by show C.1 + 2 ≤ _; omega, by show C.2 + 16 ≤ _; omega⟩
    rw [e0, em I J T _ 1 (fun _ => rfl), rf_block1 _ _ _ _ _ (Or.inl g1), am_okb, am_vIi, rg_179_381, mo_thr _ _ _ _ _ (am_up_here _ _ _ _), am_okb, am_vIi, rg_179_384, if_pos rfl, if_neg (by decide)]
  · rw [if_neg g1] at e0
    by_cases g2 : 8 ≤ I 4600 (m + 1)
    · rw [if_pos g2] at e0
      refine ⟨.int 1, .int 0, am_up I 49 0 1, J, T, (C.1 + 2, C.2 + 16), ?_, RLE_th1 1 h, fun k => am_up_ne (by omega), by show C.1 + 2 ≤ _; omega, by show C.2 + 16 ≤ _; omega⟩
      rw [e0, em I J T _ 1 (fun _ => rfl), rf_block1 _ _ _ _ _ (Or.inr g2), am_okb, am_vIi, rg_179_381, mo_thr _ _ _ _ _ (am_up_here _ _ _ _), am_okb, am_vIi, rg_179_384, if_pos rfl, if_neg (by decide)]
    · rw [if_neg g2] at e0
      obtain ⟨j, j1, j2⟩ := in_rng2 (M := 8) (by decide) g1 g2
      rw [j2] at e0 em
      by_cases g3 : I 4600 (m + 2) < 0
      · rw [if_pos g3] at e0
        refine ⟨.int 2, .int 0, am_up I 49 0 2, J, T, (C.1 + 2, C.2 + 16), ?_, RLE_th1 2 h, fun k => am_up_ne (by omega), by show C.1 + 2 ≤ _; omega, by show C.2 + 16 ≤ _; omega⟩
        rw [e0, em I J T _ 2 (fun _ => rfl), rf_block2 _ _ _ _ _ j1 (Or.inl g3), am_okb, am_vIi, rg_179_381, mo_thr _ _ _ _ _ (am_up_here _ _ _ _), am_okb, am_vIi, rg_179_384, if_pos rfl, if_neg (by decide)]
      · rw [if_neg g3] at e0
        by_cases g4 : 3 < I 4600 (m + 2)
        · rw [if_pos g4] at e0
          refine ⟨.int 2, .int 0, am_up I 49 0 2, J, T, (C.1 + 2, C.2 + 16), ?_, RLE_th1 2 h, fun k => am_up_ne (by omega), by show C.1 + 2 ≤ _; omega, by show C.2 + 16 ≤ _; omega⟩
          rw [e0, em I J T _ 2 (fun _ => rfl), rf_block2 _ _ _ _ _ j1 (Or.inr g4), am_okb, am_vIi, rg_179_381, mo_thr _ _ _ _ _ (am_up_here _ _ _ _), am_okb, am_vIi, rg_179_384, if_pos rfl, if_neg (by decide)]
        · rw [if_neg g4] at e0
          obtain ⟨k, k1, k2⟩ := in_rng (M := 3) (by decide) g3 g4
          rw [k2] at e0 em
          obtain ⟨v, I1, J1, T1, a1, a2, a3⟩ := one_call (C := C) (L := L) (cl := am_E 85 0 [.ref 1, .int (nI j), .int (nI k)] [] (am_W I J T L C)) (mo := fun I' J' Tm Lm Cm => am_E 157 0 [.ref 49, .int (nI j), .int (nI k)] [] (am_W I' J' Tm Lm Cm)) (fun I' J' Tm Lm Cm r => ca_block j1 (by omega) r) h
          obtain ⟨w0, _, _, _, ⟨x, rfl, rfl⟩, _⟩ := a3 J1 (fun _ _ _ => rfl)
          obtain ⟨w, I2, J2, b1, ⟨x', hx, rfl⟩, b3, b4, b5, b6⟩ := a3 (am_up J1 92 0 x.toInt64) up92
          have hx2 : x = x' := Value.int.inj hx
          subst hx2
          have e92 : J2 92 (Int32.toNatClampNeg 0) = x.toInt64 := (b6 _).trans (am_up_here _ _ _ _)
          refine ⟨.int 0, .int x, I2, J2, T1, C, ?_, RLE_up (by omega) b3, b5, by omega, by omega⟩
          rw [e0, a1, am_okb, ao_7 L C I1 J1 T1 (nI j) (nI k) 0 x, em I1 _ T1 C 0 a2, b1, am_okb, am_vIi, rg_179_381, mo_thr _ _ _ _ _ b4, am_okb, am_vIi, rg_179_384, if_pos rfl, if_pos rfl, i0_ok, e92, if_pos (cmp_self _)]
theorem lt_load {B L m : Nat} {C : Nat × Nat} {I : Nat → Nat → Int32} {J : Nat → Nat → Int64} {T : Nat → Nat → Nat} (v5 v6 : Value) (h : RLE B I J T I J) : ∃ v5' v6' I2 J2 T2 C2, am_E 179 101 [.ref 4600, .ref 1, .ref 49, .ref 92, .int (nI m), v5, v6] [] (am_W I J T L C) = am_E 179 422 [.ref 4600, .ref 1, .ref 49, .ref 92, .int (nI m), v5', v6'] [] (am_W I2 J2 T2 L C2) ∧ RLE (B + 100000000) I2 J2 T2 I2 J2 ∧ (∀ k, I2 4600 k = I 4600 k) ∧ C2.1 ≤ C.1 + 2 ∧ C2.2 ≤ C.2 + 16 := by
  rcases ca_load (L := L) (C := C) (Lm := L) (Cm := C) (Tm := T) h with ⟨x, I1, T1, I2, a1, a2, a3, a4, a5, a6⟩ | ⟨x, I1, J1, T1, I2, J2, a1, a2, a3, a4, a5, a6, a7, a8⟩
  · have hr : RLE B I J T I1 J := RLE_keep (fun _ _ _ => rfl) (fun _ _ _ => rfl) (fun _ _ _ => rfl) (fun q k e _ _ => a5 q k e) (fun _ _ _ _ => rfl) h
    rcases ca_load (L := L) (C := C) (Lm := L) (Cm := C) (Tm := T1) hr with ⟨x', I1', T1', I2', b1, b2, b3, b4, b5, b6⟩ | ⟨x', I1', J1', T1', I2', J2', b1, b2, b3, b4, b5, b6, b7, b8⟩
    · have e := a1.symm.trans b1
      simp only [Option.some.injEq, Prod.mk.injEq, Value.int.injEq] at e
      obtain ⟨rfl, ⟨rfl, _, rfl⟩, _⟩ := e
      refine ⟨v5, v6, I2', J, T1, C, ?_, RLE_b ?_, fun k => (b6 4600 k (by decide)).trans (a5 4600 k (by decide)), by omega, by omega⟩
      · rw [rg_179_101, a1, am_okb, am_vIi]
        show am_E 179 103 [.ref 4600, .ref 1, .ref 49, .ref 92, .int (nI m), v5, v6] [.int x] (am_W I1 J T1 L C) = _
        rw [rg_179_103, b2, am_okb, am_vIi, rg_179_105, if_pos rfl]
      · exact RLE_keep (fun q k e => b6 q k (Or.inl e)) (fun _ _ _ => rfl) (fun _ _ _ => rfl) (fun _ _ _ _ _ => rfl) (fun _ _ _ _ => rfl) b3
    · have e := a1.symm.trans b1
      simp only [Option.some.injEq, Prod.mk.injEq] at e
      exact absurd (congrFun (congrFun e.2.2.1.1 1) 2) (by decide +kernel)
  · have hr : RLE B I J T (rI I1) (rJ J1) := RLE_keep (fun _ _ _ => rfl) (fun _ _ _ => rfl) (fun _ _ _ => rfl) (fun q k e _ _ => a5 q k e) (fun q k e _ => a6 q k e) h
    rcases ca_load (L := L) (C := C) (Lm := L) (Cm := C) (Tm := rT T1) hr with ⟨x', I1', T1', I2', b1, b2, b3, b4, b5, b6⟩ | ⟨x', I1', J1', T1', I2', J2', b1, b2, b3, b4, b5, b6, b7, b8⟩
    · have e := a1.symm.trans b1
      simp only [Option.some.injEq, Prod.mk.injEq] at e
      exact absurd (congrFun (congrFun e.2.2.1.1 1) 2) (by decide +kernel)
    · have e := a1.symm.trans b1
      simp only [Option.some.injEq, Prod.mk.injEq, Value.int.injEq] at e
      obtain ⟨rfl, ⟨rfl, rfl, rfl⟩, _⟩ := e
      refine ⟨am_ren v5, am_ren v6, I2', J2', rT T1, C, ?_, RLE_b ?_, fun k => (b7 4600 k (by decide)).trans (a5 4600 k (by decide)), by omega, by omega⟩
      · rw [rg_179_101, a1, am_okb, am_vIi]
        show am_E 179 103 [.ref 4600, .ref 1, .ref 49, .ref 92, .int (nI m), am_ren v5, am_ren v6] [.int x] (am_swap (am_X I1 J1 T1 L C)) = _
        rw [swap_X, rg_179_103, b2, am_okb, am_vIi, rg_179_105, if_pos rfl]
      · exact RLE_keep (fun q k e => b7 q k (Or.inl e)) (fun q k e => b8 q k (Or.inl e)) (fun _ _ _ => rfl) (fun _ _ _ _ _ => rfl) (fun _ _ _ _ => rfl) b3

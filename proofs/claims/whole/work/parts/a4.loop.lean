/-! THE LAW'S LOOP. -/
theorem law_end {L m : Nat} (hL : L < 2 ^ 30) (hm : m < 2 ^ 30) : (nI L - 4 < nI m) ↔ L < m + 4 := by
  by_cases c : 4 ≤ L
  · have e : nI L - 4 = nI (L - 4) := by
      have q := nI_subl 4 (L - 4)
      rw [show 4 + (L - 4) = L by omega] at q
      exact q
    rw [e, nI_ltI (by omega) (by omega)]
    omega
  · have q : ∀ L, L < 4 → nI L - 4 < 0 := by decide +kernel
    have h1 := q L (by omega)
    have h2 : 0 ≤ nI m := nI_pos' (by omega)
    exact ⟨fun _ => by omega, fun _ => Int32.lt_of_lt_of_le h1 h2⟩
theorem law_turn {B L m : Nat} {C : Nat × Nat} {I : Nat → Nat → Int32} {J : Nat → Nat → Int64} {T : Nat → Nat → Nat} (v5 v6 : Value) (h : RLE B I J T I J) (hm : m + 3 < L) (hL : L < 2 ^ 30) (hb : B + 100000000 < 2 ^ 62) : ∃ v5' v6' I2 J2 T2 C2, am_E 179 13 [.ref 4600, .ref 1, .ref 49, .ref 92, .int (nI m), v5, v6] [] (am_W I J T L C) = am_E 179 13 [.ref 4600, .ref 1, .ref 49, .ref 92, .int (nI (m + 4)), v5', v6'] [] (am_W I2 J2 T2 L C2) ∧ RLE (B + 100000000) I2 J2 T2 I2 J2 ∧ (∀ k, I2 4600 k = I 4600 k) ∧ C2.1 ≤ C.1 + 2 ∧ C2.2 ≤ C.2 + 16 := by
  have hL2 : L < 2 ^ 31 := by omega
  have e0 := rg_179_13 I J T L C (nI m) v5 v6
  rw [if_neg (fun e => absurd ((law_end hL (by omega)).mp e) (by omega)), am_inb_ok (by omega) hL2] at e0
  have go : ∀ tgt, am_E 179 13 [.ref 4600, .ref 1, .ref 49, .ref 92, .int (nI m), v5, v6] [] (am_W I J T L C) = am_E 179 tgt [.ref 4600, .ref 1, .ref 49, .ref 92, .int (nI m), v5, v6] [] (am_W I J T L C) → (∃ v5' v6' I2 J2 T2 C2, am_E 179 tgt [.ref 4600, .ref 1, .ref 49, .ref 92, .int (nI m), v5, v6] [] (am_W I J T L C) = am_E 179 422 [.ref 4600, .ref 1, .ref 49, .ref 92, .int (nI m), v5', v6'] [] (am_W I2 J2 T2 L C2) ∧ RLE (B + 100000000) I2 J2 T2 I2 J2 ∧ (∀ k, I2 4600 k = I 4600 k) ∧ C2.1 ≤ C.1 + 2 ∧ C2.2 ≤ C.2 + 16) → ∃ v5' v6' I2 J2 T2 C2, am_E 179 13 [.ref 4600, .ref 1, .ref 49, .ref 92, .int (nI m), v5, v6] [] (am_W I J T L C) = am_E 179 13 [.ref 4600, .ref 1, .ref 49, .ref 92, .int (nI (m + 4)), v5', v6'] [] (am_W I2 J2 T2 L C2) ∧ RLE (B + 100000000) I2 J2 T2 I2 J2 ∧ (∀ k, I2 4600 k = I 4600 k) ∧ C2.1 ≤ C.1 + 2 ∧ C2.2 ≤ C.2 + 16 := by
    intro tgt e ⟨v5', v6', I2, J2, T2, C2, a1, a2, a3, a4, a5⟩
    refine ⟨v5', v6', I2, J2, T2, C2, ?_, a2, a3, a4, a5⟩
    rw [e, a1, rg_179_422]
    have x4 : nI m + 4 = nI (m + 4) := nI_add m 4
    rw [x4]
  generalize I 4600 (Int32.toNatClampNeg (nI m)) &&& 15 = x at e0
  by_cases k0 : x = 0
  · rw [if_pos k0] at e0
    exact go 25 e0 (lt_feed v5 v6 h hm hL2)
  rw [if_neg k0] at e0
  by_cases k1 : x = 0 + 1
  · rw [if_pos k1] at e0
    exact go 94 e0 (lt_wipe v5 v6 h)
  rw [if_neg k1] at e0
  by_cases k2 : x = 0 + 1 + 1
  · rw [if_pos k2] at e0
    exact go 101 e0 (lt_load v5 v6 h)
  rw [if_neg k2] at e0
  by_cases k3 : x = 0 + 1 + 1 + 1
  · rw [if_pos k3] at e0
    exact go 108 e0 (lt_fault v5 v6 h)
  rw [if_neg k3] at e0
  by_cases k4 : x = 0 + 1 + 1 + 1 + 1
  · rw [if_pos k4] at e0
    exact go 115 e0 (lt_place v5 v6 h)
  rw [if_neg k4] at e0
  by_cases k5 : x = 0 + 1 + 1 + 1 + 1 + 1
  · rw [if_pos k5] at e0
    exact go 122 e0 (lt_reset v5 v6 h)
  rw [if_neg k5] at e0
  by_cases k6 : x = 0 + 1 + 1 + 1 + 1 + 1 + 1
  · rw [if_pos k6] at e0
    exact go 127 e0 (lt_input v5 v6 h hm hL2)
  rw [if_neg k6] at e0
  by_cases k7 : x = 0 + 1 + 1 + 1 + 1 + 1 + 1 + 1
  · rw [if_pos k7] at e0
    exact go 167 e0 (lt_scan v5 v6 h hm hL2 (by omega))
  rw [if_neg k7] at e0
  by_cases k8 : x = 0 + 1 + 1 + 1 + 1 + 1 + 1 + 1 + 1
  · rw [if_pos k8] at e0
    exact go 202 e0 (lt_run v5 v6 h hm hL2 hb)
  rw [if_neg k8] at e0
  by_cases k9 : x = 0 + 1 + 1 + 1 + 1 + 1 + 1 + 1 + 1 + 1
  · rw [if_pos k9] at e0
    exact go 247 e0 (lt_output v5 v6 h hm hL2)
  rw [if_neg k9] at e0
  by_cases k10 : x = 0 + 1 + 1 + 1 + 1 + 1 + 1 + 1 + 1 + 1 + 1
  · rw [if_pos k10] at e0
    exact go 285 e0 (lt_bits v5 v6 h hm hL2)
  rw [if_neg k10] at e0
  by_cases k11 : x = 0 + 1 + 1 + 1 + 1 + 1 + 1 + 1 + 1 + 1 + 1 + 1
  · rw [if_pos k11] at e0
    exact go 320 e0 (lt_word v5 v6 h hm hL2)
  rw [if_neg k11] at e0
  by_cases k12 : x = 0 + 1 + 1 + 1 + 1 + 1 + 1 + 1 + 1 + 1 + 1 + 1 + 1
  · rw [if_pos k12] at e0
    exact go 355 e0 (lt_block v5 v6 h hm hL2)
  rw [if_neg k12] at e0
  by_cases k13 : x = 0 + 1 + 1 + 1 + 1 + 1 + 1 + 1 + 1 + 1 + 1 + 1 + 1 + 1
  · rw [if_pos k13] at e0
    exact go 400 e0 (lt_done v5 v6 h)
  rw [if_neg k13] at e0
  by_cases k14 : x = 0 + 1 + 1 + 1 + 1 + 1 + 1 + 1 + 1 + 1 + 1 + 1 + 1 + 1 + 1
  · rw [if_pos k14] at e0
    exact go 407 e0 (lt_fired v5 v6 h)
  rw [if_neg k14] at e0
  by_cases k15 : x = 0 + 1 + 1 + 1 + 1 + 1 + 1 + 1 + 1 + 1 + 1 + 1 + 1 + 1 + 1 + 1
  · rw [if_pos k15] at e0
    exact go 414 e0 (lt_time v5 v6 h)
  rw [if_neg k15] at e0
  exact go 422 e0 ⟨v5, v6, I, J, T, C, rfl, RLE_b h, fun _ => rfl, by omega, by omega⟩
theorem law_loop {L : Nat} (hL : L < 2 ^ 30) : ∀ (d m B : Nat) (C : Nat × Nat) (I : Nat → Nat → Int32) (J : Nat → Nat → Int64) (T : Nat → Nat → Nat) (v5 v6 : Value), L < m + 4 * d + 4 → m ≤ L → B + d * 100000000 < 2 ^ 62 → RLE B I J T I J → ∃ I2 J2 T2 C2, am_E 179 13 [.ref 4600, .ref 1, .ref 49, .ref 92, .int (nI m), v5, v6] [] (am_W I J T L C) = some (.int 1, am_W I2 J2 T2 L C2) ∧ C2.1 ≤ C.1 + 2 * d ∧ C2.2 ≤ C.2 + 16 * d
  | 0, m, B, C, I, J, T, v5, v6, hd, hml, hb, h => by
    refine ⟨I, J, T, C, ?_, by omega, by omega⟩
    rw [rg_179_13, if_pos ((law_end hL (by omega)).mpr (by omega))]
  | d + 1, m, B, C, I, J, T, v5, v6, hd, hml, hb, h => by
    by_cases c : L < m + 4
    · refine ⟨I, J, T, C, ?_, by omega, by omega⟩
      rw [rg_179_13, if_pos ((law_end hL (by omega)).mpr c)]
    · obtain ⟨v5', v6', I2, J2, T2, C2, a1, a2, a3, a4, a5⟩ := law_turn (C := C) v5 v6 h (by omega : m + 3 < L) hL (by omega)
      obtain ⟨I3, J3, T3, C3, b1, b2, b3⟩ := law_loop hL d (m + 4) (B + 100000000) C2 I2 J2 T2 v5' v6' (by omega) (by omega) (by omega) a2
      exact ⟨I3, J3, T3, C3, a1.trans b1, by omega, by omega⟩

/-! THE MODEL'S SCAN: the row of inputs. -/
theorem ms_in (J : Nat → Nat → Int64) (T : Nat → Nat → Nat) (L : Nat) (C : Nat × Nat) (x1 : Int32) (f : Nat → Int32) : ∀ (d i : Nat) (I : Nat → Nat → Int32), i + d = 32 → (∀ k, am_b01 (decide (I 70 k ≠ 0)) = f k) → am_E 149 14 [.ref 49, .int x1, .int (nI i)] [] (am_W I J T L C) = (am_E 147 0 [.ref 49, .null, .null, .null, .null, .null] [] (am_W (am_up (am_flf I 71 i 32 f) 49 47 0) J T L C)).bind (fun z1 => am_vI z1.1 fun u1 => (am_E 149 34 [.ref 49, .int x1, .int (nI 32)] [.int u1, .ref 49] z1.2)) := by
  intro d
  induction d with
  | zero =>
    intro i I hi hf
    have e : i = 32 := by omega
    subst e
    rw [rg_149_14, if_pos (by decide +kernel), am_flf_z _ _ _ _ _ (by omega)]
  | succ d ih =>
    intro i I hi hf
    rw [rg_149_14]
    show (if nI 32 ≤ nI i then _ else _) = _
    rw [if_neg (nI_ge (by omega) (by decide)), am_inb_ok (by omega) (by decide), nI_clamp (by omega), mo_truth, am_okb, am_vIi, rg_149_25, am_inb_ok (by omega) (by decide), nI_clamp (by omega), nI_1, hf, ih (i + 1) _ (by omega) (fun k => by rw [am_up_at, if_neg (by omega)]; exact hf k), am_flf_s _ _ _ _ _ (by omega)]

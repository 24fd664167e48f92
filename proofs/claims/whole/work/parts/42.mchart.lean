/-! THE MODEL'S CHART: the mask of the steps active. -/
def mc_was (f : Nat → Int32) : Nat → Nat → Int32 → Int32
  | 0, _, w => w
  | d + 1, i, w => mc_was f d (i + 1) (w ||| (f i <<< (nI i &&& 31)))
theorem mc_was1 (I : Nat → Nat → Int32) (J : Nat → Nat → Int64) (T : Nat → Nat → Nat) (L : Nat) (C : Nat × Nat) (x2 : Int32) (v4 v5 v6 v7 : Value) : ∀ (d i : Nat) (w : Int32), i + d = 16 → am_E 148 6 [.ref 49, .int w, .int x2, .int (nI i), v4, v5, v6, v7] [] (am_W I J T L C) = am_E 148 27 [.ref 49, .int (mc_was (I 79) d i w), .int x2, .int 0, .int (16 * (I 49 22)), v5, v6, v7] [] (am_W I J T L C) := by
  intro d
  induction d with
  | zero =>
    intro i w hi
    have e : i = 16 := by omega
    subst e
    rw [rg_148_6, if_pos (by decide +kernel)]
    rfl
  | succ d ih =>
    intro i w hi
    rw [rg_148_6]
    show (if nI 16 ≤ nI i then _ else _) = _
    rw [if_neg (nI_ge (by omega) (by decide)), am_inb_ok (by omega) (by decide), nI_clamp (by omega), nI_1, ih (i + 1) _ (by omega)]
    rfl

/-! THE MODEL'S SCAN: the rows of inputs and of shown outputs. -/
def am_flf (I : Nat → Nat → Int32) (q a b : Nat) (f : Nat → Int32) : Nat → Nat → Int32 := fun x k => if x = q ∧ a ≤ k ∧ k < b then f k else I x k
theorem am_flf_z (I : Nat → Nat → Int32) (q a b : Nat) (f : Nat → Int32) (h : b ≤ a) : am_flf I q a b f = I := by
  funext x k
  unfold am_flf
  rw [if_neg (by omega)]
theorem am_flf_s (I : Nat → Nat → Int32) (q a b : Nat) (f : Nat → Int32) (h : a < b) : am_flf (am_up I q a (f a)) q (a + 1) b f = am_flf I q a b f := by
  funext x k
  unfold am_flf
  rw [am_up_at]
  by_cases h1 : x = q
  · subst h1
    by_cases h2 : k = a
    · subst h2
      rw [if_neg (by omega), if_pos ⟨rfl, rfl⟩, if_pos ⟨rfl, Nat.le_refl _, h⟩]
    · by_cases h3 : a ≤ k ∧ k < b
      · rw [if_pos ⟨rfl, by omega, h3.2⟩, if_pos ⟨rfl, h3⟩]
      · rw [if_neg (by omega), if_neg (by omega), if_neg (by omega)]
  · rw [if_neg (by omega), if_neg (by omega), if_neg (by omega)]
theorem ms_shown (J : Nat → Nat → Int64) (T : Nat → Nat → Nat) (L : Nat) (C : Nat × Nat) (x1 : Int32) (f : Nat → Int32) : ∀ (d i : Nat) (I : Nat → Nat → Int32), i + d = 32 → (∀ k, I 72 k = f k) → am_E 149 42 [.ref 49, .int x1, .int (nI i)] [] (am_W I J T L C) = some (.int (I 49 45), am_W (am_flf I 80 i 32 f) J T L C) := by
  intro d
  induction d with
  | zero =>
    intro i I hi hf
    have e : i = 32 := by omega
    subst e
    rw [rg_149_42, if_pos (by decide +kernel), am_flf_z _ _ _ _ _ (by omega)]
  | succ d ih =>
    intro i I hi hf
    rw [rg_149_42]
    show (if nI 32 ≤ nI i then _ else _) = _
    rw [if_neg (nI_ge (by omega) (by decide)), am_inb_ok (by omega) (by decide), am_inb_ok (by omega) (by decide), nI_clamp (by omega), nI_1, hf, ih (i + 1) _ (by omega) (fun k => by rw [am_up_at, if_neg (by omega)]; exact hf k), am_flf_s _ _ _ _ _ (by omega), am_up_at, if_neg (by omega)]

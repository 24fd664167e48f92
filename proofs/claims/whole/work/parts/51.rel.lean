/-! THE RELATION between the class's cells and the model's. -/
def R_b (m : Int32) (f : Nat → Int32) (n : Nat) : Prop := ∀ j, j < n → f j = am_b01 (am_bt m j)
def R_e (f g : Nat → Int32) (n : Nat) : Prop := ∀ j, j < n → g j = f j
def R_t (m : Int32) (b s : Nat → Int64) : Prop := ∀ j, j < 8 → (am_bt m j = true ∧ s j = b j ∧ 0 ≤ s j) ∨ (am_bt m j = false ∧ s j = -1)
def R_p (m : Int32) (f : Nat → Int32) : Prop := ∀ j, j < 8 → (am_bt m j = true ∧ ∃ b, f j = am_b01 b) ∨ (am_bt m j = false ∧ f j = am_b01 false)
def R_hi (m : Int32) : Prop := ∀ j, 16 ≤ j → j < 32 → am_bt m j = false
def R_cells (I I' : Nat → Nat → Int32) : Prop := R_b (I 24 0) (I' 71) 32 ∧ R_b (I 24 1) (I' 72) 32 ∧ R_b (I 24 2) (I' 73) 32 ∧ R_b (I 24 3) (I' 79) 16 ∧ R_b (I 24 4) (I' 76) 8 ∧ R_b (I 24 5) (I' 78) 8 ∧ R_e (I 25) (I' 74) 32 ∧ R_e (I 26) (I' 75) 8 ∧ R_e (I 27) (I' 77) 8 ∧ R_hi (I 24 3)
def R_past (I : Nat → Nat → Int32) (J : Nat → Nat → Int64) (I' : Nat → Nat → Int32) (J' : Nat → Nat → Int64) : Prop := R_t (I 28 0) (J 29) (J' 81) ∧ R_b (I 28 2) (I' 82) 8 ∧ R_t (I 28 3) (J 30) (J' 83) ∧ R_t (I 28 5) (J 31) (J' 84) ∧ R_p (I 28 5) (I' 85) ∧ R_b (I 28 7) (I' 86) 8 ∧ R_b (I 28 8) (I' 87) 8 ∧ R_b (I 28 9) (I' 88) 16 ∧ R_b (I 28 10) (I' 89) 16
def R_clock (J J' : Nat → Nat → Int64) : Prop := J' 49 44 = J 22 1 ∧ 0 ≤ J 22 1
def R_run (I : Nat → Nat → Int32) (J : Nat → Nat → Int64) (I' : Nat → Nat → Int32) (J' : Nat → Nat → Int64) : Prop := R_cells I I' ∧ R_past I J I' J' ∧ R_clock J J'
/-- signs: 0 AND, 1 ANDN, 2 OR .. 6 ADD .. 16 LT: the model's number, and whether it turns -/
def ow (a : Nat) : Nat := if a < 6 then a / 2 else a - 3
def oh (a : Nat) : Nat := if a < 6 then a % 2 else 0
def cmk (k : Nat) : Nat := [1, 2, 3, 9, 5, 7, 4, 10, 10, 6, 8, 0].getD k 10
def op_ok (k : Nat) (x : Int32) : Prop := k = 11 ∨ ∃ j, x = nI j ∧ ((k = 0 ∧ j < 32) ∨ (k = 1 ∧ j < 32) ∨ (k = 2 ∧ j < 32) ∨ (k = 3 ∧ j < 16) ∨ (k = 4 ∧ j < 8) ∨ (k = 5 ∧ j < 8) ∨ (k = 6 ∧ j < 32) ∨ (k = 9 ∧ j < 8) ∨ (k = 10 ∧ j < 8))
def R_list (I : Nat → Nat → Int32) (T : Nat → Nat → Nat) (I' : Nat → Nat → Int32) (d : Nat) : Prop := I' 49 60 = I 22 7 ∧ I 22 9 = nI d ∧ I' 49 59 = nI d ∧ d ≤ 8 ∧ ∀ e, e < d → ∃ a i, a < 17 ∧ i < 160 ∧ T 33 e = 1007 + a ∧ I' 90 e = I 32 e ∧ I' 91 e = nI i ∧ I' 51 i = nI (ow a) ∧ I' 52 i = nI (oh a + 2)
def FR (I : Nat → Nat → Int32) (J : Nat → Nat → Int64) (T : Nat → Nat → Nat) (I1 : Nat → Nat → Int32) (J1 : Nat → Nat → Int64) (T1 : Nat → Nat → Nat) : Prop := (∀ q k, (q < 22 ∨ 33 ≤ q ∨ (q = 22 ∧ k < 7 ∧ k ≠ 3)) → I1 q k = I q k) ∧ (∀ q k, (q < 29 ∨ 32 ≤ q) → J1 q k = J q k) ∧ (∀ q k, q ≠ 33 → T1 q k = T q k)
def FM (I : Nat → Nat → Int32) (J : Nat → Nat → Int64) (I1 : Nat → Nat → Int32) (J1 : Nat → Nat → Int64) : Prop := (∀ q k, (q < 49 ∨ (q = 49 ∧ k < 59) ∨ (50 ≤ q ∧ q ≤ 70) ∨ q = 80 ∨ 92 ≤ q) → I1 q k = I q k) ∧ (∀ q k, (q < 81 ∨ 92 ≤ q) → J1 q k = J q k)
/-- what becomes of an instruction that neither jumps nor returns: the class's and the model's -/
def SO (L : Nat) (C : Nat × Nat) (Lm : Nat) (Cm : Nat × Nat) (Tm : Nat → Nat → Nat) (p i d' : Nat) (I : Nat → Nat → Int32) (J : Nat → Nat → Int64) (T : Nat → Nat → Nat) (I' : Nat → Nat → Int32) (J' : Nat → Nat → Int64) : Prop := ∃ s I1 J1 T1 I2 J2, in_cl L C (T 44 p) p (am_up I 22 8 (nI (p + 1))) J T I1 J1 T1 ∧ am_E 146 0 [.ref 49, .int (nI i), .null, .null] [] (am_W I' J' Tm Lm Cm) = some (.int s, am_W I2 J2 Tm Lm Cm) ∧ R_run I1 J1 I2 J2 ∧ (I1 22 3 = s ∧ (s = 0 ∨ s = 2)) ∧ (s = 0 → R_list I1 T1 I2 d' ∧ I1 22 8 = nI (p + 1)) ∧ FR I J T I1 J1 T1 ∧ FM I' J' I2 J2
theorem am_up_ne {α : Type} {f : Nat → Nat → α} {q k : Nat} {v : α} {a b : Nat} (h : ¬ (a = q ∧ b = k)) : am_up f q k v a b = f a b := by rw [am_up_at, if_neg h]
theorem R_b_set {m : Int32} {I : Nat → Nat → Int32} {q n j : Nat} {b : Bool} (h : R_b m (I q) n) (hn : n ≤ 32) (hj : j < 32) : R_b (am_wb m j b) (am_up I q j (am_b01 b) q) n := by
  intro x hx
  rw [am_up_at, bt_wb hj (by omega)]
  by_cases e : x = j
  · rw [if_pos ⟨rfl, e⟩, if_pos e]
  · rw [if_neg (fun h => e h.2), if_neg e]
    exact h x hx
theorem R_e_set {f : Nat → Nat → Int32} {I : Nat → Nat → Int32} {q r n j : Nat} {v : Int32} (h : R_e (f r) (I q) n) : R_e (am_up f r j v r) (am_up I q j v q) n := by
  intro x hx
  rw [am_up_at, am_up_at]
  by_cases e : x = j
  · rw [if_pos ⟨rfl, e⟩, if_pos ⟨rfl, e⟩]
  · rw [if_neg (fun h => e h.2), if_neg (fun h => e h.2)]
    exact h x hx
theorem op_ok_cvok {k : Nat} {x : Int32} (h : op_ok k x) : cvok k x := by
  rcases h with h | ⟨j, e, h⟩
  · exact Or.inl h
  · refine Or.inr ⟨j, e, ?_⟩
    omega
theorem op_ok_mcvok {k : Nat} {x : Int32} (h : op_ok k x) : mcvok (cmk k) x := by
  rcases h with h | ⟨j, e, h⟩
  · subst h
    exact Or.inl rfl
  · refine Or.inr ⟨j, e, ?_⟩
    rcases h with ⟨h, hj⟩ | ⟨h, hj⟩ | ⟨h, hj⟩ | ⟨h, hj⟩ | ⟨h, hj⟩ | ⟨h, hj⟩ | ⟨h, hj⟩ | ⟨h, hj⟩ | ⟨h, hj⟩ <;> subst h
    · exact Or.inl ⟨rfl, hj⟩
    · exact Or.inr (Or.inl ⟨rfl, hj⟩)
    · exact Or.inr (Or.inr (Or.inl ⟨rfl, hj⟩))
    · exact Or.inr (Or.inr (Or.inr (Or.inr (Or.inr (Or.inr (Or.inr (Or.inr ⟨rfl, hj⟩)))))))
    · exact Or.inr (Or.inr (Or.inr (Or.inr (Or.inl ⟨rfl, hj⟩))))
    · exact Or.inr (Or.inr (Or.inr (Or.inr (Or.inr (Or.inr (Or.inl ⟨rfl, hj⟩))))))
    · exact Or.inr (Or.inr (Or.inr (Or.inl ⟨rfl, hj⟩)))
    · exact Or.inr (Or.inr (Or.inr (Or.inr (Or.inr (Or.inl ⟨rfl, hj⟩)))))
    · exact Or.inr (Or.inr (Or.inr (Or.inr (Or.inr (Or.inr (Or.inr (Or.inl ⟨rfl, hj⟩)))))))
theorem cv_mcv {I I' : Nat → Nat → Int32} {k : Nat} {x : Int32} (R : R_cells I I') (h : op_ok k x) : mcv I' (cmk k) x = cv I k x := by
  obtain ⟨c0, c1, c2, c3, c4, c5, c6, c7, c8, _⟩ := R
  rcases h with h | ⟨j, e, h⟩
  · subst h; rfl
  · subst e
    rcases h with ⟨h, hj⟩ | ⟨h, hj⟩ | ⟨h, hj⟩ | ⟨h, hj⟩ | ⟨h, hj⟩ | ⟨h, hj⟩ | ⟨h, hj⟩ | ⟨h, hj⟩ | ⟨h, hj⟩ <;> subst h
    · show I' 71 (nI j).toNatClampNeg = am_b01 (am_bt (I 24 0) (nI j).toNatClampNeg)
      rw [nI_clamp (by omega)]; exact c0 j hj
    · show I' 72 (nI j).toNatClampNeg = am_b01 (am_bt (I 24 1) (nI j).toNatClampNeg)
      rw [nI_clamp (by omega)]; exact c1 j hj
    · show I' 73 (nI j).toNatClampNeg = am_b01 (am_bt (I 24 2) (nI j).toNatClampNeg)
      rw [nI_clamp (by omega)]; exact c2 j hj
    · show I' 79 (nI j).toNatClampNeg = am_b01 (am_bt (I 24 3) (nI j).toNatClampNeg)
      rw [nI_clamp (by omega)]; exact c3 j hj
    · show I' 76 (nI j).toNatClampNeg = am_b01 (am_bt (I 24 4) (nI j).toNatClampNeg)
      rw [nI_clamp (by omega)]; exact c4 j hj
    · show I' 78 (nI j).toNatClampNeg = am_b01 (am_bt (I 24 5) (nI j).toNatClampNeg)
      rw [nI_clamp (by omega)]; exact c5 j hj
    · show I' 74 (nI j).toNatClampNeg = I 25 (nI j).toNatClampNeg
      rw [nI_clamp (by omega)]; exact c6 j hj
    · show I' 75 (nI j).toNatClampNeg = I 26 (nI j).toNatClampNeg
      rw [nI_clamp (by omega)]; exact c7 j hj
    · show I' 77 (nI j).toNatClampNeg = I 27 (nI j).toNatClampNeg
      rw [nI_clamp (by omega)]; exact c8 j hj
theorem am_gone_eq (now since : Int64) (lim : Int32) : am_gone now since lim = am_past now since lim := by
  unfold am_gone am_past
  by_cases h : lim.toInt64 ≤ now - since
  · rw [if_pos ((lg_cmp_ge _ _).mpr h)]
    by_cases h2 : lim.toInt64 < now - since
    · rw [if_pos ((lg_cmp_gt _ _).mpr h2)]
      exact Int32.toInt32_toInt64 _
    · rw [if_neg (fun h3 => h2 ((lg_cmp_gt _ _).mp h3))]
      have e : now - since = lim.toInt64 := by
        apply Int64.toInt_inj.mp
        have h1 := Int64.le_iff_toInt_le.mp h
        have h3 : ¬ lim.toInt64.toInt < (now - since).toInt := fun h => h2 (Int64.lt_iff_toInt_lt.mpr h)
        omega
      rw [e]
      exact Int32.toInt32_toInt64 _
  · rw [if_neg (fun h3 => h ((lg_cmp_ge _ _).mp h3))]
    have h2 : ¬ lim.toInt64 < now - since := by
      intro h3
      apply h
      have h1 := Int64.lt_iff_toInt_lt.mp h3
      exact Int64.le_iff_toInt_le.mpr (by omega)
    rw [if_neg (fun h3 => h2 ((lg_cmp_gt _ _).mp h3))]

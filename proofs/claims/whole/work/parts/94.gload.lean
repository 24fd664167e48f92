/-! READING A TEXT, in both. -/
theorem am_fl_in {I : Nat → Nat → Int32} {q a b k : Nat} {v : Int32} (h1 : a ≤ k) (h2 : k < b) : am_fl I q a b v q k = v := if_pos ⟨rfl, h1, h2⟩
theorem am_fl_out {I : Nat → Nat → Int32} {q a b x k : Nat} {v : Int32} (h : ¬ (x = q ∧ a ≤ k ∧ k < b)) : am_fl I q a b v x k = I x k := if_neg h
theorem CPf_fl {q a b : Nat} {v : Int32} (I : Nat → Nat → Int32) (h : 5 ≤ q ∧ q ≤ 21) : CPf I (am_fl I q a b v) := fun x k e => am_fl_out (fun c => e (Or.inr (by rw [c.1]; exact h)))
/-- the class's reader begins -/
theorem cl_begin (I : Nat → Nat → Int32) (J : Nat → Nat → Int64) (T : Nat → Nat → Nat) (L : Nat) (C : Nat × Nat) {tx : Nat → Nat} {N : Nat} (h : TX I 4 3 1 tx N) : ∃ I0, am_E 44 0 [.ref 2, .null, .null, .null] [] (am_W I J T L C) = am_E 44 27 [.ref 2, .int (nI 0), .null, .null] [] (am_W I0 J T L C) ∧ CN I0 tx N 0 ∧ CPf I I0 ∧ I0 2 2 = 0 ∧ I0 2 3 = -1 ∧ I0 2 9 = 0 ∧ I0 5 6 = 0 ∧ I0 6 5 = 0 ∧ I0 6 9 = 0 ∧ (∀ l, l < 32 → I0 19 l = -1) ∧ (∀ l, l < 32 → I0 20 l = -1) ∧ (∀ l, l < 16 → I0 21 l = -1) ∧ (∀ l, l < 48 → I0 12 l = 0) := by
  let A1 := am_up I 5 6 0
  let A2 := am_fl A1 19 0 32 (-1)
  let A3 := am_up (am_up A2 6 5 0) 6 9 0
  let A4 := am_fl A3 12 0 48 0
  let A5 := am_fl A4 20 0 32 (-1)
  let A6 := am_fl A5 21 0 16 (-1)
  let A7 := am_up (am_up (am_up (am_up A6 2 2 0) 2 3 (-1)) 2 9 0) 2 6 0
  have h7 : TX A7 4 3 1 tx N := h
  obtain ⟨I0, e1, e2, e3⟩ := ad_ok A7 J T L C h7 (Nat.zero_le N) (show A7 2 6 = nI 0 from rfl)
  have f7 : CPf I A7 := fun q k e => by
    show am_up (am_up (am_up (am_up A6 2 2 0) 2 3 (-1)) 2 9 0) 2 6 0 q k = _
    rw [am_up_ne (by omega), am_up_ne (by omega), am_up_ne (by omega), am_up_ne (by omega)]
    show am_fl A5 21 0 16 (-1) q k = _
    rw [am_fl_out (by omega)]
    show am_fl A4 20 0 32 (-1) q k = _
    rw [am_fl_out (by omega)]
    show am_fl A3 12 0 48 0 q k = _
    rw [am_fl_out (by omega)]
    show am_up (am_up A2 6 5 0) 6 9 0 q k = _
    rw [am_up_ne (by omega), am_up_ne (by omega)]
    show am_fl A1 19 0 32 (-1) q k = _
    rw [am_fl_out (by omega)]
    exact am_up_ne (by omega)
  refine ⟨I0, ?_, e2, CPf_t f7 (CPf_ft e3), ?_, ?_, ?_, ?_, ?_, ?_, ?_, ?_, ?_, ?_⟩
  · rw [rg_44_0, rg_40_0, lf_fill (q := 19) (N := 32) rfl (by decide), am_okb, rg_40_7, rg_8_0, lf_fill (q := 12) (N := 48) rfl (by decide), am_okb, rg_8_10, am_okb, rg_40_10, am_okb, rg_44_3, lf_fill (q := 20) (N := 32) rfl (by decide), am_okb, rg_44_7, lf_fill (q := 21) (N := 16) rfl (by decide), am_okb, rg_44_11]
    show Option.bind (am_E 47 0 [.ref 2] [] (am_W A7 J T L C)) _ = _
    rw [e1, am_okb, rg_44_25]
    rfl
  · rw [e3 2 2 (by omega)]; rfl
  · rw [e3 2 3 (by omega)]; rfl
  · rw [e3 2 9 (by omega)]; rfl
  · rw [e3 5 6 (by omega)]; rfl
  · rw [e3 6 5 (by omega)]; rfl
  · rw [e3 6 9 (by omega)]; rfl
  · intro l hl; rw [e3 19 l (by omega)]; exact am_fl_in (I := A1) (Nat.zero_le l) hl
  · intro l hl; rw [e3 20 l (by omega)]; exact am_fl_in (I := A4) (Nat.zero_le l) hl
  · intro l hl; rw [e3 21 l (by omega)]; exact am_fl_in (I := A5) (Nat.zero_le l) hl
  · intro l hl; rw [e3 12 l (by omega)]; exact am_fl_in (I := A3) (Nat.zero_le l) hl
def bgf (h : Nat) : Nat → Nat → (Nat → Nat → Int32) → Nat → Nat → Int32
  | 0, _, I => I
  | d + 1, k, I => bgf h d (k + 1) (am_up (am_up I 57 (32 * h + k) (-1)) 58 (16 * h + k % 16) 0)
theorem bg_idx : ∀ h, h < 2 → ∀ k, k < 32 → 16 * nI h + (nI k - nI k / 16 * 16) = nI (16 * h + k % 16) := by decide +kernel
theorem bgf_ne (h : Nat) : ∀ (d k : Nat) (I : Nat → Nat → Int32) (q j : Nat), k + d ≤ 32 → ¬ (q = 57 ∧ 32 * h ≤ j ∧ j < 32 * h + 32) → ¬ (q = 58 ∧ 16 * h ≤ j ∧ j < 16 * h + 16) → bgf h d k I q j = I q j
  | 0, _, _, _, _, _, _, _ => rfl
  | d + 1, k, I, q, j, hd, h1, h2 => by
    show bgf h d (k + 1) (am_up (am_up I 57 (32 * h + k) (-1)) 58 (16 * h + k % 16) 0) q j = _
    rw [bgf_ne h d (k + 1) _ q j (by omega) h1 h2, am_up_ne (by omega), am_up_ne (by omega)]
theorem bgf_57 (h : Nat) : ∀ (d k : Nat) (I : Nat → Nat → Int32) (j : Nat), (I 57 (32 * h + j) = -1 ∨ (k ≤ j ∧ j < k + d)) → bgf h d k I 57 (32 * h + j) = -1
  | 0, k, I, j, hj => by
    rcases hj with e | e
    · exact e
    · omega
  | d + 1, k, I, j, hj => by
    refine bgf_57 h d (k + 1) _ j ?_
    rw [am_up_ne (by omega), am_up_at]
    split
    · exact Or.inl rfl
    · rename_i c
      rcases hj with e | e
      · exact Or.inl e
      · exact Or.inr (by omega)
theorem bgf_58 (h : Nat) : ∀ (d k : Nat) (I : Nat → Nat → Int32) (s : Nat), (I 58 (16 * h + s) = 0 ∨ (s < 16 ∧ ∃ j, k ≤ j ∧ j < k + d ∧ j % 16 = s)) → bgf h d k I 58 (16 * h + s) = 0
  | 0, k, I, s, hj => by
    rcases hj with e | ⟨e, j, e1, e2, e3⟩
    · exact e
    · omega
  | d + 1, k, I, s, hj => by
    refine bgf_58 h d (k + 1) _ s ?_
    rw [am_up_at]
    split
    · exact Or.inl rfl
    · rename_i c
      rcases hj with e | ⟨e, j, e1, e2, e3⟩
      · rw [am_up_ne (by omega)]; exact Or.inl e
      · refine Or.inr ⟨e, j, ?_, by omega, e3⟩
        by_cases q : j = k
        · subst q
          exact absurd ⟨rfl, by omega⟩ c
        · omega
theorem bg_35 (J : Nat → Nat → Int64) (T : Nat → Nat → Nat) (L : Nat) (C : Nat × Nat) {h : Nat} (hh : h < 2) : ∀ (d k : Nat) (I : Nat → Nat → Int32), k + d = 48 → I 49 23 = nI h → am_E 128 35 [.ref 49, .int (nI k)] [] (am_W I J T L C) = am_E 128 52 [.ref 49, .int (nI 0)] [] (am_W (am_fl I 59 (48 * h + k) (48 * h + 48) 0) J T L C)
  | 0, k, I, hd, h23 => by
    have e : k = 48 := by omega
    subst e
    rw [rg_128_35, if_pos (show (48 : Int32) ≤ nI 48 by decide), am_fl_z _ _ _ _ _ (Nat.le_refl _)]
    rfl
  | d + 1, k, I, hd, h23 => by
    have q1 : ∀ h, h < 2 → 48 * nI h = nI (48 * h) := by decide +kernel
    rw [rg_128_35, if_neg (show ¬ (48 : Int32) ≤ nI k from nI_ge (a := k) (b := 48) (by omega) (by decide)), h23, q1 h hh, nI_add, am_inb_ok (by omega) (by decide), nI_clamp (by omega), nI_1, bg_35 J T L C hh d (k + 1) _ (by omega) ((am_up_ne (by omega)).trans h23)]
    rw [show 48 * h + (k + 1) = 48 * h + k + 1 by omega, am_fl_s _ _ _ _ _ (by omega)]
theorem bg_52 (J : Nat → Nat → Int64) (T : Nat → Nat → Nat) (L : Nat) (C : Nat × Nat) {h : Nat} (hh : h < 2) : ∀ (d k : Nat) (I : Nat → Nat → Int32), k + d = 32 → I 49 23 = nI h → am_E 128 52 [.ref 49, .int (nI k)] [] (am_W I J T L C) = some (.null, am_W (bgf h d k I) J T L C)
  | 0, k, I, hd, h23 => by
    have e : k = 32 := by omega
    subst e
    rw [rg_128_52, if_pos (show (32 : Int32) ≤ nI 32 by decide)]
    rfl
  | d + 1, k, I, hd, h23 => by
    rw [rg_128_52, if_neg (show ¬ (32 : Int32) ≤ nI k from nI_ge (a := k) (b := 32) (by omega) (by decide)), h23, mo_32 hh, am_inb_ok (by omega) (by decide), if_neg (show ¬ (16 : Int32) = 0 by decide), bg_idx h hh k (by omega), am_inb_ok (by omega) (by decide), nI_clamp (by omega), nI_clamp (by omega), nI_1, bg_52 J T L C hh d (k + 1) _ (by omega) ((am_up_ne (by omega)).trans ((am_up_ne (by omega)).trans h23))]
    rfl
def MPq (h : Nat) (I I1 : Nat → Nat → Int32) : Prop := ∀ q k, ¬ (MA h q k ∨ (q = 49 ∧ (k = 0 ∨ k = 23))) → I1 q k = I q k
/-- the model's reader begins -/
theorem mo_begin (I : Nat → Nat → Int32) (J : Nat → Nat → Int64) (T : Nat → Nat → Nat) (L : Nat) (C : Nat × Nat) {tx : Nat → Nat} {N o : Nat} (h : TX I 50 49 2 tx N) (ho : o < 2) (h22 : I 49 22 = nI o) : ∃ I0, am_E 129 0 [.ref 49, .null, .null, .null] [] (am_W I J T L C) = am_E 129 7 [.ref 49, .null, .null, .null] [] (am_W I0 J T L C) ∧ MK I0 (tkf tx N 0) (tkt tx N (tkf tx N 0)) ∧ MPq (1 - o) I I0 ∧ I0 49 0 = 0 ∧ I0 49 3 = 0 ∧ I0 49 4 = -1 ∧ I0 49 23 = nI (1 - o) ∧ I0 49 27 = 0 ∧ I0 49 32 = 0 ∧ I0 56 (1 - o) = 0 ∧ I0 67 (1 - o) = 0 ∧ (∀ l, l < 32 → I0 57 (32 * (1 - o) + l) = -1) ∧ (∀ s, s < 16 → I0 58 (16 * (1 - o) + s) = 0) ∧ (∀ x, x < 48 → I0 59 (48 * (1 - o) + x) = 0) := by
  have eh : (1 : Int32) - nI o = nI (1 - o) := by
    rcases (show o = 0 ∨ o = 1 by omega) with e | e <;> rw [e] <;> rfl
  have hh : 1 - o < 2 := by omega
  generalize 1 - o = h' at *
  let A1 := am_up (am_up (am_up (am_up (am_up (am_up (am_up (am_up (am_up I 49 0 0) 49 3 0) 49 4 (-1)) 49 23 (nI h')) 49 26 0) 49 27 0) 49 32 0) 56 h' 0) 67 h' 0
  let A2 := am_fl A1 59 (48 * h' + 0) (48 * h' + 48) 0
  let A3 := bgf h' 32 0 A2
  have a2 : ∀ q k, q ≠ 59 → A2 q k = A1 q k := fun q k e => am_fl_out (fun c => e c.1)
  have a3 : ∀ q k, q ≠ 57 → q ≠ 58 → A3 q k = A2 q k := fun q k e e2 => bgf_ne h' 32 0 A2 q k (by omega) (fun c => e c.1) (fun c => e2 c.1)
  have h3 : TX A3 50 49 2 tx N := ⟨(a3 49 2 (by decide) (by decide)).trans h.1, h.2.1, fun i hi => ⟨(a3 50 i (by decide) (by decide)).trans (h.2.2 i hi).1, (h.2.2 i hi).2⟩⟩
  obtain ⟨I0, e1, e2, e3, e4⟩ := nx_ok A3 J T L C h3 (Nat.zero_le N) (show A3 49 26 = nI 0 from a3 49 26 (by decide) (by decide))
  have v49 : ∀ k, ¬ (24 ≤ k ∧ k ≤ 26) → I0 49 k = A1 49 k := fun k hk => (e4 49 k (by omega)).trans (a3 49 k (by decide) (by decide))
  refine ⟨I0, ?_, ⟨e2, e3⟩, ?_, (v49 0 (by omega)).trans rfl, (v49 3 (by omega)).trans rfl, (v49 4 (by omega)).trans rfl, (v49 23 (by omega)).trans rfl, (v49 27 (by omega)).trans rfl, (v49 32 (by omega)).trans rfl, ?_, ?_, ?_, ?_, ?_⟩
  · have e22 : am_up I 49 0 0 49 22 = nI o := h22
    have c2 : Int32.toNatClampNeg (nI h') = h' := nI_clamp (by omega)
    rw [rg_129_0, rg_128_0, e22, eh, am_inb_ok hh (by decide), am_inb_ok hh (by decide), c2]
    show Option.bind (am_E 128 35 [.ref 49, .int (nI 0)] [] (am_W A1 J T L C)) _ = _
    rw [bg_35 J T L C hh 48 0 A1 rfl rfl, bg_52 J T L C hh 32 0 A2 rfl rfl, am_okb, rg_129_5, e1, am_okb]
  · intro q k hq
    unfold MA at hq
    rw [e4 q k (by omega)]
    by_cases c57 : q = 57
    · subst c57
      show bgf h' 32 0 A2 57 k = _
      rw [bgf_ne h' 32 0 A2 57 k (by omega) (fun c => hq (Or.inl (Or.inr (Or.inr (Or.inr ⟨by decide, by decide, c.2.1, c.2.2⟩))))) (by omega), a2 57 k (by decide)]
      exact (am_up_ne (by omega)).trans ((am_up_ne (by omega)).trans rfl)
    · by_cases c58 : q = 58
      · subst c58
        show bgf h' 32 0 A2 58 k = _
        rw [bgf_ne h' 32 0 A2 58 k (by omega) (by omega) (fun c => hq (Or.inl (Or.inr (Or.inr (Or.inr ⟨by decide, by decide, c.2.1, c.2.2⟩))))), a2 58 k (by decide)]
        exact (am_up_ne (by omega)).trans ((am_up_ne (by omega)).trans rfl)
      · rw [a3 q k c57 c58]
        have e59 : A2 q k = A1 q k := am_fl_out (fun c => hq (Or.inl (Or.inr (Or.inr (Or.inr ⟨by omega, by omega, by rw [c.1]; show 48 * h' ≤ k; omega, by rw [c.1]; show k < 48 * h' + 48; omega⟩)))))
        rw [e59]
        have n67 : ¬ (q = 67 ∧ k = h') := fun c => hq (Or.inl (Or.inr (Or.inr (Or.inr ⟨by omega, by omega, by rw [c.1, c.2]; show 1 * h' ≤ h'; omega, by rw [c.1, c.2]; show h' < 1 * h' + 1; omega⟩))))
        have n56 : ¬ (q = 56 ∧ k = h') := fun c => hq (Or.inl (Or.inr (Or.inr (Or.inr ⟨by omega, by omega, by rw [c.1, c.2]; show 1 * h' ≤ h'; omega, by rw [c.1, c.2]; show h' < 1 * h' + 1; omega⟩))))
        show am_up (am_up (am_up (am_up (am_up (am_up (am_up (am_up (am_up I 49 0 0) 49 3 0) 49 4 (-1)) 49 23 (nI h')) 49 26 0) 49 27 0) 49 32 0) 56 h' 0) 67 h' 0 q k = _
        rw [am_up_ne n67, am_up_ne n56, am_up_ne (by omega), am_up_ne (by omega), am_up_ne (by omega), am_up_ne (by omega), am_up_ne (by omega), am_up_ne (by omega), am_up_ne (by omega)]
  · rw [e4 56 h' (by omega), a3 56 h' (by decide) (by decide), a2 56 h' (by decide)]
    exact (am_up_ne (by omega)).trans (am_up_here _ _ _ _)
  · rw [e4 67 h' (by omega), a3 67 h' (by decide) (by decide), a2 67 h' (by decide)]
    exact am_up_here _ _ _ _
  · intro l hl
    rw [e4 57 _ (by omega)]
    exact bgf_57 h' 32 0 A2 l (Or.inr ⟨Nat.zero_le l, by omega⟩)
  · intro s hs
    rw [e4 58 _ (by omega)]
    exact bgf_58 h' 32 0 A2 s (Or.inr ⟨hs, s, Nat.zero_le s, by omega, Nat.mod_eq_of_lt hs⟩)
  · intro x hx
    rw [e4 59 _ (by omega), a3 59 _ (by decide) (by decide)]
    exact am_fl_in (I := A1) (by omega) (by omega)

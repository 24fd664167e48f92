/-! SOUNDNESS OF A STEP. -/
theorem am_S0_24 {L q : Nat} (h : (am_S0 L q).1 = 24) : q = 4600 ∧ (am_S0 L q).2 = L := by
  unfold am_S0 at h ⊢
  by_cases hq : q = 4600
  · subst hq; exact ⟨rfl, rfl⟩
  · exfalso
    rw [show Nat.beq q 4600 = false from am_nbeq hq] at h
    revert h
    cases Nat.ble q 1000 <;> cases Nat.ble q 1041 <;> cases Nat.ble q 2000 <;> cases Nat.ble q 2055 <;> cases Nat.ble q 3000 <;> cases Nat.ble q 3055 <;> cases Nat.ble q 4000 <;> cases Nat.beq q 4001 <;> cases Nat.ble q 4003 <;> exact fun h => absurd h (by show ¬ (_ : Nat) = 24; first | exact (by decide : ¬ (0 : Nat) = 24) | exact (by decide : ¬ (30 : Nat) = 24) | exact (by decide : ¬ (31 : Nat) = 24) | exact (by decide : ¬ (27 : Nat) = 24) | exact (by decide : ¬ (25 : Nat) = 24) | exact (by decide : ¬ (26 : Nat) = 24))
theorem am_tk_int {t : FieldType} (h : am_tk t = 0) : t = .int := by cases t <;> first | rfl | cases h
theorem am_tk_long {t : FieldType} (h : am_tk t = 1) : t = .long := by cases t <;> first | rfl | cases h
theorem am_tk_boolean {t : FieldType} (h : am_tk t = 5) : t = .boolean := by cases t <;> first | rfl | cases h
theorem am_tk_ref {t : FieldType} (h : am_tk t = 2) : (∃ z, t = .object z) ∨ ∃ z, t = .array z := by cases t <;> first | exact Or.inl ⟨_, rfl⟩ | exact Or.inr ⟨_, rfl⟩ | cases h
theorem am_tk_9 {b : Nat} (a : 1 ≤ b) (z : b ≤ 9) : ∀ k, k < (am_fldD b).2.2 → am_ft b k ≠ 9 := am_cases9 (P := fun b => ∀ k, k < (am_fldD b).2.2 → am_ft b k ≠ 9) (by decide +kernel) (by decide +kernel) (by decide +kernel) (by decide +kernel) (by decide +kernel) (by decide +kernel) (by decide +kernel) (by decide +kernel) (by decide +kernel) a z
theorem am_newI {h : am_H} {kd len : Nat} : (am_new h kd len).1.1 (h.2.1.2.2 + 1) = fun _ => 0 := by
  funext j
  show am_clr h.1.1 (h.2.1.2.2 + 1) 0 (h.2.1.2.2 + 1) j = 0
  rw [am_clr_eq, if_pos rfl]
theorem am_newJ {h : am_H} {kd len : Nat} : (am_new h kd len).1.2.1 (h.2.1.2.2 + 1) = fun _ => 0 := by
  funext j
  show am_clr h.1.2.1 (h.2.1.2.2 + 1) 0 (h.2.1.2.2 + 1) j = 0
  rw [am_clr_eq, if_pos rfl]
theorem am_newT {L : Nat} {xs : Nat → Int32} {adc ad : Nat → Option Nat} {h : am_H} {kd len q1 : Nat} (g : am_gd L xs adc ad h) : (fun j => am_adN ad (h.2.1.2.2 + 1) q1 ((am_new h kd len).1.2.2 (h.2.1.2.2 + 1) j)) = fun _ => none := by
  funext j
  rw [show (am_new h kd len).1.2.2 (h.2.1.2.2 + 1) j = 0 from (am_clr_eq h.1.2.2 (h.2.1.2.2 + 1) 0 (h.2.1.2.2 + 1) j).trans (if_pos rfl), am_adN_ne (by omega), g.2.1]
theorem am_fields_new {L : Nat} {xs : Nat → Int32} {adc ad : Nat → Option Nat} {h : am_H} {a b q1 : Nat} (g : am_gd L xs adc ad h) (b1 : 1 ≤ a) (b9 : a ≤ 9) (hb : b ≤ (am_fldD a).2.2) : am_fields (am_adN ad (h.2.1.2.2 + 1) q1) (am_new h a b) (h.2.1.2.2 + 1) a b = (List.range b).map fun j => defaultValue (am_tyD a j) := by
  unfold am_fields
  apply List.map_congr_left
  intro j hj
  have hj := List.mem_range.mp hj
  have h1 := am_tk_ok b1 b9 j (by omega)
  have h2 := am_tk_9 b1 b9 j (by omega)
  rw [am_newI, am_newJ, show (am_new h a b).2.1.1 (h.2.1.2.2 + 1) j = 0 from (am_clr_eq h.2.1.1 (h.2.1.2.2 + 1) 0 (h.2.1.2.2 + 1) j).trans (if_pos rfl), am_adN_ne (show (0 : Nat) ≠ h.2.1.2.2 + 1 by omega), g.2.1]
  rw [← h1] at h2 ⊢
  revert h2
  generalize am_tyD a j = t
  intro h2
  cases t <;> first | rfl | exact absurd rfl h2
theorem am_up_upd (f : Nat → Nat → Int32) (q k : Nat) (v : Int32) : am_up f q k v q = upd (f q) k v := by
  funext j
  rw [am_up_eq]
  unfold upd
  simp
theorem am_up_updL (f : Nat → Nat → Int64) (q k : Nat) (v : Int64) : am_up f q k v q = vp_updL (f q) k v := by
  funext j
  rw [am_up_eq]
  unfold vp_updL
  simp
theorem am_inj {L : Nat} {xs : Nat → Int32} {adc ad : Nat → Option Nat} {h : am_H} {A : Nat → Prop} {U : State} {H : Heap} (g : am_gd L xs adc ad h) (C : am_Cst L xs adc A U H) {x y : Nat} (hx : (am_S h x).1 = 30 ∨ x = 0) (hy : (am_S h y).1 = 30 ∨ y = 0) (e : ad x = ad y) : x = y := by
  have key : ∀ {z : Nat}, (am_S h z).1 = 30 → (am_S0 L z).1 = 30 ∧ ad z = adc z := fun {z} hz => by
    obtain ⟨h1, h2⟩ := am_dead g (q := z) (by omega)
    exact ⟨by rw [← h1]; exact hz, g.2.2.2.2.2.2.2.1 z h2⟩
  rcases hx with hx | hx
  · obtain ⟨h1, h2⟩ := key hx
    rcases hy with hy | hy
    · obtain ⟨h3, h4⟩ := key hy
      exact C.2.1 x y h1 h3 (by rw [← h2, ← h4, e])
    · exfalso
      obtain ⟨-, a, h5, -⟩ := C.1 x h1
      rw [hy, g.2.1, h2, h5] at e
      cases e
  · rcases hy with hy | hy
    · exfalso
      obtain ⟨h3, h4⟩ := key hy
      obtain ⟨-, a, h5, -⟩ := C.1 y h3
      rw [hx, g.2.1, h4, h5] at e
      cases e
    · rw [hx, hy]
theorem nI_succ_comm (j : Nat) : Int32.ofNat (j + 1) = 1 + Int32.ofNat j := by
  rw [Int32.add_comm]
  exact nI_succ j
section AMS
variable {p : Program} {l : Launch} {e : Env} {R : Room} {s : State} {m : MethodId} {args : Array Value} {below : List Frame} {meth : Method} {c : Code} {Q : State → Prop}
/-- the special calls of the law: given for themselves -/
def am_Spec (p : Program) (l : Launch) (e : Env) (R : Room) (s : State) (m : MethodId) (args : Array Value) (below : List Frame) (meth : Method) (c : Code) (Q : State → Prop) (G : va_G) (cA : Nat → ClassId) (L : Nat) (xs : Nat → Int32) (adc : Nat → Option Nat) (A : Nat → Prop) (k : Nat) (E : (Nat → Option Nat) → Prop) (n0 c0 s0 : Nat) (rf : Value) (hf : am_H) (n : Nat) : Prop :=
  ∀ (i a b cc : Nat) (ir : Instr) (ls st : List Value) (h : am_H) (ad : Nat → Option Nat) (H : Heap) (locs : List Loc) (Ls : Array Slot), am_ins k i = (ir, a, b, cc) → (∃ z, ir = .invokevirtual z ∨ ir = .invokespecial z ∨ ir = .invokestatic z) → (cc = 97 ∨ cc = 98) → am_call (am_ex n) k i ls st h a b cc = some (rf, hf) → am_Wd G cA L xs adc A s ad h H locs → am_Lr ad (am_nL k) ls Ls → am_vs h.2.1.2.2 ls → am_vs h.2.1.2.2 st → E ad → n0 ≤ h.2.1.2.2 → c0 ≤ h.2.2.1 → s0 ≤ h.2.2.2 →
    W p l e R s m args below meth c H locs (h.2.2.1 - c0) (h.2.2.2 - s0) Q (F0 m (am_pc k i) Ls (st.map (am_cv ad)))
theorem am_fin_ri {k : Nat} {v : Value} {h : am_H} {z : Value × am_H} (e : am_fin k v h = some z) : ∃ t, am_rt k = t ∧ t ≠ 0 ∧ ((∃ x, v = .int x ∧ am_ri t = .ireturn) ∨ (∃ x, v = .long x ∧ am_ri t = .lreturn) ∨ (∃ x, v = .ref x ∧ am_ri t = .areturn)) := by
  unfold am_fin at e
  split at e
  · rename_i h1; exact ⟨_, h1, by decide, Or.inl ⟨_, rfl, rfl⟩⟩
  · rename_i h1; exact ⟨_, h1, by decide, Or.inr (Or.inl ⟨_, rfl, rfl⟩)⟩
  · rename_i h1; exact ⟨_, h1, by decide, Or.inr (Or.inr ⟨_, rfl, rfl⟩)⟩
  · rename_i h1; exact ⟨_, h1, by decide, Or.inl ⟨_, rfl, rfl⟩⟩
  · rename_i h1; exact ⟨_, h1, by decide, Or.inl ⟨_, rfl, rfl⟩⟩
  · rename_i h1; exact ⟨_, h1, by decide, Or.inl ⟨_, rfl, rfl⟩⟩
  · cases e
theorem am_rs_ne {t : Nat} (h : t ≠ 0) (v : Value) : am_rs t v = [v] := by
  cases t with
  | zero => exact absurd rfl h
  | succ t => rfl
theorem am_sel_inv {x : Int32} {d : Nat} {k : Nat → am_R} {z : Value × am_H} : ∀ (ts : List Nat) (lo : Int32), am_sel k x d lo ts = some z → (∃ (j : Nat) (t : Nat), ts[j]? = some t ∧ x = lo + Int32.ofNat j ∧ k t = some z) ∨ ((∀ j, j < ts.length → x ≠ lo + Int32.ofNat j) ∧ k d = some z)
  | [], lo, h => Or.inr ⟨fun j hj => absurd hj (Nat.not_lt_zero _), h⟩
  | t :: ts, lo, h => by
    unfold am_sel at h
    by_cases q : x = lo
    · rw [if_pos q] at h
      exact Or.inl ⟨0, t, rfl, by rw [q]; simp, h⟩
    · rw [if_neg q] at h
      rcases am_sel_inv ts (lo + 1) h with ⟨j, u, h1, h2, h3⟩ | ⟨h1, h2⟩
      · refine Or.inl ⟨j + 1, u, by simpa using h1, ?_, h3⟩
        rw [h2, Int32.add_assoc, ← nI_succ_comm]
      · refine Or.inr ⟨fun j hj => ?_, h2⟩
        rcases j with _ | j
        · simpa using q
        · have := h1 j (by simpa using hj)
          rwa [Int32.add_assoc, ← nI_succ_comm] at this
def am_Calls (p : Program) (l : Launch) (e : Env) (R : Room) (s : State) (m : MethodId) (args : Array Value) (below : List Frame) (meth : Method) (c : Code) (Q : State → Prop) (G : va_G) (cA : Nat → ClassId) (L : Nat) (xs : Nat → Int32) (adc : Nat → Option Nat) (A : Nat → Prop) (k : Nat) (E : (Nat → Option Nat) → Prop) (n0 c0 s0 : Nat) (rf : Value) (hf : am_H) (n : Nat) : Prop :=
  ∀ (i a b cc : Nat) (ir : Instr) (ls st : List Value) (h : am_H) (ad : Nat → Option Nat) (H : Heap) (locs : List Loc) (Ls : Array Slot), am_ins k i = (ir, a, b, cc) → (∃ z, ir = .invokevirtual z ∨ ir = .invokespecial z ∨ ir = .invokestatic z) → ¬ (cc = 97 ∨ cc = 98) → am_call (am_ex n) k i ls st h a b cc = some (rf, hf) → am_Wd G cA L xs adc A s ad h H locs → am_Lr ad (am_nL k) ls Ls → am_vs h.2.1.2.2 ls → am_vs h.2.1.2.2 st → E ad → n0 ≤ h.2.1.2.2 → c0 ≤ h.2.2.1 → s0 ≤ h.2.2.2 →
    W p l e R s m args below meth c H locs (h.2.2.1 - c0) (h.2.2.2 - s0) Q (F0 m (am_pc k i) Ls (st.map (am_cv ad)))
end AMS

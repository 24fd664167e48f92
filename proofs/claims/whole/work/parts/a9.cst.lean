/-! THE CONSTANTS AT THE START. -/
theorem st_O {args : Array Value} {s : State} {A : Nat → Prop} (hfl : ∀ (i : Nat) {w : Cond}, st_fw i = w → w.before args s = true) (hA : ∀ a : Nat, a < s.heap.size → ¬ A a) {i : Nat} (hi : i < 41) : ∃ a : Nat, (st_tO i).eval args s none [] s = some (.ref a) ∧ va_O "ScanChart$Op" a A s s.heap := by
  have h := hfl _ (st_in (α := Nat) st_x1 i hi)
  obtain ⟨a, c, cell, k, q1, q2, q3, q4, q5, q6, -⟩ := Cond.exactly_spec (args := args) (first := s) (o := none) (s := s) (idx := []) (t := st_tO i) h
  exact ⟨a, q1, cell, q3, q5, by rw [q6]; exact q2, hA a (Array.getElem?_eq_some_iff.mp q3).1⟩
theorem st_S1 {args : Array Value} {s : State} {A : Nat → Prop} (hfl : ∀ (i : Nat) {w : Cond}, st_fw i = w → w.before args s = true) (hA : ∀ a : Nat, a < s.heap.size → ¬ A a) {i : Nat} (hi : i < 55) : ∃ a t : Nat, (st_tS i).eval args s none [] s = some (.ref a) ∧ va_O "java/lang/String" a A s s.heap ∧ va_OF "java/lang/String" "coder" "B" (.int 0) a A s s.heap ∧ (st_tB i).eval args s none [] s = some (.ref t) ∧ va_OF "java/lang/String" "value" "[B" (.ref t) a A s s.heap ∧ va_T .byte t (am_get am_blen i 0) (fun j => .int (am_cI (3001 + i) j)) A s s.heap := by
  have h := hfl _ (st_in (α := Nat) st_y1 i hi)
  obtain ⟨a, c, cell, k, q1, q2, q3, q4, q5, q6, -⟩ := Cond.exactly_spec (args := args) (first := s) (o := none) (s := s) (idx := []) (t := st_tS i) h
  have h2 := hfl _ (st_in (α := Nat) st_y2 i hi)
  have h3 := hfl _ (st_in (α := Nat) st_y3 i hi)
  obtain ⟨e4, l4⟩ := st_in (α := Nat) st_y4 i hi
  have h4 := hfl _ e4
  have h5 : ∀ j : Nat, j < am_get am_blen i 0 → (Term.elem (st_tB i) (.int (Int32.ofNat j))).eval args s none [] s = some (.int (am_cI (3001 + i) j)) := fun j hj => by
    have e5 := List.all_eq_true.mp st_y5 i (List.mem_range.mpr hi)
    have e6 := of_decide_eq_true (List.all_eq_true.mp e5 j (List.mem_range.mpr hj))
    exact va_eqt (hfl _ e6)
  obtain ⟨t, ht, hT⟩ := va_Tof (f := fun j => .int (am_cI (3001 + i) j)) (A := A) l4 h3 (va_eqt h4) h5 hA
  exact ⟨a, t, q1, ⟨cell, q3, q5, by rw [q6]; exact q2, hA a (Array.getElem?_eq_some_iff.mp q3).1⟩, vk_OFof q1 (va_eqt h2) hA, ht, vk_OFof q1 ht hA, hT⟩
theorem st_k30 {L q : Nat} (h : (am_S0 L q).1 = 30) : ∃ i, i < 41 ∧ q = 1001 + i := by
  rcases st_kinds L q with ⟨-, e⟩ | ⟨a, b, e⟩ | ⟨-, -, e⟩ | ⟨-, -, e⟩ | ⟨-, e⟩ | ⟨-, e⟩ | ⟨-, e⟩ | ⟨-, e⟩ | ⟨-, e⟩ <;> rw [e] at h <;> first | exact absurd h (show ¬ (0 : Nat) = 30 by decide) | exact absurd h (show ¬ (31 : Nat) = 30 by decide) | exact absurd h (show ¬ (27 : Nat) = 30 by decide) | exact absurd h (show ¬ (25 : Nat) = 30 by decide) | exact absurd h (show ¬ (24 : Nat) = 30 by decide) | exact absurd h (show ¬ (26 : Nat) = 30 by decide) | exact ⟨q - 1001, by omega, by omega⟩
theorem st_k31 {L q : Nat} (h : (am_S0 L q).1 = 31) : ∃ i, i < 55 ∧ q = 2001 + i := by
  rcases st_kinds L q with ⟨-, e⟩ | ⟨-, -, e⟩ | ⟨a, b, e⟩ | ⟨-, -, e⟩ | ⟨-, e⟩ | ⟨-, e⟩ | ⟨-, e⟩ | ⟨-, e⟩ | ⟨-, e⟩ <;> rw [e] at h <;> first | exact absurd h (show ¬ (0 : Nat) = 31 by decide) | exact absurd h (show ¬ (30 : Nat) = 31 by decide) | exact absurd h (show ¬ (27 : Nat) = 31 by decide) | exact absurd h (show ¬ (25 : Nat) = 31 by decide) | exact absurd h (show ¬ (24 : Nat) = 31 by decide) | exact absurd h (show ¬ (26 : Nat) = 31 by decide) | exact ⟨q - 2001, by omega, by omega⟩
theorem st_k27 {L q : Nat} (h : (am_S0 L q).1 = 27) : ∃ i, i < 55 ∧ q = 3001 + i ∧ (am_S0 L q).2 = am_get am_blen i 0 := by
  rcases st_kinds L q with ⟨-, e⟩ | ⟨-, -, e⟩ | ⟨-, -, e⟩ | ⟨a, b, e⟩ | ⟨-, e⟩ | ⟨-, e⟩ | ⟨-, e⟩ | ⟨-, e⟩ | ⟨-, e⟩ <;> rw [e] at h <;> first | exact absurd h (show ¬ (0 : Nat) = 27 by decide) | exact absurd h (show ¬ (30 : Nat) = 27 by decide) | exact absurd h (show ¬ (31 : Nat) = 27 by decide) | exact absurd h (show ¬ (25 : Nat) = 27 by decide) | exact absurd h (show ¬ (24 : Nat) = 27 by decide) | exact absurd h (show ¬ (26 : Nat) = 27 by decide) | exact ⟨q - 3001, by omega, by omega, by rw [e]⟩
theorem st_k26 {L q : Nat} (h : (am_S0 L q).1 = 26) : (q = 4002 ∧ (am_S0 L q).2 = 11) ∨ (q = 4003 ∧ (am_S0 L q).2 = 41) := by
  rcases st_kinds L q with ⟨-, e⟩ | ⟨-, -, e⟩ | ⟨-, -, e⟩ | ⟨-, -, e⟩ | ⟨-, e⟩ | ⟨-, e⟩ | ⟨a, e⟩ | ⟨a, e⟩ | ⟨-, e⟩ <;> rw [e] at h <;> first | exact absurd h (show ¬ (0 : Nat) = 26 by decide) | exact absurd h (show ¬ (30 : Nat) = 26 by decide) | exact absurd h (show ¬ (31 : Nat) = 26 by decide) | exact absurd h (show ¬ (25 : Nat) = 26 by decide) | exact absurd h (show ¬ (24 : Nat) = 26 by decide) | exact absurd h (show ¬ (27 : Nat) = 26 by decide) | exact Or.inl ⟨a, by rw [e]⟩ | exact Or.inr ⟨a, by rw [e]⟩
theorem st_k25 {L q : Nat} (h : (am_S0 L q).1 = 25) : q = 4001 := by
  rcases st_kinds L q with ⟨-, e⟩ | ⟨-, -, e⟩ | ⟨-, -, e⟩ | ⟨-, -, e⟩ | ⟨a, e⟩ | ⟨-, e⟩ | ⟨-, e⟩ | ⟨-, e⟩ | ⟨-, e⟩ <;> rw [e] at h <;> first | exact absurd h (show ¬ (0 : Nat) = 25 by decide) | exact absurd h (show ¬ (30 : Nat) = 25 by decide) | exact absurd h (show ¬ (31 : Nat) = 25 by decide) | exact absurd h (show ¬ (27 : Nat) = 25 by decide) | exact absurd h (show ¬ (24 : Nat) = 25 by decide) | exact absurd h (show ¬ (26 : Nat) = 25 by decide) | exact a
theorem st_aO {args : Array Value} {s : State} {A : Nat → Prop} (hfl : ∀ (i : Nat) {w : Cond}, st_fw i = w → w.before args s = true) (hA : ∀ a : Nat, a < s.heap.size → ¬ A a) {i : Nat} (hi : i < 41) : ∃ a : Nat, (st_tO i).eval args s none [] s = some (.ref a) ∧ st_ad args s (1001 + i) = some a ∧ va_O "ScanChart$Op" a A s s.heap := by
  obtain ⟨a, h1, h2⟩ := st_O hfl hA hi
  exact ⟨a, h1, st_adE (by omega) (by rw [st_tmO hi]; exact h1), h2⟩
theorem st_c1 {args : Array Value} {s : State} {A : Nat → Prop} (hfl : ∀ (i : Nat) {w : Cond}, st_fw i = w → w.before args s = true) (hA : ∀ a : Nat, a < s.heap.size → ¬ A a) {i : Nat} (hi : i < 41) : 1000 < am_cR (1001 + i) 0 ∧ ∃ a, st_ad args s (1001 + i) = some a ∧ va_O "ScanChart$Op" a A s s.heap ∧ ∀ k, k ≤ 3 → va_OF (am_cfn 30 k).1 (am_cfn 30 k).2.1 (am_cfn 30 k).2.2 (cond (Nat.beq k 0) (va_rf (st_ad args s (am_cR (1001 + i) k))) (.int (am_cI (1001 + i) k))) a A s s.heap := by
  obtain ⟨a, h1, h2, h3⟩ := st_aO hfl hA hi
  obtain ⟨e3, l3, u3⟩ := st_in (α := Nat) st_x3 i hi
  refine ⟨by omega, a, h2, h3, fun k hk => ?_⟩
  rcases (show k = 0 ∨ k = 1 ∨ k = 2 ∨ k = 3 by omega) with rfl | rfl | rfl | rfl
  · obtain ⟨a2, t, g1, -⟩ := st_S1 hfl hA (i := am_cR (1001 + i) 0 - 2001) (by omega)
    have g2 : st_ad args s (am_cR (1001 + i) 0) = some a2 := by
      have := st_adE (args := args) (s := s) (q := 2001 + (am_cR (1001 + i) 0 - 2001)) (by omega) (by rw [st_tmS (by omega)]; exact g1)
      rwa [show 2001 + (am_cR (1001 + i) 0 - 2001) = am_cR (1001 + i) 0 by omega] at this
    show va_OF _ _ _ (va_rf (st_ad args s (am_cR (1001 + i) 0))) a A s s.heap
    rw [g2]
    exact vk_OFof h1 (va_eqv (hfl _ e3) g1) hA
  · exact vk_OFof h1 (va_eqt (hfl _ (st_in (α := Nat) st_x4 i hi))) hA
  · exact vk_OFof h1 (va_eqt (hfl _ (st_in (α := Nat) st_x5 i hi))) hA
  · exact vk_OFof h1 (va_eqt (hfl _ (st_in (α := Nat) st_x2 i hi))) hA
theorem st_c2 {args : Array Value} {s : State} {A : Nat → Prop} (hfl : ∀ (i : Nat) {w : Cond}, st_fw i = w → w.before args s = true) (hA : ∀ a : Nat, a < s.heap.size → ¬ A a) {i j : Nat} (hi : i < 41) (hj : j < 41) (e : st_ad args s (1001 + i) = st_ad args s (1001 + j)) : i = j := by
  obtain ⟨a, h1, h2, -⟩ := st_aO hfl hA hi
  obtain ⟨a', h1', h2', -⟩ := st_aO hfl hA hj
  have ea : a = a' := by rw [h2, h2'] at e; exact Option.some.inj e
  subst ea
  have x := va_eqt (hfl _ (st_in (α := Nat) st_x2 i hi))
  have y := va_eqt (hfl _ (st_in (α := Nat) st_x2 j hj))
  rw [va_fe h1] at x
  rw [va_fe h1'] at y
  have z : am_cI (1001 + i) 3 = am_cI (1001 + j) 3 := by
    have := x.symm.trans y
    exact Value.int.inj (Option.some.inj this)
  rw [st_in (α := Nat) st_x7 i hi, st_in (α := Nat) st_x7 j hj] at z
  exact (by decide +kernel : ∀ i : Nat, i < 41 → ∀ j : Nat, j < 41 → Int32.ofNat i = Int32.ofNat j → i = j) i hi j hj z
theorem st_Zr {args : Array Value} {s : State} {A : Nat → Prop} {C n d : String} {q a : Nat} (hA : ∀ a : Nat, a < s.heap.size → ¬ A a) (hl : (Cond.laysStatic C n d).before args s = true) (hini : (Cond.initialized C).before args s = true) (hq : 1000 < q) (ht : st_tm q = .static C n d) (hv : (st_tm q).eval args s none [] s = some (.ref a)) : va_Z C n d (va_rf (st_ad args s q)) A s s.heap := by
  rw [st_adE hq hv]
  rw [ht] at hv
  exact va_Zof hl hini hv hA
theorem st_Ar {args : Array Value} {s : State} {A : Nat → Prop} (hfl : ∀ (i : Nat) {w : Cond}, st_fw i = w → w.before args s = true) (hA : ∀ a : Nat, a < s.heap.size → ¬ A a) {ty : FieldType} {q N ia il i0 : Nat} {f : Nat → Int32} (hN : N < 2 ^ 31) (h1 : st_fw ia = .arrayOf (st_tA q) ty) (h2 : st_fw il = .eq (.length (st_tA q)) (.int (Int32.ofNat N))) (h3 : ∀ j, j < N → st_fw (i0 + j) = .eq (.elem (st_tA q) (.int (Int32.ofNat j))) (.int (f j))) (h4 : 4000 < q) : ∃ t : Nat, (st_tm q).eval args s none [] s = some (.ref t) ∧ st_ad args s q = some t ∧ va_T ty t N (fun j => .int (f j)) A s s.heap := by
  obtain ⟨t, ht, hT⟩ := va_Tof (f := fun j => .int (f j)) (A := A) hN (hfl _ h1) (va_eqt (hfl _ h2)) (fun j hj => va_eqt (hfl _ (h3 j hj))) hA
  have e : st_tm q = st_tA q := by
    unfold st_tm
    rw [ble_f (by omega), ble_f (by omega), ble_f (by omega)]
    rfl
  exact ⟨t, by rw [e]; exact ht, st_adE (by omega) (by rw [e]; exact ht), hT⟩
theorem st_OPS {args : Array Value} {s : State} {A : Nat → Prop} (hfl : ∀ (i : Nat) {w : Cond}, st_fw i = w → w.before args s = true) (hA : ∀ a : Nat, a < s.heap.size → ¬ A a) : ∃ t : Nat, (st_tm 4001).eval args s none [] s = some (.ref t) ∧ st_ad args s 4001 = some t ∧ va_T (.object "ScanChart$Op") t 41 (fun j => va_rf (st_ad args s (1001 + j))) A s s.heap := by
  obtain ⟨t, ht, hT⟩ := va_Tof (ty := .object "ScanChart$Op") (tm := .static "ScanChart" "OPS" "[LScanChart$Op;") (f := fun j => va_rf (st_ad args s (1001 + j))) (A := A) (N := 41) (by decide) (hfl 6 (by decide +kernel)) (va_eqt (hfl 7 (by decide +kernel))) (fun j hj => by
    obtain ⟨a, h1, h2, -⟩ := st_aO hfl hA hj
    rw [h2]
    exact va_eqv (hfl _ (st_in (α := Nat) st_x6 j hj)) h1) hA
  exact ⟨t, ht, st_adE (by decide) ht, hT⟩
theorem st_Rf {args : Array Value} {s : State} {A : Nat → Prop} {C n d : String} {q : Nat} (hA : ∀ a : Nat, a < s.heap.size → ¬ A a) (hl : (Cond.laysStatic C n d).before args s = true) (hini : (Cond.initialized C).before args s = true) (hq : 1000 < q) (ht : st_tm q = .static C n d) (hr : (Cond.isRef (.static C n d)).before args s = true) : va_Z C n d (va_rf (st_ad args s q)) A s s.heap := by
  obtain ⟨v, hv, hi⟩ := Cond.isRef_spec (args := args) (first := s) (o := none) (s := s) (idx := []) hr
  cases v with
  | ref a => exact st_Zr hA hl hini hq ht (by rw [ht]; exact hv)
  | null =>
    have e : st_ad args s q = none := by
      unfold st_ad
      rw [ble_f hq, ht, hv]
      rfl
    rw [e]
    exact va_Zof hl hini hv hA
  | _ => cases hi

theorem st_nests {args : Array Value} {s : State} (hts : ∀ w ∈ lw_tbl, w.before args s = true) : ∀ t ∈ am_nests, va_Nw (.methodLinkNest t.1 t.2.1 (am_y t.2.2) "ScanChart") s := List.forall_mem_cons.mpr ⟨va_Nw.of rfl (hts _ (List.mem_of_getElem? (i := 278) (by decide +kernel))), List.forall_mem_cons.mpr ⟨va_Nw.of rfl (hts _ (List.mem_of_getElem? (i := 683) (by decide +kernel))), List.forall_mem_cons.mpr ⟨va_Nw.of rfl (hts _ (List.mem_of_getElem? (i := 876) (by decide +kernel))), List.forall_mem_cons.mpr ⟨va_Nw.of rfl (hts _ (List.mem_of_getElem? (i := 877) (by decide +kernel))), List.forall_mem_cons.mpr ⟨va_Nw.of rfl (hts _ (List.mem_of_getElem? (i := 419) (by decide +kernel))), List.forall_mem_cons.mpr ⟨va_Nw.of rfl (hts _ (List.mem_of_getElem? (i := 636) (by decide +kernel))), List.forall_mem_cons.mpr ⟨va_Nw.of rfl (hts _ (List.mem_of_getElem? (i := 298) (by decide +kernel))), List.forall_mem_cons.mpr ⟨va_Nw.of rfl (hts _ (List.mem_of_getElem? (i := 833) (by decide +kernel))), List.forall_mem_cons.mpr ⟨va_Nw.of rfl (hts _ (List.mem_of_getElem? (i := 846) (by decide +kernel))), List.forall_mem_cons.mpr ⟨va_Nw.of rfl (hts _ (List.mem_of_getElem? (i := 971) (by decide +kernel))), List.forall_mem_cons.mpr ⟨va_Nw.of rfl (hts _ (List.mem_of_getElem? (i := 863) (by decide +kernel))), List.forall_mem_cons.mpr ⟨va_Nw.of rfl (hts _ (List.mem_of_getElem? (i := 867) (by decide +kernel))), List.forall_mem_cons.mpr ⟨va_Nw.of rfl (hts _ (List.mem_of_getElem? (i := 139) (by decide +kernel))), List.forall_mem_cons.mpr ⟨va_Nw.of rfl (hts _ (List.mem_of_getElem? (i := 412) (by decide +kernel))), List.forall_mem_cons.mpr ⟨va_Nw.of rfl (hts _ (List.mem_of_getElem? (i := 669) (by decide +kernel))), List.forall_mem_cons.mpr ⟨va_Nw.of rfl (hts _ (List.mem_of_getElem? (i := 117) (by decide +kernel))), List.forall_mem_cons.mpr ⟨va_Nw.of rfl (hts _ (List.mem_of_getElem? (i := 133) (by decide +kernel))), List.forall_mem_cons.mpr ⟨va_Nw.of rfl (hts _ (List.mem_of_getElem? (i := 420) (by decide +kernel))), List.forall_mem_cons.mpr ⟨va_Nw.of rfl (hts _ (List.mem_of_getElem? (i := 454) (by decide +kernel))), List.forall_mem_cons.mpr ⟨va_Nw.of rfl (hts _ (List.mem_of_getElem? (i := 457) (by decide +kernel))), List.forall_mem_cons.mpr ⟨va_Nw.of rfl (hts _ (List.mem_of_getElem? (i := 625) (by decide +kernel))), List.forall_mem_cons.mpr ⟨va_Nw.of rfl (hts _ (List.mem_of_getElem? (i := 792) (by decide +kernel))), List.forall_mem_cons.mpr ⟨va_Nw.of rfl (hts _ (List.mem_of_getElem? (i := 111) (by decide +kernel))), List.forall_mem_cons.mpr ⟨va_Nw.of rfl (hts _ (List.mem_of_getElem? (i := 268) (by decide +kernel))), List.forall_mem_cons.mpr ⟨va_Nw.of rfl (hts _ (List.mem_of_getElem? (i := 382) (by decide +kernel))), fun _ h => absurd h List.not_mem_nil⟩⟩⟩⟩⟩⟩⟩⟩⟩⟩⟩⟩⟩⟩⟩⟩⟩⟩⟩⟩⟩⟩⟩⟩⟩
theorem st_nestf {args : Array Value} {s : State} (hts : ∀ w ∈ lw_tbl, w.before args s = true) : ∀ t ∈ am_nestf, va_Nw (.fieldLinkNest t.1 t.2.1 t.2.2.1 t.2.2.2.1 t.2.2.2.2 "ScanChart") s := List.forall_mem_cons.mpr ⟨va_Nw.of rfl (hts _ (List.mem_of_getElem? (i := 466) (by decide +kernel))), List.forall_mem_cons.mpr ⟨va_Nw.of rfl (hts _ (List.mem_of_getElem? (i := 630) (by decide +kernel))), fun _ h => absurd h List.not_mem_nil⟩⟩
theorem st_ldcs {args : Array Value} {s : State} {A : Nat → Prop} (hfl : ∀ (i : Nat) {w : Cond}, st_fw i = w → w.before args s = true) (hA : ∀ a : Nat, a < s.heap.size → ¬ A a) (hts : ∀ w ∈ lw_tbl, w.before args s = true) : ∀ t ∈ am_ldcs, 1000 < t.2.2 ∧ ∃ a tx, st_ad args s t.2.2 = some a ∧ vk_R t.1 t.2.1 tx a s := List.forall_mem_cons.mpr ⟨⟨by decide, by
    obtain ⟨a, t, g1, -⟩ := st_S1 hfl hA (i := 41) (by decide)
    exact ⟨a, "IQMXTCWLE", st_adE (by decide) g1, vk_R.of (tx := "IQMXTCWLE") (hts _ (List.mem_of_getElem? (i := 563) (by decide +kernel))) g1⟩⟩, List.forall_mem_cons.mpr ⟨⟨by decide, by
    obtain ⟨a, t, g1, -⟩ := st_S1 hfl hA (i := 42) (by decide)
    exact ⟨a, "TE", st_adE (by decide) g1, vk_R.of (tx := "TE") (hts _ (List.mem_of_getElem? (i := 623) (by decide +kernel))) g1⟩⟩, List.forall_mem_cons.mpr ⟨⟨by decide, by
    obtain ⟨a, t, g1, -⟩ := st_S1 hfl hA (i := 43) (by decide)
    exact ⟨a, "CV", st_adE (by decide) g1, vk_R.of (tx := "CV") (hts _ (List.mem_of_getElem? (i := 624) (by decide +kernel))) g1⟩⟩, List.forall_mem_cons.mpr ⟨⟨by decide, by
    obtain ⟨a, t, g1, -⟩ := st_S1 hfl hA (i := 44) (by decide)
    exact ⟨a, "N", st_adE (by decide) g1, vk_R.of (tx := "N") (hts _ (List.mem_of_getElem? (i := 649) (by decide +kernel))) g1⟩⟩, List.forall_mem_cons.mpr ⟨⟨by decide, by
    obtain ⟨a, t, g1, -⟩ := st_S1 hfl hA (i := 4) (by decide)
    exact ⟨a, "S", st_adE (by decide) g1, vk_R.of (tx := "S") (hts _ (List.mem_of_getElem? (i := 650) (by decide +kernel))) (va_eqv (hfl 565 (w := .eq (.string "ScanChart$Reader" 233) (st_tS 4)) (by decide +kernel)) g1)⟩⟩, List.forall_mem_cons.mpr ⟨⟨by decide, by
    obtain ⟨a, t, g1, -⟩ := st_S1 hfl hA (i := 5) (by decide)
    exact ⟨a, "R", st_adE (by decide) g1, vk_R.of (tx := "R") (hts _ (List.mem_of_getElem? (i := 651) (by decide +kernel))) (va_eqv (hfl 597 (w := .eq (.string "ScanChart$Reader" 235) (st_tS 5)) (by decide +kernel)) g1)⟩⟩, List.forall_mem_cons.mpr ⟨⟨by decide, by
    obtain ⟨a, t, g1, -⟩ := st_S1 hfl hA (i := 45) (by decide)
    exact ⟨a, "TO", st_adE (by decide) g1, vk_R.of (tx := "TO") (hts _ (List.mem_of_getElem? (i := 548) (by decide +kernel))) g1⟩⟩, List.forall_mem_cons.mpr ⟨⟨by decide, by
    obtain ⟨a, t, g1, -⟩ := st_S1 hfl hA (i := 46) (by decide)
    exact ⟨a, "IF", st_adE (by decide) g1, vk_R.of (tx := "IF") (hts _ (List.mem_of_getElem? (i := 553) (by decide +kernel))) g1⟩⟩, List.forall_mem_cons.mpr ⟨⟨by decide, by
    obtain ⟨a, t, g1, -⟩ := st_S1 hfl hA (i := 47) (by decide)
    exact ⟨a, "IFN", st_adE (by decide) g1, vk_R.of (tx := "IFN") (hts _ (List.mem_of_getElem? (i := 554) (by decide +kernel))) g1⟩⟩, List.forall_mem_cons.mpr ⟨⟨by decide, by
    obtain ⟨a, t, g1, -⟩ := st_S1 hfl hA (i := 48) (by decide)
    exact ⟨a, "n is not 1 to 8", st_adE (by decide) g1, vk_R.of (tx := "n is not 1 to 8") (hts _ (List.mem_of_getElem? (i := 761) (by decide +kernel))) g1⟩⟩, List.forall_mem_cons.mpr ⟨⟨by decide, by
    obtain ⟨a, t, g1, -⟩ := st_S1 hfl hA (i := 49) (by decide)
    exact ⟨a, "i is not 0 to 31", st_adE (by decide) g1, vk_R.of (tx := "i is not 0 to 31") (hts _ (List.mem_of_getElem? (i := 810) (by decide +kernel))) g1⟩⟩, List.forall_mem_cons.mpr ⟨⟨by decide, by
    obtain ⟨a, t, g1, -⟩ := st_S1 hfl hA (i := 50) (by decide)
    exact ⟨a, "ticks is not 0 to 1000000", st_adE (by decide) g1, vk_R.of (tx := "ticks is not 0 to 1000000") (hts _ (List.mem_of_getElem? (i := 828) (by decide +kernel))) g1⟩⟩, List.forall_mem_cons.mpr ⟨⟨by decide, by
    obtain ⟨a, t, g1, -⟩ := st_S1 hfl hA (i := 51) (by decide)
    exact ⟨a, "n is not 0 to 100", st_adE (by decide) g1, vk_R.of (tx := "n is not 0 to 100") (hts _ (List.mem_of_getElem? (i := 979) (by decide +kernel))) g1⟩⟩, List.forall_mem_cons.mpr ⟨⟨by decide, by
    obtain ⟨a, t, g1, -⟩ := st_S1 hfl hA (i := 52) (by decide)
    exact ⟨a, "kind is not 0 to 4", st_adE (by decide) g1, vk_R.of (tx := "kind is not 0 to 4") (hts _ (List.mem_of_getElem? (i := 995) (by decide +kernel))) g1⟩⟩, List.forall_mem_cons.mpr ⟨⟨by decide, by
    obtain ⟨a, t, g1, -⟩ := st_S1 hfl hA (i := 53) (by decide)
    exact ⟨a, "i is not 0 to 7", st_adE (by decide) g1, vk_R.of (tx := "i is not 0 to 7") (hts _ (List.mem_of_getElem? (i := 1012) (by decide +kernel))) g1⟩⟩, List.forall_mem_cons.mpr ⟨⟨by decide, by
    obtain ⟨a, t, g1, -⟩ := st_S1 hfl hA (i := 54) (by decide)
    exact ⟨a, "what is not 0 to 3", st_adE (by decide) g1, vk_R.of (tx := "what is not 0 to 3") (hts _ (List.mem_of_getElem? (i := 1013) (by decide +kernel))) g1⟩⟩, fun _ h => absurd h List.not_mem_nil⟩⟩⟩⟩⟩⟩⟩⟩⟩⟩⟩⟩⟩⟩⟩⟩
theorem st_stats {args : Array Value} {s : State} {A : Nat → Prop} (hfl : ∀ (i : Nat) {w : Cond}, st_fw i = w → w.before args s = true) (hA : ∀ a : Nat, a < s.heap.size → ¬ A a) (hts : ∀ w ∈ lw_tbl, w.before args s = true) {aO aR aM : Nat} (hO : (st_tm 4001).eval args s none [] s = some (.ref aO)) (hR : (st_tm 4002).eval args s none [] s = some (.ref aR)) (hM : (st_tm 4003).eval args s none [] s = some (.ref aM)) : ∀ t ∈ am_stats, 1000 < t.2.2.2.1 + cond (Nat.beq t.2.2.2.2 1) 1001 0 ∧ va_Z t.1 t.2.1 t.2.2.1 (cond (Nat.beq t.2.2.2.2 1) (.int (am_gI t.2.2.2.1)) (va_rf (st_ad args s t.2.2.2.1))) A s s.heap := List.forall_mem_cons.mpr ⟨⟨by decide, by
    obtain ⟨a, h1, -, -⟩ := st_aO hfl hA (i := 4) (by decide)
    exact st_Zr (q := 1005) hA (hts _ (List.mem_of_getElem? (i := 944) (by decide +kernel))) (hts _ (List.mem_of_getElem? (i := 100) (by decide +kernel))) (by decide) rfl h1⟩, List.forall_mem_cons.mpr ⟨⟨by decide, st_Zr (q := 4003) hA (hts _ (List.mem_of_getElem? (i := 852) (by decide +kernel))) (hts _ (List.mem_of_getElem? (i := 98) (by decide +kernel))) (by decide) rfl hM⟩, List.forall_mem_cons.mpr ⟨⟨by decide, by
    obtain ⟨a, h1, -, -⟩ := st_aO hfl hA (i := 15) (by decide)
    exact st_Zr (q := 1016) hA (hts _ (List.mem_of_getElem? (i := 933) (by decide +kernel))) (hts _ (List.mem_of_getElem? (i := 100) (by decide +kernel))) (by decide) rfl h1⟩, List.forall_mem_cons.mpr ⟨⟨by decide, st_Zr (q := 4001) hA (hts _ (List.mem_of_getElem? (i := 467) (by decide +kernel))) (hts _ (List.mem_of_getElem? (i := 78) (by decide +kernel))) (by decide) rfl hO⟩, List.forall_mem_cons.mpr ⟨⟨by decide, st_Zr (q := 4002) hA (hts _ (List.mem_of_getElem? (i := 631) (by decide +kernel))) (hts _ (List.mem_of_getElem? (i := 78) (by decide +kernel))) (by decide) rfl hR⟩, List.forall_mem_cons.mpr ⟨⟨by decide, va_Zof (hts _ (List.mem_of_getElem? (i := 481) (by decide +kernel))) (hts _ (List.mem_of_getElem? (i := 92) (by decide +kernel))) (va_eqt (hfl 50 (w := .eq (.static "java/lang/String" "COMPACT_STRINGS" "Z") (.int (am_gI 4))) (by decide +kernel))) hA⟩, List.forall_mem_cons.mpr ⟨⟨by decide, st_Rf (q := 4500) hA (hts _ (List.mem_of_getElem? (i := 497) (by decide +kernel))) (hts _ (List.mem_of_getElem? (i := 94) (by decide +kernel))) (by decide) rfl (hfl 51 (by decide +kernel))⟩, fun _ h => absurd h List.not_mem_nil⟩⟩⟩⟩⟩⟩⟩
theorem st_cst {b L : Nat} {xs : Nat → Int32} {s : State} {A : Nat → Prop} (hfl : ∀ (i : Nat) {w : Cond}, st_fw i = w → w.before #[Value.ref b] s = true) (hA : ∀ a : Nat, a < s.heap.size → ¬ A a) (hts : ∀ w ∈ lw_tbl, w.before #[Value.ref b] s = true) (hX : va_X b L xs s s.heap) (hb : b < s.heap.size) : am_Cst L xs (st_ad #[Value.ref b] s) A s s.heap := by
  obtain ⟨aO, o1, o2, o3⟩ := st_OPS hfl hA
  obtain ⟨aR, r1, r2, r3⟩ := st_Ar (q := 4002) (ty := .int) (N := 11) (ia := 56) (il := 57) (i0 := 58) (f := am_cI 4002) hfl hA (by decide) (by decide +kernel) (by decide +kernel) (st_in (α := Nat) st_z1) (by decide)
  obtain ⟨aM, m1, m2, m3⟩ := st_Ar (q := 4003) (ty := .int) (N := 41) (ia := 72) (il := 73) (i0 := 74) (f := am_cI 4003) hfl hA (by decide) (by decide +kernel) (by decide +kernel) (st_in (α := Nat) st_z2) (by decide)
  refine ⟨fun q hq => ?_, fun q q' hq hq' e => ?_, fun q hq => ?_, fun q hq => ?_, fun q hq => ?_, fun q hq => ?_, ⟨b, st_adE (by decide) rfl, hX, hb, hA b hb⟩, st_stats hfl hA hts o1 r1 m1, st_ldcs hfl hA hts, st_nests hts, st_nestf hts, va_AO.of (hts _ (List.mem_of_getElem? (i := 186) (by decide +kernel)))⟩
  · obtain ⟨i, hi, rfl⟩ := st_k30 hq
    exact st_c1 hfl hA hi
  · obtain ⟨i, hi, rfl⟩ := st_k30 hq
    obtain ⟨j, hj, rfl⟩ := st_k30 hq'
    rw [st_c2 hfl hA hi hj e]
  · obtain ⟨i, hi, rfl⟩ := st_k31 hq
    obtain ⟨a, t, g1, g2, g3, g4, g5, -⟩ := st_S1 hfl hA hi
    have er : am_cR (2001 + i) 10 = 3001 + i := by
      unfold am_cR
      rw [ble_f (by omega), Nat.ble_eq_true_of_le (by omega)]
      show 2001 + i + 1000 = 3001 + i
      omega
    have ei : am_cI (2001 + i) 11 = 0 := by
      unfold am_cI
      rw [ble_f (by omega), Nat.ble_eq_true_of_le (by omega)]
      rfl
    have e2 : st_ad #[Value.ref b] s (3001 + i) = some t := st_adE (by omega) (by rw [st_tmB hi]; exact g4)
    rw [er, ei, e2]
    exact ⟨by omega, a, st_adE (by omega) (by rw [st_tmS hi]; exact g1), g2, g5, g3⟩
  · obtain ⟨i, hi, rfl, e⟩ := st_k27 hq
    obtain ⟨a, t, g1, g2, g3, g4, g5, g6⟩ := st_S1 hfl hA hi
    rw [e]
    exact ⟨t, st_adE (by omega) (by rw [st_tmB hi]; exact g4), g6⟩
  · rcases st_k26 hq with ⟨rfl, e⟩ | ⟨rfl, e⟩
    · rw [e]; exact ⟨aR, r2, r3⟩
    · rw [e]; exact ⟨aM, m2, m3⟩
  · have := st_k25 hq
    subst this
    have er : ∀ j, am_cR 4001 j = 1001 + j := fun j => rfl
    simp only [er]
    exact ⟨fun j => by omega, aO, o2, o3⟩

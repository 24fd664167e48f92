/-! THE LAW'S WALK, but for its special calls. -/
def R_law : String := "ScanChartLaw"
def lw_P (b : Addr) (xs : List Int32) (args : Array Value) (s : State) : Prop := args = #[.ref b] ∧ s.IntsAt b xs ∧ xs.length ≤ 256 ∧ (Jvm.Cond.and given_1 narrow_1).before args s = true
def lw_Q (_ : Array Value) (s : State) (o : Outcome) (t : State) : Prop := o = .returned (some (.int 1)) ∧ Framed s o t [] 230 6413
def lw_Z (below : List Frame) (a : Array Value) (s : State) : State → Prop := fun t => ∃ o, t.status = .running ∧ Ended t below o ∧ lw_Q a s o t
/-- the law's own end, with 1 on the stack, nothing written that was there before, its room as the claim has it -/
theorem lw_ret {p : Program} {l : Launch} {e : Env} {s : State} {m : MethodId} {below : List Frame} {meth : Method} {c : Code} {b : Nat} (hx : p.tables.exec = Jvm.exec) (hb : c.code = code) (hr : meth.sig.returnType = ret) (hlocks : meth.locks = false) {pc : Nat} {H : Heap} {ls : Array Slot} (hdg : decode code pc = .ok (.ireturn, 1)) : W p l e room_1 s m #[Value.ref b] below meth c H [] 230 6413 (lw_Z below #[Value.ref b] s) (F0 m pc ls [.int 1]) := by
  intro T hT X
  obtain ⟨fs, hret, hrun, hended, hW, hframe⟩ := X.leave (v := some (.int 1)) (hlocks := hlocks) (fun h => by rw [hr] at h; cases h)
  have hmeth' : T.vm.method? m = some meth := X.method'
  refine ⟨T.setFrames fs, ?_, .returned (some (.int 1)), hrun, hended, rfl, ⟨_, rfl⟩, hW, hframe⟩
  jvm_step X.here [X.here.top, hx, hb, hdg, hmeth', hr, ret, narrow_b1]
  (try refine ⟨rfl, ?_⟩); (try refine ⟨rfl, ?_⟩)
  first | (intro acts; rw [hret _ acts rfl rfl rfl]) | rw [hret _ _ rfl rfl rfl]
  exact Steps.refl _
/-- what holds at the law's entry: the machine, the code, the tables' words (any of lw_tbl by 'hts w (by decide +kernel)'), the script of L ints xs at the cell b, what the Statement gives of the start (any of its parts by flat_of_before) -/
def lw_At (p : Program) (s : State) (m : MethodId) (meth : Method) (c : Code) (b L : Nat) (xs : Nat → Int32) : Prop :=
  p.tables.exec = Jvm.exec ∧ c.code = code ∧ meth.sig.returnType = ret ∧ c.maxLocals = 7 ∧ s.vm.findClass R_law = some m.cls ∧ (∀ w ∈ lw_tbl, w.before #[Value.ref b] s = true) ∧ va_X b L xs s s.heap ∧ b < s.heap.size ∧ meth.locks = false ∧ (Jvm.Cond.and given_1 narrow_1).before #[Value.ref b] s = true
theorem st_K {args : Array Value} {s : State} (hts : ∀ w ∈ lw_tbl, w.before args s = true) : ∃ (G : va_G) (cA : Nat → ClassId), va_K G vwCl (am_tys cA) s := by
  have hts' : ∀ w ∈ am_good, w.before args s = true := fun w h => hts w (List.mem_filter.mp h).1
  have h0 : ∀ b : Nat, ∃ x : ClassId × (Nat → Nat), 1 ≤ b → b ≤ 9 → u_Kn s (am_fldD b).1 (am_fldD b).2.1 (am_fldD b).2.2 x.1 x.2 := by
    intro b
    by_cases h : 1 ≤ b ∧ b ≤ 9
    · obtain ⟨c, i, k⟩ := u_known hts' (am_cl_in h.1 h.2) (hts' _ (am_inst_ok h.1 h.2))
      exact ⟨(c, i), fun _ _ => k⟩
    · exact ⟨(0, fun _ => 0), fun h1 h2 => absurd ⟨h1, h2⟩ h⟩
  obtain ⟨g, hg⟩ := Classical.axiomOfChoice h0
  obtain ⟨cI, kI, compI, i1, i2, i3⟩ := Cond.arrayClass_spec (args := args) (first := s) (o := none) (s := s) (idx := []) (hts' _ am_arr_ok.1)
  obtain ⟨cZ, kZ, compZ, z1, z2, z3⟩ := Cond.arrayClass_spec (args := args) (first := s) (o := none) (s := s) (idx := []) (hts' _ am_arr_ok.2.1)
  obtain ⟨cJ, kJ, compJ, j1, j2, j3⟩ := Cond.arrayClass_spec (args := args) (first := s) (o := none) (s := s) (idx := []) (hts' _ am_arr_ok.2.2)
  obtain ⟨comp, cO, kO, o1, o2, o3, o4, o5⟩ := Cond.arrayOver_spec (args := args) (first := s) (o := none) (s := s) (idx := []) (n := "ScanChart$Op") (hts _ (List.mem_of_getElem? (i := 186) (by decide +kernel)))
  refine ⟨(fun k => (g (k + 1)).1, fun k => (g (k + 1)).2), fun k => cond (Nat.beq k 0) cI (cond (Nat.beq k 1) cZ (cond (Nat.beq k 2) cJ cO)), fun k q hq => ?_, fun k q hq => ?_⟩
  · have hk : k < 9 := (List.getElem?_eq_some_iff.mp hq).1
    have e := am_cl_at (b := k + 1) (by omega) (by omega)
    rw [Nat.add_sub_cancel] at e
    rw [e] at hq
    rw [← Option.some.inj hq]
    exact hg (k + 1) (by omega) (by omega)
  · match k, hq with
    | 0, hq => cases hq; exact ⟨fun n z => ⟨fun k h => (by cases h), kI, i2, compI, i3⟩, i1⟩
    | 1, hq => cases hq; exact ⟨fun n z => ⟨fun k h => (by cases h), kZ, z2, compZ, z3⟩, z1⟩
    | 2, hq => cases hq; exact ⟨fun n z => ⟨fun k h => (by cases h), kJ, j2, compJ, j3⟩, j1⟩
    | 3, hq => cases hq; exact ⟨fun N z => ⟨fun k h => (by cases h), kO, o3, comp, o4⟩, kO, comp, o3, o4, o1, o5⟩
    | k + 4, hq => cases hq
theorem st_gd (L : Nat) (xs : Nat → Int32) (args : Array Value) (s : State) : am_gd L xs (st_ad args s) (st_ad args s) (am_h0 L xs) := by
  refine ⟨fun q h1 h2 => absurd (Nat.le_trans h1 h2) (Nat.not_succ_le_zero 0), rfl, Nat.zero_le _, fun q h1 h2 => absurd (Nat.le_trans h1 h2) (Nat.not_succ_le_zero 0), fun q _ => rfl, fun q j h => ?_, rfl, fun q _ => rfl, fun q j => Or.inl (Nat.le_refl _)⟩
  exfalso
  have h : (am_S0 L q).1 = 23 := h
  rcases am_S0_kind L q with w | w <;> omega
theorem st_wd {L : Nat} {xs : Nat → Int32} {args : Array Value} {s : State} {G : va_G} {cA : Nat → ClassId} {adc : Nat → Option Nat} {A : Nat → Prop} (g : am_gd L xs adc adc (am_h0 L xs)) : am_Wd G cA L xs adc A s adc (am_h0 L xs) s.heap [] := by
  have e : am_ws cA adc (am_h0 L xs) = [] := rfl
  refine ⟨?_, ?_, va_S.rf, g⟩
  · rw [e]; exact fun k q h => by simp at h
  · rw [e]; exact ⟨fun i j p q h => by simp at h, fun k q h => by simp at h⟩
/-- the walk of the law, given its special calls -/
theorem law_walk {p : Program} {e : Env} {s : State} {m : MethodId} {below : List Frame} {meth : Method} {c : Code} (l : Launch) {b L : Nat} {xs : Nat → Int32} (hL : L ≤ 256) (C0 : lw_At p s m meth c b L xs)
    (hsp : ∀ (G : va_G) (cA : Nat → ClassId) (hf : am_H) (n : Nat), hf.2.2.1 ≤ 230 → hf.2.2.2 ≤ 6413 → am_Fx G cA L xs (st_ad #[Value.ref b] s) (fun q => s.heap.size ≤ q) s → am_G p l e room_1 s m #[Value.ref b] below meth c (lw_Z below #[Value.ref b] s) G cA L xs (st_ad #[Value.ref b] s) (fun q => s.heap.size ≤ q) 179 (fun _ => True) 0 0 0 (.int 1) hf n → am_Spec p l e room_1 s m #[Value.ref b] below meth c (lw_Z below #[Value.ref b] s) G cA L xs (st_ad #[Value.ref b] s) (fun q => s.heap.size ≤ q) 179 (fun _ => True) 0 0 0 (.int 1) hf n) : W p l e room_1 s m #[Value.ref b] below meth c s.heap [] 0 0 (lw_Z below #[Value.ref b] s) (entryFrame m ([Value.ref b] : List Value).toArray 7) := by
  obtain ⟨hx, hb, hr, hml, hown, hts, hX, hbl, hlocks, hgv⟩ := id C0
  have hA : ∀ a : Nat, a < s.heap.size → ¬ (fun q => s.heap.size ≤ q) a := fun a h => Nat.not_le.mpr h
  obtain ⟨G, cA, hK⟩ := st_K hts
  have hcst := st_cst (xs := xs) (L := L) (A := fun q => s.heap.size ≤ q) (fun i w ew => st_flw hgv i ew) hA hts hX hbl
  have hfx : am_Fx G cA L xs (st_ad #[Value.ref b] s) (fun q => s.heap.size ≤ q) s := ⟨hK, hcst, fun q h => h⟩
  have hts' : ∀ w ∈ am_good, w.before #[Value.ref b] s = true := fun w h => hts w (List.mem_filter.mp h).1
  have hcx : am_Ctx p s m #[Value.ref b] meth c 179 := ⟨hx, hb, hml, hown, hts', fun z => absurd z (by decide +kernel)⟩
  obtain ⟨hf, hE, hcc, hss⟩ := st_law xs hL
  obtain ⟨n, hn⟩ := am_E_iff.mp hE
  have hend : am_Hend p l e room_1 s m #[Value.ref b] below meth c (lw_Z below #[Value.ref b] s) G cA L xs (st_ad #[Value.ref b] s) (fun q => s.heap.size ≤ q) 179 (fun _ => True) 0 0 (.int 1) hf := by
    intro ad H locs Ls pcr _ hw _ _ hd
    refine va_forget (fun q hq => hw.2.2.1.2.2 q hq) ?_
    refine W.widen (k := 230) (n := 6413) (by omega) (by omega) ?_
    exact lw_ret hx hb hr hlocks hd
  have hG : ∀ j, am_G p l e room_1 s m #[Value.ref b] below meth c (lw_Z below #[Value.ref b] s) G cA L xs (st_ad #[Value.ref b] s) (fun q => s.heap.size ≤ q) 179 (fun _ => True) 0 0 0 (.int 1) hf j := by
    intro j
    induction j with
    | zero => intro i ls st h' ad H locs Ls he; cases he
    | succ j ih => exact am_sound1 (by decide) (am_met l j) ih hcx hfx (by show hf.2.2.1 ≤ 0 + 230; omega) (by show hf.2.2.2 ≤ 0 + 6413; omega) (by decide +kernel) (by decide +kernel) (fun _ _ _ _ _ _ => trivial) hend (hsp G cA hf j hcc hss hfx ih) (am_calls (by decide) (am_met l j) ih hcx hfx (by show hf.2.2.1 ≤ 0 + 230; omega) (by show hf.2.2.2 ≤ 0 + 6413; omega) (by decide +kernel) (by decide +kernel) (fun _ _ _ _ _ _ => trivial))
  have hvs : am_vs (am_h0 L xs).2.1.2.2 [Value.ref 4600] := am_vs.cons (Or.inr (by decide)) am_vs.nil
  have hent := am_Lr.entry (ad := st_ad #[Value.ref b] s) (as := [.ref 4600]) (n := 7) hvs.long (by decide)
  have hcv : [Value.ref 4600].map (am_cv (st_ad #[Value.ref b] s)) = [.ref b] := by
    show [va_rf (st_ad #[Value.ref b] s 4600)] = _
    rw [show st_ad #[Value.ref b] s 4600 = some b from st_adE (by decide) rfl]
    rfl
  rw [hcv] at hent
  have key := hG n 0 (am_ent [.ref 4600] (am_nL 179)) [] (am_h0 L xs) (st_ad #[Value.ref b] s) s.heap [] _ hn (st_wd (args := #[Value.ref b]) (st_gd L xs #[Value.ref b] s)) hent hvs.ent am_vs.nil trivial (Nat.zero_le _) (Nat.zero_le _) (Nat.zero_le _)
  rw [lg_entry_eq]
  exact key

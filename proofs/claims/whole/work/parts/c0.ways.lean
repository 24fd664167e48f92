/-! THE WRAPPERS OF THE LAW: their ways from the answer to the end. -/
theorem xj_feed {y : Int32} : xk_way cL_feed 9 10 [.int y] y.toInt64 := by
  intro p l e R s m args below meth c H locs cells slots Q ls oo hx hb kk
  refine lv_i2l (v := y.toInt64) hx hb (by decide +kernel) rfl ?_
  exact kk
theorem xj_scan {y : Int32} : xk_way cL_scan 7 8 [.int y] y.toInt64 := by
  intro p l e R s m args below meth c H locs cells slots Q ls oo hx hb kk
  refine lv_i2l (v := y.toInt64) hx hb (by decide +kernel) rfl ?_
  exact kk
theorem xj_run {y : Int32} : xk_way cL_run 8 9 [.int y] y.toInt64 := by
  intro p l e R s m args below meth c H locs cells slots Q ls oo hx hb kk
  refine lv_i2l (v := y.toInt64) hx hb (by decide +kernel) rfl ?_
  exact kk
theorem xj_bits {y : Int32} : xk_way cL_bits 7 8 [.int y] y.toInt64 := by
  intro p l e R s m args below meth c H locs cells slots Q ls oo hx hb kk
  refine lv_i2l (v := y.toInt64) hx hb (by decide +kernel) rfl ?_
  exact kk
theorem xj_word {y : Int32} : xk_way cL_word 7 8 [.int y] y.toInt64 := by
  intro p l e R s m args below meth c H locs cells slots Q ls oo hx hb kk
  refine lv_i2l (v := y.toInt64) hx hb (by decide +kernel) rfl ?_
  exact kk
theorem xj_block {y : Int32} : xk_way cL_block 8 9 [.int y] y.toInt64 := by
  intro p l e R s m args below meth c H locs cells slots Q ls oo hx hb kk
  refine lv_i2l (v := y.toInt64) hx hb (by decide +kernel) rfl ?_
  exact kk
theorem xj_output0 : xk_way cL_output 7 15 [.int 0] 0 := by
  intro p l e R s m args below meth c H locs cells slots Q ls oo hx hb kk
  refine lv_if_eq (off := 7) (tgt := 14) hx hb (by decide +kernel) (by decide) (fun _ => ?_) (fun z => absurd rfl z)
  refine lv_lconst (n := 0) (v := 0) hx hb (by decide +kernel) (by decide) ?_
  exact kk
theorem xj_output1 {y : Int32} (h : ¬ y = 0) : xk_way cL_output 7 15 [.int y] 1 := by
  intro p l e R s m args below meth c H locs cells slots Q ls oo hx hb kk
  refine lv_if_eq (off := 7) (tgt := 14) hx hb (by decide +kernel) (by decide) (fun z => absurd z h) (fun _ => ?_)
  refine lv_lconst (n := 1) (v := 1) hx hb (by decide +kernel) (by decide) ?_
  refine lv_goto (off := 4) (tgt := 15) hx hb (by decide +kernel) (by decide) ?_
  exact kk
theorem xf_feed : xk_end cL_feed 11 19 := by
  refine ⟨by decide +kernel, ?_⟩
  intro p l e R s m args below meth c H locs cells slots Q ls hx hb kk
  refine lv_goto (off := 7) (tgt := 18) hx hb (by decide +kernel) (by decide) ?_
  refine lv_iconst (n := 0) (v := 0) hx hb (by decide +kernel) (by decide) ?_
  exact kk
theorem xf_input : xk_end cL_input 6 13 := by
  refine ⟨by decide +kernel, ?_⟩
  intro p l e R s m args below meth c H locs cells slots Q ls hx hb kk
  refine lv_goto (off := 6) (tgt := 12) hx hb (by decide +kernel) (by decide) ?_
  refine lv_iconst (n := 0) (v := 0) hx hb (by decide +kernel) (by decide) ?_
  exact kk
theorem xf_scan : xk_end cL_scan 9 16 := by
  refine ⟨by decide +kernel, ?_⟩
  intro p l e R s m args below meth c H locs cells slots Q ls hx hb kk
  refine lv_goto (off := 6) (tgt := 15) hx hb (by decide +kernel) (by decide) ?_
  refine lv_iconst (n := 0) (v := 0) hx hb (by decide +kernel) (by decide) ?_
  exact kk
theorem xf_run : xk_end cL_run 10 18 := by
  refine ⟨by decide +kernel, ?_⟩
  intro p l e R s m args below meth c H locs cells slots Q ls hx hb kk
  refine lv_goto (off := 7) (tgt := 17) hx hb (by decide +kernel) (by decide) ?_
  refine lv_iconst (n := 0) (v := 0) hx hb (by decide +kernel) (by decide) ?_
  exact kk
theorem xf_output : xk_end cL_output 16 23 := by
  refine ⟨by decide +kernel, ?_⟩
  intro p l e R s m args below meth c H locs cells slots Q ls hx hb kk
  refine lv_goto (off := 6) (tgt := 22) hx hb (by decide +kernel) (by decide) ?_
  refine lv_iconst (n := 0) (v := 0) hx hb (by decide +kernel) (by decide) ?_
  exact kk
theorem xf_bits : xk_end cL_bits 9 16 := by
  refine ⟨by decide +kernel, ?_⟩
  intro p l e R s m args below meth c H locs cells slots Q ls hx hb kk
  refine lv_goto (off := 6) (tgt := 15) hx hb (by decide +kernel) (by decide) ?_
  refine lv_iconst (n := 0) (v := 0) hx hb (by decide +kernel) (by decide) ?_
  exact kk
theorem xf_word : xk_end cL_word 9 16 := by
  refine ⟨by decide +kernel, ?_⟩
  intro p l e R s m args below meth c H locs cells slots Q ls hx hb kk
  refine lv_goto (off := 6) (tgt := 15) hx hb (by decide +kernel) (by decide) ?_
  refine lv_iconst (n := 0) (v := 0) hx hb (by decide +kernel) (by decide) ?_
  exact kk
theorem xf_block : xk_end cL_block 10 22 := by
  refine ⟨by decide +kernel, ?_⟩
  intro p l e R s m args below meth c H locs cells slots Q ls hx hb kk
  refine lv_goto (off := 11) (tgt := 21) hx hb (by decide +kernel) (by decide) ?_
  refine lv_iconst (n := 0) (v := 0) hx hb (by decide +kernel) (by decide) ?_
  exact kk
theorem xd_last_feed : decode cL_feed 10 = .ok (.lastore, 1) := by decide +kernel
theorem xd_last_scan : decode cL_scan 8 = .ok (.lastore, 1) := by decide +kernel
theorem xd_last_run : decode cL_run 9 = .ok (.lastore, 1) := by decide +kernel
theorem xd_last_output : decode cL_output 15 = .ok (.lastore, 1) := by decide +kernel
theorem xd_last_bits : decode cL_bits 8 = .ok (.lastore, 1) := by decide +kernel
theorem xd_last_word : decode cL_word 8 = .ok (.lastore, 1) := by decide +kernel
theorem xd_last_block : decode cL_block 9 = .ok (.lastore, 1) := by decide +kernel
set_option maxHeartbeats 8000000 in
/-- the wrapper without a place: its call answers nothing -/
theorem xk_metV {l : Launch} {n k index pcC pcR maxL nA q : Nat} {yW : MethodName} {cc : ByteArray} {hh : List (Nat × Nat × Nat × Nat)} {Ac : List Value} {h h1 : am_H} {v : Value} (hk : k < 179) (hr : am_ex n k 0 (am_ent (.ref q :: Ac) (am_nL k)) [] h = some (v, h1)) (hexp : (am_exp (.ref q :: Ac)).length ≤ am_nL k) (hvs : am_vs h.2.1.2.2 (.ref q :: Ac)) (hq8 : (am_S h q).1 = 8) (hrt : am_rt k = 0)
    (hd : xw_dec yW cc index pcC k) (hn : Ac.length = nA) (hpar : (parseMethodDescriptor (am_y k).desc).map (fun d => d.parameters.length) = some nA)
    {G : va_G} {cA : Nat → ClassId} {L : Nat} {xs : Nat → Int32} {adc ad : Nat → Option Nat} {sz : Nat} (hg : am_gd L xs adc ad h) (hlen : (lg_sl ((Value.ref q :: Ac).map (am_cv ad))).length ≤ maxL)
    (pre : ∀ b : Nat, xw_pre cc maxL pcC (.ref b :: Ac.map (am_cv ad)) ((Ac.map (am_cv ad)).reverse ++ .ref b :: [])) (fin : xk_end cc (pcC + 3) pcR) :
    Met l yW (Cond.codeWith yW cc maxL (some .int) hh :: am_good) { frames := am_fr k + 1, cells := h1.2.2.1 - h.2.2.1, slots := h1.2.2.2 - h.2.2.2, locals := 8 + (am_nL k + 11) + am_lo k } (am_Pc G cA L xs adc ad h sz (.ref q :: Ac)) (am_Qc G cA L xs adc ad h h1 sz 73 (.int 0)) (h1.2.2.1 - h.2.2.1) (h1.2.2.2 - h.2.2.2) (va_A (am_ws cA ad h) sz) := by
  obtain ⟨d1, d2, d3, d4, w1, w2, w3, w4⟩ := hd
  refine va_MetW (ws' := am_good) (cc := cc) (maxL := maxL) (ret := some .int) (hh := hh) d1 rfl ?_
  intro p e s m args below meth c s₁ B hml hPc
  obtain ⟨hargs, hsz, hP, hK, hD0, hC⟩ := hPc
  subst hsz
  have hts0 := atoms_spec (ws := Cond.codeWith yW cc maxL (some .int) hh :: am_good) B.pre
  have hts : ∀ w ∈ am_good, w.before args s = true := fun w hw => hts0 w (List.mem_cons_of_mem _ hw)
  have hown : s.vm.findClass "ScanChartLaw" = some m.cls := by rw [← d2]; exact findClass_of_methodNamed B.named
  have hx := B.exec
  have hb := B.bytes
  have hret := B.returns
  have hfx : am_Fx G cA L xs adc (va_A (am_ws cA ad h) s.heap.size) s := ⟨hK, hC, fun q hq => Or.inr hq⟩
  have hw : am_Wd G cA L xs adc (va_A (am_ws cA ad h) s.heap.size) s ad h s.heap [] := ⟨hP, hD0.self, va_S.rf, hg⟩
  obtain ⟨ao, hao, -, -, hws⟩ := am_at (cA := cA) hg (q := q) (by omega) (by omega)
  rw [am_ce_obj hq8 (by decide)] at hws
  have e4 := va_recv hK hP (am_cl_at (b := 8) (by decide) (by decide)) hws
  have e4 : ∃ cellB : Cell, s.heap[ao]? = some cellB ∧ cellB.vm.isStatics = false ∧ s.vm.findClass "ScanChart" = some cellB.cls := e4
  have hcv : am_cv ad (.ref q) = .ref ao := by show va_rf (ad q) = _; rw [hao]; rfl
  have hl0 := lv_entry ((Value.ref q :: Ac).map (am_cv ad)) (n := maxL) hlen
  rw [hargs, lg_entry_eq]
  rw [← hargs]
  have hmap : (Value.ref q :: Ac).map (am_cv ad) = .ref ao :: Ac.map (am_cv ad) := by
    rw [List.map_cons, hcv]
  rw [hmap] at hl0 ⊢
  generalize (lg_sl (Value.ref ao :: Ac.map (am_cv ad)) ++ List.replicate (maxL - (lg_sl (Value.ref ao :: Ac.map (am_cv ad))).length) Slot.unset).toArray = ls at hl0 ⊢
  refine pre ao p l e _ s m args below meth c s.heap [] 0 0 _ ls hx hb hl0 ?_
  obtain ⟨hA', hU⟩ := am_pre (as := .ref q :: Ac) hfx hw
  rw [List.map_cons, hcv] at hU
  obtain ⟨m1, m2, m3, -, -⟩ := am_mok_at hk
  have SF : CallFix p m c cc maxL s args am_good "ScanChartLaw" := ⟨hx, hb, hml, hown, hts⟩
  have hMet := am_met l n k (.ref q :: Ac) h h1 v hk hr hexp hvs G cA L xs adc ad s.heap.size hg
  have hrun := va_runV (e := e) (below := below) (meth := meth) (R := (headSpec (Cond.codeWith yW cc maxL (some .int) hh :: am_good) { frames := am_fr k + 1, cells := h1.2.2.1 - h.2.2.1, slots := h1.2.2.2 - h.2.2.2, locals := 8 + (am_nL k + 11) + am_lo k }).room) (H := s.heap) (locs := []) (cells := 0) (slots := 0) (g := F0 m pcC ls ((Ac.map (am_cv ad)).reverse ++ .ref ao :: [])) (rest := []) (b := ao) (As := Ac.map (am_cv ad)) (C := "ScanChart") (ret := am_rty k) (bytes := am_bc k) (maxL := am_nL k) (index := index) (n := nA) SF hMet (cwV (ws' := am_good) nA hts (fun w hw => by
      unfold wsV at hw
      rcases List.mem_append.mp hw with z1 | z1
      · simp only [List.mem_cons, List.not_mem_nil, or_false] at z1
        have : w ∈ am_good := by
          rcases z1 with z1 | z1 | z1 | z1 <;> rw [z1]
          · exact w1
          · exact w2
          · exact w3
          · rw [← d4]; exact w4
        exact ⟨this, am_good_word this⟩
      · exact am_wsm_good hk w z1) rfl rfl rfl ⟨d4, m2, m3, hpar⟩ ⟨Nat.le_refl _, Nat.le_refl _⟩) ⟨am_Pc_blind, e4, hU⟩ rfl (by rw [List.length_map]; exact hn) hl0.1 rfl (show 2 * 0 + (([] : List Value).map fun v => v.category).sum ≤ 8 from Nat.le_of_ble_eq_true rfl) d3 ⟨Nat.le_of_eq (Nat.zero_add _), Nat.le_of_eq (Nat.zero_add _)⟩
  refine am_after hrun hA' va_S.rf (fun ad' H1 locs1 hw' had hvd => ?_)
  rw [hrt]
  refine fin.2 p l e _ s m args below meth c H1 locs1 _ _ _ ls hx hb ?_
  obtain ⟨hP2, hD2, hS2, hg2⟩ := hw'
  rw [Nat.zero_add, Nat.zero_add]
  exact W.iret (v := 0) hx hb hret (fun t ht _ => ⟨⟨ad', rfl, by rw [ht]; exact hP2, hD2, hg2, had, trivial⟩, hS2.F ht⟩) hS2.2.2 fin.1

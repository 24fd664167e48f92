/-! THE CALL OF load() IN THE LAW, walked. -/
theorem am_ins_big {k i : Nat} (h : 16 * (am_cc k).length ≤ i) : am_ins k i = (.nop, 0, 0, 0) := by
  show (((am_cc k).getD (i / 16) []).getD (i % 16) (.nop, 0, 0, 0)) = _
  rw [show (am_cc k).getD (i / 16) [] = [] by rw [List.getD_eq_getElem?_getD, List.getElem?_eq_none (by omega)]; rfl]
  rfl
theorem sp_at97 {i a b : Nat} {ir : Instr} (hins : am_ins 179 i = (ir, a, b, 97)) : i = 102 ∧ ir = .invokevirtual 62 ∧ a = 75 ∧ b = 1 := by
  have hlt : i < 16 * (am_cc 179).length := by
    by_cases z : i < 16 * (am_cc 179).length
    · exact z
    · rw [am_ins_big (by omega)] at hins
      exact absurd (congrArg (fun t => t.2.2.2) hins) (show ¬ (0 : Nat) = 97 by decide)
  have h := List.all_eq_true.mp am_i97 i (List.mem_range.mpr hlt)
  rw [hins] at h
  have hi : i = 102 := Nat.eq_of_beq_eq_true h
  subst hi
  have e : am_ins 179 102 = (.invokevirtual 62, 75, 1, 97) := rfl
  rw [e] at hins
  exact ⟨rfl, (congrArg (fun t => t.1) hins).symm, (congrArg (fun t => t.2.1) hins).symm, (congrArg (fun t => t.2.2.1) hins).symm⟩
theorem sp_w97 : decode (am_bc 179) (am_pc 179 102) = .ok (.invokevirtual 62, 3) ∧ am_pc 179 103 = am_pc 179 102 + 3 ∧ (am_lw (am_lk 179 102).2.2.1 (.methodLink (am_own 179) 62 (am_y 75)) && am_vok 75 1 8) = true ∧ am_fr 75 + 1 ≤ am_fr 179 ∧ 8 + (am_nL 75 + 11) + am_lo 75 ≤ am_lo 179 := by decide +kernel
section AMS
variable {p : Program} {l : Launch} {e : Env} {R : Room} {s : State} {m : MethodId} {args : Array Value} {below : List Frame} {meth : Method} {c : Code} {Q : State → Prop}
set_option maxHeartbeats 16000000 in
theorem sp_97 {G : va_G} {cA : Nat → ClassId} {L : Nat} {xs : Nat → Int32} {adc : Nat → Option Nat} {A : Nat → Prop} {rf : Value} {hf : am_H} {n : Nat} (HM : am_Met l n) (IH : am_G p l e R s m args below meth c Q G cA L xs adc A 179 (fun _ => True) 0 0 0 rf hf n) (hcx : am_Ctx p s m args meth c 179) (hfx : am_Fx G cA L xs adc A s) (hcc : hf.2.2.1 ≤ R.cells) (hss : hf.2.2.2 ≤ R.slots) (hfr : am_fr 179 ≤ R.frames) (hlo : am_lo 179 ≤ R.locals)
    {i a b : Nat} {ir : Instr} {ls st : List Value} {h : am_H} {ad : Nat → Option Nat} {H : Heap} {locs : List Loc} {Ls : Array Slot} (hins : am_ins 179 i = (ir, a, b, 97)) (he : am_call (am_ex n) 179 i ls st h a b 97 = some (rf, hf)) (hw : am_Wd G cA L xs adc A s ad h H locs) (hl : am_Lr ad (am_nL 179) ls Ls) (hvl : am_vs h.2.1.2.2 ls) (hst : am_vs h.2.1.2.2 st) :
    W p l e R s m args below meth c H locs (h.2.2.1 - 0) (h.2.2.2 - 0) Q (F0 m (am_pc 179 i) Ls (st.map (am_cv ad))) := by
  obtain ⟨rfl, rfl, rfl, rfl⟩ := sp_at97 hins
  obtain ⟨hd, hnx, hq, f1, f2⟩ := sp_w97
  obtain ⟨hx, hb, hml, hown, hts, hini⟩ := id hcx
  obtain ⟨hK, hC, hA⟩ := id hfx
  obtain ⟨hP, hD, hS, hg⟩ := id hw
  unfold am_call at he
  obtain ⟨hb2, he1⟩ := am_cond_inv he
  clear he
  simp only [Bool.and_eq_true] at hb2
  have hbl := Nat.le_of_ble_eq_true hb2.1
  have hrl := Nat.le_of_ble_eq_true hb2.2
  have hrest : am_vs h.2.1.2.2 (st.drop 1) := fun v hv => hst v (List.mem_of_mem_drop hv)
  have hsumr : 2 * 0 + (((st.drop 1).map (am_cv ad)).map fun v => v.category).sum ≤ 8 := by
    rw [am_sum_cv]
    have := am_cat_le hrest
    omega
  replace he1 : cond (Nat.ble 48 h.2.1.2.2) (am_recv 8 (st.take 1).reverse h (am_run (am_ex n) 75 (st.take 1).reverse h fun rh => am_vI rh.1 fun x => cond (Nat.beq (rh.2.2.1.1 1 2) 34) (am_ex n 179 (102 + 1) ls (.int x :: st.drop 1) rh.2) (am_ex n 179 (102 + 1) (ls.map am_ren) (.int x :: (st.drop 1).map am_ren) (am_swap rh.2)))) none = some (rf, hf) := he1
  obtain ⟨h48, he1⟩ := am_cond_inv he1
  have h48 := Nat.le_of_ble_eq_true h48
  obtain ⟨he2, hrecv⟩ := am_recv_inv he1
  obtain ⟨hexp, ⟨r, h1⟩, hr, he3⟩ := am_run_inv he2
  clear he1 he2
  obtain ⟨x, hxr, he4⟩ := am_vI_inv he3
  have hxr : r = .int x := hxr
  subst hxr
  have has : am_vs h.2.1.2.2 (st.take 1).reverse := fun v hv => hst v (List.mem_of_mem_take (List.mem_reverse.mp hv))
  obtain ⟨hA', hU⟩ := am_pre (as := (st.take 1).reverse) hfx hw
  have hMx := am_Mex n _ _ _ _ _ _ _ hr
  have hM1 : h.2.2.1 ≤ h1.2.2.1 := hMx.1
  have hM2 : h.2.2.2 ≤ h1.2.2.2 := hMx.2.1
  have hM3 : h.2.1.2.2 ≤ h1.2.1.2.2 := hMx.2.2
  have hM4 : h1.2.2.1 ≤ hf.2.2.1 ∧ h1.2.2.2 ≤ hf.2.2.2 := by
    cases hz : Nat.beq (h1.2.1.1 1 2) 34 with
    | true =>
      have he5 : cond (Nat.beq (h1.2.1.1 1 2) 34) (am_ex n 179 (102 + 1) ls (.int x :: st.drop 1) h1) (am_ex n 179 (102 + 1) (ls.map am_ren) (.int x :: (st.drop 1).map am_ren) (am_swap h1)) = some (rf, hf) := he4
      rw [hz, cond_true] at he5
      have := am_Mex n _ _ _ _ _ _ _ he5
      exact ⟨this.1, this.2.1⟩
    | false =>
      have he5 : cond (Nat.beq (h1.2.1.1 1 2) 34) (am_ex n 179 (102 + 1) ls (.int x :: st.drop 1) h1) (am_ex n 179 (102 + 1) (ls.map am_ren) (.int x :: (st.drop 1).map am_ren) (am_swap h1)) = some (rf, hf) := he4
      rw [hz, cond_false] at he5
      have := am_Mex n _ _ _ _ _ _ _ he5
      exact ⟨this.1, this.2.1⟩
  have hfit : (h.2.2.1 - 0) + (h1.2.2.1 - h.2.2.1) ≤ R.cells ∧ (h.2.2.2 - 0) + (h1.2.2.2 - h.2.2.2) ≤ R.slots := by omega
  have hstk : st.map (am_cv ad) = ((st.take 1).reverse.map (am_cv ad)).reverse ++ (st.drop 1).map (am_cv ad) := by
    rw [← List.map_reverse, List.reverse_reverse, ← List.map_append, List.take_append_drop]
  have hlenas : (st.take 1).reverse.length = 1 := by rw [List.length_reverse, List.length_take]; omega
  have done : ∀ (av : Array Value) (st0 : List Value), va_Run p l e R s m args below meth c H locs (h.2.2.1 - 0) (h.2.2.2 - 0) (h1.2.2.1 - h.2.2.1) (h1.2.2.2 - h.2.2.2) (F0 m (am_pc 179 102) Ls st0) ((st.drop 1).map (am_cv ad)) (am_Qc G cA L xs adc ad h h1 H.size 75 (.int x) av) (va_A (am_ws cA ad h) H.size) → W p l e R s m args below meth c H locs (h.2.2.1 - 0) (h.2.2.2 - 0) Q (F0 m (am_pc 179 102) Ls st0) := fun av st0 hrun => by
    refine am_after hrun hA' hS (fun ad' H1 locs1 hw' had hvd => ?_)
    have had2 : ∀ q, 1000 < q → ad' q = ad q := fun q hq => (hw'.2.2.2.2.2.2.2.2.2.2.1 q hq).trans (hg.2.2.2.2.2.2.2.1 q hq).symm
    rw [show h.2.2.1 - 0 + (h1.2.2.1 - h.2.2.1) = h1.2.2.1 - 0 by omega, show h.2.2.2 - 0 + (h1.2.2.2 - h.2.2.2) = h1.2.2.2 - 0 by omega]
    show W p l e R s m args below meth c H1 locs1 (h1.2.2.1 - 0) (h1.2.2.2 - 0) Q (F0 m (am_pc 179 102 + 3) Ls (.int x :: (st.drop 1).map (am_cv ad)))
    rw [← hnx, ← am_cvs_eq had had2 hrest]
    have he5 : cond (Nat.beq (h1.2.1.1 1 2) 34) (am_ex n 179 (102 + 1) ls (.int x :: st.drop 1) h1) (am_ex n 179 (102 + 1) (ls.map am_ren) (.int x :: (st.drop 1).map am_ren) (am_swap h1)) = some (rf, hf) := he4
    have hl' := hl.ad had had2 hvl
    cases hz : Nat.beq (h1.2.1.1 1 2) 34 with
    | true =>
      rw [hz, cond_true] at he5
      exact IH 103 ls (.int x :: st.drop 1) h1 ad' H1 locs1 Ls he5 hw' hl' (hvl.le hM3) (am_vs.cons trivial (hrest.le hM3)) trivial (Nat.zero_le _) (Nat.zero_le _) (Nat.zero_le _)
    | false =>
      rw [hz, cond_false] at he5
      have hn1 : 48 ≤ h1.2.1.2.2 := Nat.le_trans h48 hM3
      have := IH 103 (ls.map am_ren) (.int x :: (st.drop 1).map am_ren) (am_swap h1) (fun z => ad' (am_sig z)) H1 locs1 Ls he5 (sw_wd hw' hn1) (sw_lr hl') (sw_vs hn1 (hvl.le hM3)) (am_vs.cons trivial (sw_vs hn1 (hrest.le hM3))) trivial (Nat.zero_le _) (Nat.zero_le _) (Nat.zero_le _)
      rw [List.map_cons, sw_cvs] at this
      exact this
  have hMet := HM 75 _ h h1 (.int x) (by decide) hr hexp has G cA L xs adc ad H.size hg
  have hsz : (F0 m (am_pc 179 102) Ls (st.map (am_cv ad))).locals.size = am_nL 179 := hl.1
  rw [hstk]
  have SF : CallFix p m c (am_bc 179) (am_nL 179) s args am_good (am_own 179) := ⟨hx, hb, hml, hown, hts⟩
  simp only [Bool.and_eq_true] at hq
  obtain ⟨hl1, hok⟩ := hq
  unfold am_vok am_npar at hok
  simp only [Bool.and_eq_true] at hok
  obtain ⟨⟨⟨⟨⟨⟨o1, o2⟩, o3⟩, o4⟩, o5⟩, o6⟩, o7⟩ := hok
  have o1 := of_decide_eq_true o1
  have o3 := of_decide_eq_true o3
  obtain ⟨m1, m2, m3, -, -⟩ := am_mok_at (a := 75) (by decide)
  rcases hrecv with y | ⟨q, as', e1, e2⟩
  · omega
  obtain ⟨ao, hao, y1, y2, hws⟩ := am_at (cA := cA) hg (q := q) (by omega) (by omega)
  rw [am_ce_obj e2 (by decide)] at hws
  have e3 : (st.take 1).reverse.map (am_cv ad) = .ref ao :: as'.map (am_cv ad) := by
    have hcv : am_cv ad (.ref q) = .ref ao := by show va_rf (ad q) = _; rw [hao]; rfl
    rw [e1, List.map_cons, hcv]
  have e4 := va_recv hK hP (am_cl_at (b := 8) (by decide) (by decide)) hws
  have e4 : ∃ cellB : Cell, H[ao]? = some cellB ∧ cellB.vm.isStatics = false ∧ s.vm.findClass (am_y 75).cls = some cellB.cls := by
    rw [o1]; exact e4
  rw [e3] at hU ⊢
  have hla : (as'.map (am_cv ad)).length = 1 - 1 := by
    rw [e1, List.length_cons] at hlenas
    rw [List.length_map]
    omega
  refine done _ _ (va_runV (C := (am_y 75).cls) (ret := am_rty 75) (bytes := am_bc 75) (maxL := am_nL 75) (index := 62) (n := 1 - 1) SF hMet (cwV (ws' := am_good) (1 - 1) hts (fun w' hw' => ?_) rfl rfl rfl ⟨rfl, m2, m3, o3⟩ ⟨by show am_fr 75 + 1 ≤ R.frames; omega, by show 8 + (am_nL 75 + 11) + am_lo 75 ≤ R.locals; omega⟩) ⟨am_Pc_blind, e4, hU⟩ rfl hla hsz (by simp) hsumr hd hfit)
  unfold wsV at hw'
  rcases List.mem_append.mp hw' with z1 | z1
  · simp only [List.mem_cons, List.not_mem_nil, or_false] at z1
    have : w' ∈ am_good := by
      rcases z1 with z1 | z1 | z1 | z1 <;> rw [z1]
      · exact am_lw_in hl1 rfl
      · exact am_lw_in o4 rfl
      · exact am_lw_in o5 rfl
      · exact am_lw_in o6 rfl
    exact ⟨this, am_good_word this⟩
  · exact am_wsm_good (by decide) w' z1
end AMS

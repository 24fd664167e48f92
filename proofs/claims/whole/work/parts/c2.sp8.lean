/-! THE EIGHT CAUGHT CALLS OF THE LAW. -/
theorem sp_Wc : Cond.initialized "ScanChartLaw" ∈ am_good := am_good_in (List.mem_of_getElem? (i := 77) (by decide +kernel)) rfl
theorem sp_Wa_feed : Cond.methodLink "ScanChartLaw" 48 yL_feed ∈ am_good := am_good_in (List.mem_of_getElem? (i := 713) (by decide +kernel)) rfl
theorem sp_Wb_feed : Cond.static yL_feed ∈ am_good := am_good_in (List.mem_of_getElem? (i := 714) (by decide +kernel)) rfl
theorem sp_Wd_feed : Cond.codeWith yL_feed cL_feed 6 (some .int) [(0, 11, 14, 13)] ∈ am_good := am_good_in (List.mem_of_getElem? (i := 715) (by decide +kernel)) rfl
theorem sp_We_feed : yL_feed.cls ≠ "java/lang/invoke/MethodHandle" ∧ yL_feed.cls ≠ "java/lang/invoke/VarHandle" ∧ (parseMethodDescriptor yL_feed.desc).map (fun d => d.parameters.length) = some 4 := by decide +kernel
theorem sp_Wa_input : Cond.methodLink "ScanChartLaw" 78 yL_input ∈ am_good := am_good_in (List.mem_of_getElem? (i := 793) (by decide +kernel)) rfl
theorem sp_Wb_input : Cond.static yL_input ∈ am_good := am_good_in (List.mem_of_getElem? (i := 794) (by decide +kernel)) rfl
theorem sp_Wd_input : Cond.codeWith yL_input cL_input 4 (some .int) [(0, 6, 9, 19)] ∈ am_good := am_good_in (List.mem_of_getElem? (i := 795) (by decide +kernel)) rfl
theorem sp_We_input : yL_input.cls ≠ "java/lang/invoke/MethodHandle" ∧ yL_input.cls ≠ "java/lang/invoke/VarHandle" ∧ (parseMethodDescriptor yL_input.desc).map (fun d => d.parameters.length) = some 3 := by decide +kernel
theorem sp_Wa_scan : Cond.methodLink "ScanChartLaw" 82 yL_scan ∈ am_good := am_good_in (List.mem_of_getElem? (i := 820) (by decide +kernel)) rfl
theorem sp_Wb_scan : Cond.static yL_scan ∈ am_good := am_good_in (List.mem_of_getElem? (i := 821) (by decide +kernel)) rfl
theorem sp_Wd_scan : Cond.codeWith yL_scan cL_scan 4 (some .int) [(0, 9, 12, 13)] ∈ am_good := am_good_in (List.mem_of_getElem? (i := 822) (by decide +kernel)) rfl
theorem sp_We_scan : yL_scan.cls ≠ "java/lang/invoke/MethodHandle" ∧ yL_scan.cls ≠ "java/lang/invoke/VarHandle" ∧ (parseMethodDescriptor yL_scan.desc).map (fun d => d.parameters.length) = some 3 := by decide +kernel
theorem sp_Wa_run : Cond.methodLink "ScanChartLaw" 86 yL_run ∈ am_good := am_good_in (List.mem_of_getElem? (i := 972) (by decide +kernel)) rfl
theorem sp_Wb_run : Cond.static yL_run ∈ am_good := am_good_in (List.mem_of_getElem? (i := 973) (by decide +kernel)) rfl
theorem sp_Wd_run : Cond.codeWith yL_run cL_run 5 (some .int) [(0, 10, 13, 13)] ∈ am_good := am_good_in (List.mem_of_getElem? (i := 974) (by decide +kernel)) rfl
theorem sp_We_run : yL_run.cls ≠ "java/lang/invoke/MethodHandle" ∧ yL_run.cls ≠ "java/lang/invoke/VarHandle" ∧ (parseMethodDescriptor yL_run.desc).map (fun d => d.parameters.length) = some 4 := by decide +kernel
theorem sp_Wa_output : Cond.methodLink "ScanChartLaw" 90 yL_output ∈ am_good := am_good_in (List.mem_of_getElem? (i := 980) (by decide +kernel)) rfl
theorem sp_Wb_output : Cond.static yL_output ∈ am_good := am_good_in (List.mem_of_getElem? (i := 981) (by decide +kernel)) rfl
theorem sp_Wd_output : Cond.codeWith yL_output cL_output 4 (some .int) [(0, 16, 19, 19)] ∈ am_good := am_good_in (List.mem_of_getElem? (i := 982) (by decide +kernel)) rfl
theorem sp_We_output : yL_output.cls ≠ "java/lang/invoke/MethodHandle" ∧ yL_output.cls ≠ "java/lang/invoke/VarHandle" ∧ (parseMethodDescriptor yL_output.desc).map (fun d => d.parameters.length) = some 3 := by decide +kernel
theorem sp_Wa_bits : Cond.methodLink "ScanChartLaw" 93 yL_bits ∈ am_good := am_good_in (List.mem_of_getElem? (i := 988) (by decide +kernel)) rfl
theorem sp_Wb_bits : Cond.static yL_bits ∈ am_good := am_good_in (List.mem_of_getElem? (i := 989) (by decide +kernel)) rfl
theorem sp_Wd_bits : Cond.codeWith yL_bits cL_bits 4 (some .int) [(0, 9, 12, 13)] ∈ am_good := am_good_in (List.mem_of_getElem? (i := 990) (by decide +kernel)) rfl
theorem sp_We_bits : yL_bits.cls ≠ "java/lang/invoke/MethodHandle" ∧ yL_bits.cls ≠ "java/lang/invoke/VarHandle" ∧ (parseMethodDescriptor yL_bits.desc).map (fun d => d.parameters.length) = some 3 := by decide +kernel
theorem sp_Wa_word : Cond.methodLink "ScanChartLaw" 96 yL_word ∈ am_good := am_good_in (List.mem_of_getElem? (i := 997) (by decide +kernel)) rfl
theorem sp_Wb_word : Cond.static yL_word ∈ am_good := am_good_in (List.mem_of_getElem? (i := 998) (by decide +kernel)) rfl
theorem sp_Wd_word : Cond.codeWith yL_word cL_word 4 (some .int) [(0, 9, 12, 19)] ∈ am_good := am_good_in (List.mem_of_getElem? (i := 999) (by decide +kernel)) rfl
theorem sp_We_word : yL_word.cls ≠ "java/lang/invoke/MethodHandle" ∧ yL_word.cls ≠ "java/lang/invoke/VarHandle" ∧ (parseMethodDescriptor yL_word.desc).map (fun d => d.parameters.length) = some 3 := by decide +kernel
theorem sp_Wa_block : Cond.methodLink "ScanChartLaw" 99 yL_block ∈ am_good := am_good_in (List.mem_of_getElem? (i := 1005) (by decide +kernel)) rfl
theorem sp_Wb_block : Cond.static yL_block ∈ am_good := am_good_in (List.mem_of_getElem? (i := 1006) (by decide +kernel)) rfl
theorem sp_Wd_block : Cond.codeWith yL_block cL_block 5 (some .int) [(0, 10, 13, 19), (0, 10, 17, 13)] ∈ am_good := am_good_in (List.mem_of_getElem? (i := 1007) (by decide +kernel)) rfl
theorem sp_We_block : yL_block.cls ≠ "java/lang/invoke/MethodHandle" ∧ yL_block.cls ≠ "java/lang/invoke/VarHandle" ∧ (parseMethodDescriptor yL_block.desc).map (fun d => d.parameters.length) = some 4 := by decide +kernel
section AMS
variable {p : Program} {l : Launch} {e : Env} {R : Room} {s : State} {m : MethodId} {args : Array Value} {below : List Frame} {meth : Method} {c : Code} {Q : State → Prop}
set_option maxHeartbeats 4000000 in
theorem sp8_feed {G : va_G} {cA : Nat → ClassId} {L : Nat} {xs : Nat → Int32} {adc : Nat → Option Nat} {A : Nat → Prop} {rf : Value} {hf : am_H} {n : Nat} (hl0 : l.stackTraces = false) (hT : sp_T A s) (IH : am_G p l e R s m args below meth c Q G cA L xs adc A 179 (fun _ => True) 0 0 0 rf hf n) (hcx : am_Ctx p s m args meth c 179) (hfx : am_Fx G cA L xs adc A s) (hcc : hf.2.2.1 ≤ R.cells) (hss : hf.2.2.2 ≤ R.slots) (hfr : 10 ≤ R.frames) (hlo : 400 ≤ R.locals)
    {i : Nat} {as ls rest : List Value} {h : am_H} {ad : Nat → Option Nat} {H : Heap} {locs : List Loc} {Ls : Array Slot}
    (he : am_okw 0 as h (am_thr 0 as (am_ex n 179 (i + 1) ls (.int 1 :: rest) (am_bump h)) (am_ex n 179 (i + 1) ls (.int 2 :: rest) (am_bump h)) (am_run (am_ex n) (am_wm 0) (am_win 0 as) h fun rh => am_out 0 as rh.1 rh.2 fun h' => am_ex n 179 (i + 1) ls (.int 0 :: rest) h')) = some (rf, hf)) (has : am_vs h.2.1.2.2 as) (hw : am_Wd G cA L xs adc A s ad h H locs) (hl : am_Lr ad (am_nL 179) ls Ls) (hvl : am_vs h.2.1.2.2 ls) (hrest : am_vs h.2.1.2.2 rest) (hr4 : rest.length ≤ 4) (hd : decode (am_bc 179) (am_pc 179 i) = .ok (.invokestatic 48, 3)) (hnx : am_pc 179 (i + 1) = am_pc 179 i + 3) :
    W p l e R s m args below meth c H locs (h.2.2.1 - 0) (h.2.2.2 - 0) Q (F0 m (am_pc 179 i) Ls ((as.map (am_cv ad)).reverse ++ rest.map (am_cv ad))) := by
  obtain ⟨tU, tS, tF1, tF2, tN, ⟨g36, t36⟩, ⟨g73, t73⟩, ⟨g81, t81⟩, ⟨g90, t90⟩, ⟨g99, t99⟩, ⟨g119, t119⟩, ⟨g121, t121⟩⟩ := hT
  obtain ⟨q, n9, x, o, rfl, hq8, ho, he⟩ := okw_0 he
  have hg := hw.2.2.2
  obtain ⟨ao, hao, -, -, -⟩ := am_at (cA := cA) hg (q := q) (by omega) (by omega)
  have eq0 : am_cv ad (.ref q) = .ref ao := by show va_rf (ad q) = _; rw [hao]; rfl
  obtain ⟨oo, hoo, -, -, -⟩ := am_at (cA := cA) hg (q := o) (by omega) (by omega)
  have eo : am_cv ad (.ref o) = .ref oo := by show va_rf (ad o) = _; rw [hoo]; rfl
  have em : ([.int n9, .long x, .ref o] : List Value).map (am_cv ad) = [.int n9, .long x, .ref oo] := by rw [← eo]; rfl
  have em2 : ([.ref q, .int n9, .long x, .ref o] : List Value).map (am_cv ad) = [.ref ao, .int n9, .long x, .ref oo] := by rw [← eq0, ← eo]; rfl
  replace he : (if n9 < 1 then (am_ex n 179 (i + 1) ls (.int 1 :: rest) (am_bump h)) else if 8 < n9 then (am_ex n 179 (i + 1) ls (.int 1 :: rest) (am_bump h)) else (am_run (am_ex n) (am_wm 0) (am_win 0 [.ref q, .int n9, .long x, .ref o]) h fun rh => am_out 0 [.ref q, .int n9, .long x, .ref o] rh.1 rh.2 fun h' => am_ex n 179 (i + 1) ls (.int 0 :: rest) h')) = some (rf, hf) := he
  have thr1 : n9 < 1 ∨ 8 < n9 → am_ex n 179 (i + 1) ls (.int 1 :: rest) (am_bump h) = some (rf, hf) → W p l e R s m args below meth c H locs (h.2.2.1 - 0) (h.2.2.2 - 0) Q (F0 m (am_pc 179 i) Ls ((([.ref q, .int n9, .long x, .ref o] : List Value).map (am_cv ad)).reverse ++ rest.map (am_cv ad))) := fun hc he => by
    refine sp_thr (E := "java/lang/IllegalArgumentException") (text := "n is not 1 to 8") (is := 36) (ic := 38) (N := sp_N) (v := 1) (z := 48) (maxL := 6) (nA := 4) (yW := yL_feed) (cc := cL_feed) (hh := [(0, 11, 14, 13)]) (as' := [.int n9, .long x, .ref o]) IH hcx hfx hcc hss (by omega) (by omega) tU tS xt_ok1 tF1 t36 tN sp_Nb (fun b sz => ?_) sp_Wa_feed sp_Wb_feed sp_Wc sp_Wd_feed sp_We_feed rfl (by decide) he hw hl hvl hrest hr4 hq8 hd hnx
    rw [em]
    exact xw_met (nm := "") (k := 73) (n := 2) (pcR := 17) (Ac := [.int n9, .long x]) (rest := [.int 0, .ref oo]) (pr := []) (su := []) (x := ⟨0, 11, 14, 13⟩) (by decide) xt_ok1 (xt_met hl0 xt_ok1 xt_cl1 xd_73_11 (Nat.le_of_ble_eq_true rfl) (xp_feed hc)) xe_feed (Nat.le_of_ble_eq_true rfl) (Nat.le_of_ble_eq_true rfl) (Nat.le_of_ble_eq_true rfl) rfl (by decide +kernel) xg_feed rfl xh_feed rfl (by decide) xl_cl1 xl_ca1 rfl (fun _ h => nomatch h) sp_Nb
  by_cases c1 : n9 < 1
  · rw [if_pos c1] at he
    exact thr1 (Or.inl c1) he
  rw [if_neg c1] at he
  by_cases c2 : 8 < n9
  · rw [if_pos c2] at he
    exact thr1 (Or.inr c2) he
  rw [if_neg c2] at he
  obtain ⟨hexp, ⟨v, h1⟩, hr, he3⟩ := am_run_inv he
  replace hr : am_ex n 73 0 (am_ent [.ref q, .int n9, .long x] (am_nL 73)) [] h = some (v, h1) := hr
  replace hexp : (am_exp [.ref q, .int n9, .long x]).length ≤ am_nL 73 := hexp
  have hMx := am_Mex n _ _ _ _ _ _ _ hr
  have hvs : am_vs h.2.1.2.2 [.ref q, .int n9, .long x] := am_vs.cons has.hd (am_vs.cons trivial (am_vs.cons trivial (am_vs.nil)))
  replace he3 : cond (Nat.beq (am_S h1 o).1 22) (am_inb 0 (am_S h1 o).2 (am_vI v fun y => am_ex n 179 (i + 1) ls (.int 0 :: rest) (am_sJ h1 o 0 y.toInt64))) none = some (rf, hf) := he3
  obtain ⟨ho1, he4⟩ := am_cond_inv he3
  obtain ⟨hin, he5⟩ := am_inb_inv he4
  obtain ⟨y, hy, he6⟩ := am_vI_inv he5
  subst hy
  have ho1 := Nat.eq_of_beq_eq_true ho1
  exact sp_ret (nA := 4) (as := [.ref q, .int n9, .long x, .ref o]) IH hcx hfx hcc hss (xk_met (k := 73) (nA := 2) (pcC := 6) (pcL := 10) (pcR := 19) (index := 7) (maxL := 6) (hh := [(0, 11, 14, 13)]) (yW := yL_feed) (cc := cL_feed) (y := y.toInt64) (Ac := [.int n9, .long x]) (by decide) hr hexp hvs hq8 ho ho1 hin xe_feed xd_last_feed rfl (by decide +kernel) hg (by rw [show (Value.ref q :: ([.int n9, .long x] ++ [Value.ref o])) = [.ref q, .int n9, .long x, .ref o] from rfl, em2]; exact Nat.le_of_ble_eq_true rfl) (fun b oo9 => xg_feed (b := b) (o := oo9) (n := n9) (x := x)) (fun ad9 => xj_feed (y := y)) xf_feed) rfl rfl (Nat.le_trans (by decide +kernel : am_fr 73 + 1 + 1 ≤ 10) hfr) (Nat.le_trans (by decide +kernel : 8 + (6 + 11) + (8 + (am_nL 73 + 11) + am_lo 73) ≤ 400) hlo) sp_Wa_feed sp_Wb_feed sp_Wc sp_Wd_feed sp_We_feed rfl he6 hMx.1 hMx.2.1 hMx.2.2 hw hl hvl hrest hr4 hd hnx
set_option maxHeartbeats 4000000 in
theorem sp8_input {G : va_G} {cA : Nat → ClassId} {L : Nat} {xs : Nat → Int32} {adc : Nat → Option Nat} {A : Nat → Prop} {rf : Value} {hf : am_H} {n : Nat} (hl0 : l.stackTraces = false) (hT : sp_T A s) (IH : am_G p l e R s m args below meth c Q G cA L xs adc A 179 (fun _ => True) 0 0 0 rf hf n) (hcx : am_Ctx p s m args meth c 179) (hfx : am_Fx G cA L xs adc A s) (hcc : hf.2.2.1 ≤ R.cells) (hss : hf.2.2.2 ≤ R.slots) (hfr : 10 ≤ R.frames) (hlo : 400 ≤ R.locals)
    {i : Nat} {as ls rest : List Value} {h : am_H} {ad : Nat → Option Nat} {H : Heap} {locs : List Loc} {Ls : Array Slot}
    (he : am_okw 1 as h (am_thr 1 as (am_ex n 179 (i + 1) ls (.int 1 :: rest) (am_bump h)) (am_ex n 179 (i + 1) ls (.int 2 :: rest) (am_bump h)) (am_run (am_ex n) (am_wm 1) (am_win 1 as) h fun rh => am_out 1 as rh.1 rh.2 fun h' => am_ex n 179 (i + 1) ls (.int 0 :: rest) h')) = some (rf, hf)) (has : am_vs h.2.1.2.2 as) (hw : am_Wd G cA L xs adc A s ad h H locs) (hl : am_Lr ad (am_nL 179) ls Ls) (hvl : am_vs h.2.1.2.2 ls) (hrest : am_vs h.2.1.2.2 rest) (hr4 : rest.length ≤ 4) (hd : decode (am_bc 179) (am_pc 179 i) = .ok (.invokestatic 78, 3)) (hnx : am_pc 179 (i + 1) = am_pc 179 i + 3) :
    W p l e R s m args below meth c H locs (h.2.2.1 - 0) (h.2.2.2 - 0) Q (F0 m (am_pc 179 i) Ls ((as.map (am_cv ad)).reverse ++ rest.map (am_cv ad))) := by
  obtain ⟨tU, tS, tF1, tF2, tN, ⟨g36, t36⟩, ⟨g73, t73⟩, ⟨g81, t81⟩, ⟨g90, t90⟩, ⟨g99, t99⟩, ⟨g119, t119⟩, ⟨g121, t121⟩⟩ := hT
  obtain ⟨q, n9, t9, rfl, hq8, he⟩ := okw_1 he
  have hg := hw.2.2.2
  obtain ⟨ao, hao, -, -, -⟩ := am_at (cA := cA) hg (q := q) (by omega) (by omega)
  have eq0 : am_cv ad (.ref q) = .ref ao := by show va_rf (ad q) = _; rw [hao]; rfl
  have em : ([.int n9, .int t9] : List Value).map (am_cv ad) = [.int n9, .int t9] := by rfl
  have em2 : ([.ref q, .int n9, .int t9] : List Value).map (am_cv ad) = [.ref ao, .int n9, .int t9] := by rw [← eq0]; rfl
  replace he : (if n9 < 0 then (am_ex n 179 (i + 1) ls (.int 1 :: rest) (am_bump h)) else if 32 ≤ n9 then (am_ex n 179 (i + 1) ls (.int 1 :: rest) (am_bump h)) else (am_run (am_ex n) (am_wm 1) (am_win 1 [.ref q, .int n9, .int t9]) h fun rh => am_out 1 [.ref q, .int n9, .int t9] rh.1 rh.2 fun h' => am_ex n 179 (i + 1) ls (.int 0 :: rest) h')) = some (rf, hf) := he
  have thr1 : n9 < 0 ∨ 32 ≤ n9 → am_ex n 179 (i + 1) ls (.int 1 :: rest) (am_bump h) = some (rf, hf) → W p l e R s m args below meth c H locs (h.2.2.1 - 0) (h.2.2.2 - 0) Q (F0 m (am_pc 179 i) Ls ((([.ref q, .int n9, .int t9] : List Value).map (am_cv ad)).reverse ++ rest.map (am_cv ad))) := fun hc he => by
    refine sp_thr (E := "java/lang/IndexOutOfBoundsException") (text := "i is not 0 to 31") (is := 73) (ic := 75) (N := sp_N) (v := 1) (z := 78) (maxL := 4) (nA := 3) (yW := yL_input) (cc := cL_input) (hh := [(0, 6, 9, 19)]) (as' := [.int n9, .int t9]) IH hcx hfx hcc hss (by omega) (by omega) tU tS xt_ok2 tF2 t73 tN sp_Nb (fun b sz => ?_) sp_Wa_input sp_Wb_input sp_Wc sp_Wd_input sp_We_input rfl (by decide) he hw hl hvl hrest hr4 hq8 hd hnx
    rw [em]
    exact xw_met (nm := "") (k := 79) (n := 2) (pcR := 11) (Ac := [.int n9, .int t9]) (rest := []) (pr := []) (su := []) (x := ⟨0, 6, 9, 19⟩) (by decide) xt_ok2 (xt_met hl0 xt_ok2 xt_cl2 xd_79_10 (Nat.le_of_ble_eq_true rfl) (xp_input hc)) xe_input (Nat.le_of_ble_eq_true rfl) (Nat.le_of_ble_eq_true rfl) (Nat.le_of_ble_eq_true rfl) rfl (by decide +kernel) xg_input rfl xh_input rfl (by decide) xl_cl2 xl_ca2 rfl (fun _ h => nomatch h) sp_Nb
  by_cases c1 : n9 < 0
  · rw [if_pos c1] at he
    exact thr1 (Or.inl c1) he
  rw [if_neg c1] at he
  by_cases c2 : 32 ≤ n9
  · rw [if_pos c2] at he
    exact thr1 (Or.inr c2) he
  rw [if_neg c2] at he
  obtain ⟨hexp, ⟨v, h1⟩, hr, he3⟩ := am_run_inv he
  replace hr : am_ex n 79 0 (am_ent [.ref q, .int n9, .int t9] (am_nL 79)) [] h = some (v, h1) := hr
  replace hexp : (am_exp [.ref q, .int n9, .int t9]).length ≤ am_nL 79 := hexp
  have hMx := am_Mex n _ _ _ _ _ _ _ hr
  have hvs : am_vs h.2.1.2.2 [.ref q, .int n9, .int t9] := am_vs.cons has.hd (am_vs.cons trivial (am_vs.cons trivial (am_vs.nil)))
  replace he3 : am_ex n 179 (i + 1) ls (.int 0 :: rest) h1 = some (rf, hf) := he3
  exact sp_ret (nA := 3) (as := [.ref q, .int n9, .int t9]) IH hcx hfx hcc hss (xk_metV (k := 79) (nA := 2) (pcC := 3) (pcR := 13) (index := 15) (maxL := 4) (hh := [(0, 6, 9, 19)]) (yW := yL_input) (cc := cL_input) (Ac := [.int n9, .int t9]) (by decide) hr hexp hvs hq8 rfl xe_input rfl (by decide +kernel) hg (by rw [em2]; exact Nat.le_of_ble_eq_true rfl) (fun b => xg_input (b := b) (n := n9) (t := t9)) xf_input) rfl rfl (Nat.le_trans (by decide +kernel : am_fr 79 + 1 + 1 ≤ 10) hfr) (Nat.le_trans (by decide +kernel : 8 + (4 + 11) + (8 + (am_nL 79 + 11) + am_lo 79) ≤ 400) hlo) sp_Wa_input sp_Wb_input sp_Wc sp_Wd_input sp_We_input rfl he3 hMx.1 hMx.2.1 hMx.2.2 hw hl hvl hrest hr4 hd hnx
set_option maxHeartbeats 4000000 in
theorem sp8_scan {G : va_G} {cA : Nat → ClassId} {L : Nat} {xs : Nat → Int32} {adc : Nat → Option Nat} {A : Nat → Prop} {rf : Value} {hf : am_H} {n : Nat} (hl0 : l.stackTraces = false) (hT : sp_T A s) (IH : am_G p l e R s m args below meth c Q G cA L xs adc A 179 (fun _ => True) 0 0 0 rf hf n) (hcx : am_Ctx p s m args meth c 179) (hfx : am_Fx G cA L xs adc A s) (hcc : hf.2.2.1 ≤ R.cells) (hss : hf.2.2.2 ≤ R.slots) (hfr : 10 ≤ R.frames) (hlo : 400 ≤ R.locals)
    {i : Nat} {as ls rest : List Value} {h : am_H} {ad : Nat → Option Nat} {H : Heap} {locs : List Loc} {Ls : Array Slot}
    (he : am_okw 2 as h (am_thr 2 as (am_ex n 179 (i + 1) ls (.int 1 :: rest) (am_bump h)) (am_ex n 179 (i + 1) ls (.int 2 :: rest) (am_bump h)) (am_run (am_ex n) (am_wm 2) (am_win 2 as) h fun rh => am_out 2 as rh.1 rh.2 fun h' => am_ex n 179 (i + 1) ls (.int 0 :: rest) h')) = some (rf, hf)) (has : am_vs h.2.1.2.2 as) (hw : am_Wd G cA L xs adc A s ad h H locs) (hl : am_Lr ad (am_nL 179) ls Ls) (hvl : am_vs h.2.1.2.2 ls) (hrest : am_vs h.2.1.2.2 rest) (hr4 : rest.length ≤ 4) (hd : decode (am_bc 179) (am_pc 179 i) = .ok (.invokestatic 82, 3)) (hnx : am_pc 179 (i + 1) = am_pc 179 i + 3) :
    W p l e R s m args below meth c H locs (h.2.2.1 - 0) (h.2.2.2 - 0) Q (F0 m (am_pc 179 i) Ls ((as.map (am_cv ad)).reverse ++ rest.map (am_cv ad))) := by
  obtain ⟨tU, tS, tF1, tF2, tN, ⟨g36, t36⟩, ⟨g73, t73⟩, ⟨g81, t81⟩, ⟨g90, t90⟩, ⟨g99, t99⟩, ⟨g119, t119⟩, ⟨g121, t121⟩⟩ := hT
  obtain ⟨q, n9, o, rfl, hq8, ho, he⟩ := okw_2 he
  have hg := hw.2.2.2
  obtain ⟨ao, hao, -, -, -⟩ := am_at (cA := cA) hg (q := q) (by omega) (by omega)
  have eq0 : am_cv ad (.ref q) = .ref ao := by show va_rf (ad q) = _; rw [hao]; rfl
  obtain ⟨oo, hoo, -, -, -⟩ := am_at (cA := cA) hg (q := o) (by omega) (by omega)
  have eo : am_cv ad (.ref o) = .ref oo := by show va_rf (ad o) = _; rw [hoo]; rfl
  have em : ([.int n9, .ref o] : List Value).map (am_cv ad) = [.int n9, .ref oo] := by rw [← eo]; rfl
  have em2 : ([.ref q, .int n9, .ref o] : List Value).map (am_cv ad) = [.ref ao, .int n9, .ref oo] := by rw [← eq0, ← eo]; rfl
  replace he : (if n9 < 0 then (am_ex n 179 (i + 1) ls (.int 1 :: rest) (am_bump h)) else if 1000000 < n9 then (am_ex n 179 (i + 1) ls (.int 1 :: rest) (am_bump h)) else (am_run (am_ex n) (am_wm 2) (am_win 2 [.ref q, .int n9, .ref o]) h fun rh => am_out 2 [.ref q, .int n9, .ref o] rh.1 rh.2 fun h' => am_ex n 179 (i + 1) ls (.int 0 :: rest) h')) = some (rf, hf) := he
  have thr1 : n9 < 0 ∨ 1000000 < n9 → am_ex n 179 (i + 1) ls (.int 1 :: rest) (am_bump h) = some (rf, hf) → W p l e R s m args below meth c H locs (h.2.2.1 - 0) (h.2.2.2 - 0) Q (F0 m (am_pc 179 i) Ls ((([.ref q, .int n9, .ref o] : List Value).map (am_cv ad)).reverse ++ rest.map (am_cv ad))) := fun hc he => by
    refine sp_thr (E := "java/lang/IllegalArgumentException") (text := "ticks is not 0 to 1000000") (is := 81) (ic := 38) (N := sp_N) (v := 1) (z := 82) (maxL := 4) (nA := 3) (yW := yL_scan) (cc := cL_scan) (hh := [(0, 9, 12, 13)]) (as' := [.int n9, .ref o]) IH hcx hfx hcc hss (by omega) (by omega) tU tS xt_ok1 tF1 t81 tN sp_Nb (fun b sz => ?_) sp_Wa_scan sp_Wb_scan sp_Wc sp_Wd_scan sp_We_scan rfl (by decide) he hw hl hvl hrest hr4 hq8 hd hnx
    rw [em]
    exact xw_met (nm := "") (k := 80) (n := 1) (pcR := 14) (Ac := [.int n9]) (rest := [.int 0, .ref oo]) (pr := []) (su := []) (x := ⟨0, 9, 12, 13⟩) (by decide) xt_ok1 (xt_met hl0 xt_ok1 xt_cl1 xd_80_10 (Nat.le_of_ble_eq_true rfl) (xp_scan hc)) xe_scan (Nat.le_of_ble_eq_true rfl) (Nat.le_of_ble_eq_true rfl) (Nat.le_of_ble_eq_true rfl) rfl (by decide +kernel) xg_scan rfl xh_scan rfl (by decide) xl_cl1 xl_ca1 rfl (fun _ h => nomatch h) sp_Nb
  by_cases c1 : n9 < 0
  · rw [if_pos c1] at he
    exact thr1 (Or.inl c1) he
  rw [if_neg c1] at he
  by_cases c2 : 1000000 < n9
  · rw [if_pos c2] at he
    exact thr1 (Or.inr c2) he
  rw [if_neg c2] at he
  obtain ⟨hexp, ⟨v, h1⟩, hr, he3⟩ := am_run_inv he
  replace hr : am_ex n 80 0 (am_ent [.ref q, .int n9] (am_nL 80)) [] h = some (v, h1) := hr
  replace hexp : (am_exp [.ref q, .int n9]).length ≤ am_nL 80 := hexp
  have hMx := am_Mex n _ _ _ _ _ _ _ hr
  have hvs : am_vs h.2.1.2.2 [.ref q, .int n9] := am_vs.cons has.hd (am_vs.cons trivial (am_vs.nil))
  replace he3 : cond (Nat.beq (am_S h1 o).1 22) (am_inb 0 (am_S h1 o).2 (am_vI v fun y => am_ex n 179 (i + 1) ls (.int 0 :: rest) (am_sJ h1 o 0 y.toInt64))) none = some (rf, hf) := he3
  obtain ⟨ho1, he4⟩ := am_cond_inv he3
  obtain ⟨hin, he5⟩ := am_inb_inv he4
  obtain ⟨y, hy, he6⟩ := am_vI_inv he5
  subst hy
  have ho1 := Nat.eq_of_beq_eq_true ho1
  exact sp_ret (nA := 3) (as := [.ref q, .int n9, .ref o]) IH hcx hfx hcc hss (xk_met (k := 80) (nA := 1) (pcC := 4) (pcL := 8) (pcR := 16) (index := 21) (maxL := 4) (hh := [(0, 9, 12, 13)]) (yW := yL_scan) (cc := cL_scan) (y := y.toInt64) (Ac := [.int n9]) (by decide) hr hexp hvs hq8 ho ho1 hin xe_scan xd_last_scan rfl (by decide +kernel) hg (by rw [show (Value.ref q :: ([.int n9] ++ [Value.ref o])) = [.ref q, .int n9, .ref o] from rfl, em2]; exact Nat.le_of_ble_eq_true rfl) (fun b oo9 => xg_scan (b := b) (o := oo9) (n := n9)) (fun ad9 => xj_scan (y := y)) xf_scan) rfl rfl (Nat.le_trans (by decide +kernel : am_fr 80 + 1 + 1 ≤ 10) hfr) (Nat.le_trans (by decide +kernel : 8 + (4 + 11) + (8 + (am_nL 80 + 11) + am_lo 80) ≤ 400) hlo) sp_Wa_scan sp_Wb_scan sp_Wc sp_Wd_scan sp_We_scan rfl he6 hMx.1 hMx.2.1 hMx.2.2 hw hl hvl hrest hr4 hd hnx
set_option maxHeartbeats 4000000 in
theorem sp8_run {G : va_G} {cA : Nat → ClassId} {L : Nat} {xs : Nat → Int32} {adc : Nat → Option Nat} {A : Nat → Prop} {rf : Value} {hf : am_H} {n : Nat} (hl0 : l.stackTraces = false) (hT : sp_T A s) (IH : am_G p l e R s m args below meth c Q G cA L xs adc A 179 (fun _ => True) 0 0 0 rf hf n) (hcx : am_Ctx p s m args meth c 179) (hfx : am_Fx G cA L xs adc A s) (hcc : hf.2.2.1 ≤ R.cells) (hss : hf.2.2.2 ≤ R.slots) (hfr : 10 ≤ R.frames) (hlo : 400 ≤ R.locals)
    {i : Nat} {as ls rest : List Value} {h : am_H} {ad : Nat → Option Nat} {H : Heap} {locs : List Loc} {Ls : Array Slot}
    (he : am_okw 3 as h (am_thr 3 as (am_ex n 179 (i + 1) ls (.int 1 :: rest) (am_bump h)) (am_ex n 179 (i + 1) ls (.int 2 :: rest) (am_bump h)) (am_run (am_ex n) (am_wm 3) (am_win 3 as) h fun rh => am_out 3 as rh.1 rh.2 fun h' => am_ex n 179 (i + 1) ls (.int 0 :: rest) h')) = some (rf, hf)) (has : am_vs h.2.1.2.2 as) (hw : am_Wd G cA L xs adc A s ad h H locs) (hl : am_Lr ad (am_nL 179) ls Ls) (hvl : am_vs h.2.1.2.2 ls) (hrest : am_vs h.2.1.2.2 rest) (hr4 : rest.length ≤ 4) (hd : decode (am_bc 179) (am_pc 179 i) = .ok (.invokestatic 86, 3)) (hnx : am_pc 179 (i + 1) = am_pc 179 i + 3) :
    W p l e R s m args below meth c H locs (h.2.2.1 - 0) (h.2.2.2 - 0) Q (F0 m (am_pc 179 i) Ls ((as.map (am_cv ad)).reverse ++ rest.map (am_cv ad))) := by
  obtain ⟨tU, tS, tF1, tF2, tN, ⟨g36, t36⟩, ⟨g73, t73⟩, ⟨g81, t81⟩, ⟨g90, t90⟩, ⟨g99, t99⟩, ⟨g119, t119⟩, ⟨g121, t121⟩⟩ := hT
  obtain ⟨q, n9, t9, o, rfl, hq8, ho, he⟩ := okw_3 he
  have hg := hw.2.2.2
  obtain ⟨ao, hao, -, -, -⟩ := am_at (cA := cA) hg (q := q) (by omega) (by omega)
  have eq0 : am_cv ad (.ref q) = .ref ao := by show va_rf (ad q) = _; rw [hao]; rfl
  obtain ⟨oo, hoo, -, -, -⟩ := am_at (cA := cA) hg (q := o) (by omega) (by omega)
  have eo : am_cv ad (.ref o) = .ref oo := by show va_rf (ad o) = _; rw [hoo]; rfl
  have em : ([.int n9, .int t9, .ref o] : List Value).map (am_cv ad) = [.int n9, .int t9, .ref oo] := by rw [← eo]; rfl
  have em2 : ([.ref q, .int n9, .int t9, .ref o] : List Value).map (am_cv ad) = [.ref ao, .int n9, .int t9, .ref oo] := by rw [← eq0, ← eo]; rfl
  replace he : (if n9 < 0 then (am_ex n 179 (i + 1) ls (.int 1 :: rest) (am_bump h)) else if 100 < n9 then (am_ex n 179 (i + 1) ls (.int 1 :: rest) (am_bump h)) else if t9 < 0 then (am_ex n 179 (i + 1) ls (.int 1 :: rest) (am_bump h)) else if 1000000 < t9 then (am_ex n 179 (i + 1) ls (.int 1 :: rest) (am_bump h)) else (am_run (am_ex n) (am_wm 3) (am_win 3 [.ref q, .int n9, .int t9, .ref o]) h fun rh => am_out 3 [.ref q, .int n9, .int t9, .ref o] rh.1 rh.2 fun h' => am_ex n 179 (i + 1) ls (.int 0 :: rest) h')) = some (rf, hf) := he
  have thr1 : n9 < 0 ∨ 100 < n9 → am_ex n 179 (i + 1) ls (.int 1 :: rest) (am_bump h) = some (rf, hf) → W p l e R s m args below meth c H locs (h.2.2.1 - 0) (h.2.2.2 - 0) Q (F0 m (am_pc 179 i) Ls ((([.ref q, .int n9, .int t9, .ref o] : List Value).map (am_cv ad)).reverse ++ rest.map (am_cv ad))) := fun hc he => by
    refine sp_thr (E := "java/lang/IllegalArgumentException") (text := "n is not 0 to 100") (is := 90) (ic := 38) (N := sp_N) (v := 1) (z := 86) (maxL := 5) (nA := 4) (yW := yL_run) (cc := cL_run) (hh := [(0, 10, 13, 13)]) (as' := [.int n9, .int t9, .ref o]) IH hcx hfx hcc hss (by omega) (by omega) tU tS xt_ok1 tF1 t90 tN sp_Nb (fun b sz => ?_) sp_Wa_run sp_Wb_run sp_Wc sp_Wd_run sp_We_run rfl (by decide) he hw hl hvl hrest hr4 hq8 hd hnx
    rw [em]
    exact xw_met (nm := "") (k := 81) (n := 2) (pcR := 16) (Ac := [.int n9, .int t9]) (rest := [.int 0, .ref oo]) (pr := []) (su := []) (x := ⟨0, 10, 13, 13⟩) (by decide) xt_ok1 (xt_met hl0 xt_ok1 xt_cl1 xd_81_10 (Nat.le_of_ble_eq_true rfl) (xp_run1 hc)) xe_run (Nat.le_of_ble_eq_true rfl) (Nat.le_of_ble_eq_true rfl) (Nat.le_of_ble_eq_true rfl) rfl (by decide +kernel) xg_run rfl xh_run rfl (by decide) xl_cl1 xl_ca1 rfl (fun _ h => nomatch h) sp_Nb
  have thr2 : t9 < 0 ∨ 1000000 < t9 → ¬ n9 < 0 → ¬ 100 < n9 → am_ex n 179 (i + 1) ls (.int 1 :: rest) (am_bump h) = some (rf, hf) → W p l e R s m args below meth c H locs (h.2.2.1 - 0) (h.2.2.2 - 0) Q (F0 m (am_pc 179 i) Ls ((([.ref q, .int n9, .int t9, .ref o] : List Value).map (am_cv ad)).reverse ++ rest.map (am_cv ad))) := fun hc c1 c2 he => by
    refine sp_thr (E := "java/lang/IllegalArgumentException") (text := "ticks is not 0 to 1000000") (is := 81) (ic := 38) (N := sp_N) (v := 1) (z := 86) (maxL := 5) (nA := 4) (yW := yL_run) (cc := cL_run) (hh := [(0, 10, 13, 13)]) (as' := [.int n9, .int t9, .ref o]) IH hcx hfx hcc hss (by omega) (by omega) tU tS xt_ok1 tF1 t81 tN sp_Nb (fun b sz => ?_) sp_Wa_run sp_Wb_run sp_Wc sp_Wd_run sp_We_run rfl (by decide) he hw hl hvl hrest hr4 hq8 hd hnx
    rw [em]
    exact xw_met (nm := "") (k := 81) (n := 2) (pcR := 16) (Ac := [.int n9, .int t9]) (rest := [.int 0, .ref oo]) (pr := []) (su := []) (x := ⟨0, 10, 13, 13⟩) (by decide) xt_ok1 (xt_met hl0 xt_ok1 xt_cl1 xd_81_30 (Nat.le_of_ble_eq_true rfl) (xp_run2 c1 c2 hc)) xe_run (Nat.le_of_ble_eq_true rfl) (Nat.le_of_ble_eq_true rfl) (Nat.le_of_ble_eq_true rfl) rfl (by decide +kernel) xg_run rfl xh_run rfl (by decide) xl_cl1 xl_ca1 rfl (fun _ h => nomatch h) sp_Nb
  by_cases c1 : n9 < 0
  · rw [if_pos c1] at he
    exact thr1 (Or.inl c1) he
  rw [if_neg c1] at he
  by_cases c2 : 100 < n9
  · rw [if_pos c2] at he
    exact thr1 (Or.inr c2) he
  rw [if_neg c2] at he
  by_cases c3 : t9 < 0
  · rw [if_pos c3] at he
    exact thr2 (Or.inl c3) c1 c2 he
  rw [if_neg c3] at he
  by_cases c4 : 1000000 < t9
  · rw [if_pos c4] at he
    exact thr2 (Or.inr c4) c1 c2 he
  rw [if_neg c4] at he
  obtain ⟨hexp, ⟨v, h1⟩, hr, he3⟩ := am_run_inv he
  replace hr : am_ex n 81 0 (am_ent [.ref q, .int n9, .int t9] (am_nL 81)) [] h = some (v, h1) := hr
  replace hexp : (am_exp [.ref q, .int n9, .int t9]).length ≤ am_nL 81 := hexp
  have hMx := am_Mex n _ _ _ _ _ _ _ hr
  have hvs : am_vs h.2.1.2.2 [.ref q, .int n9, .int t9] := am_vs.cons has.hd (am_vs.cons trivial (am_vs.cons trivial (am_vs.nil)))
  replace he3 : cond (Nat.beq (am_S h1 o).1 22) (am_inb 0 (am_S h1 o).2 (am_vI v fun y => am_ex n 179 (i + 1) ls (.int 0 :: rest) (am_sJ h1 o 0 y.toInt64))) none = some (rf, hf) := he3
  obtain ⟨ho1, he4⟩ := am_cond_inv he3
  obtain ⟨hin, he5⟩ := am_inb_inv he4
  obtain ⟨y, hy, he6⟩ := am_vI_inv he5
  subst hy
  have ho1 := Nat.eq_of_beq_eq_true ho1
  exact sp_ret (nA := 4) (as := [.ref q, .int n9, .int t9, .ref o]) IH hcx hfx hcc hss (xk_met (k := 81) (nA := 2) (pcC := 5) (pcL := 9) (pcR := 18) (index := 25) (maxL := 5) (hh := [(0, 10, 13, 13)]) (yW := yL_run) (cc := cL_run) (y := y.toInt64) (Ac := [.int n9, .int t9]) (by decide) hr hexp hvs hq8 ho ho1 hin xe_run xd_last_run rfl (by decide +kernel) hg (by rw [show (Value.ref q :: ([.int n9, .int t9] ++ [Value.ref o])) = [.ref q, .int n9, .int t9, .ref o] from rfl, em2]; exact Nat.le_of_ble_eq_true rfl) (fun b oo9 => xg_run (b := b) (o := oo9) (n := n9) (t := t9)) (fun ad9 => xj_run (y := y)) xf_run) rfl rfl (Nat.le_trans (by decide +kernel : am_fr 81 + 1 + 1 ≤ 10) hfr) (Nat.le_trans (by decide +kernel : 8 + (5 + 11) + (8 + (am_nL 81 + 11) + am_lo 81) ≤ 400) hlo) sp_Wa_run sp_Wb_run sp_Wc sp_Wd_run sp_We_run rfl he6 hMx.1 hMx.2.1 hMx.2.2 hw hl hvl hrest hr4 hd hnx
set_option maxHeartbeats 4000000 in
theorem sp8_output {G : va_G} {cA : Nat → ClassId} {L : Nat} {xs : Nat → Int32} {adc : Nat → Option Nat} {A : Nat → Prop} {rf : Value} {hf : am_H} {n : Nat} (hl0 : l.stackTraces = false) (hT : sp_T A s) (IH : am_G p l e R s m args below meth c Q G cA L xs adc A 179 (fun _ => True) 0 0 0 rf hf n) (hcx : am_Ctx p s m args meth c 179) (hfx : am_Fx G cA L xs adc A s) (hcc : hf.2.2.1 ≤ R.cells) (hss : hf.2.2.2 ≤ R.slots) (hfr : 10 ≤ R.frames) (hlo : 400 ≤ R.locals)
    {i : Nat} {as ls rest : List Value} {h : am_H} {ad : Nat → Option Nat} {H : Heap} {locs : List Loc} {Ls : Array Slot}
    (he : am_okw 4 as h (am_thr 4 as (am_ex n 179 (i + 1) ls (.int 1 :: rest) (am_bump h)) (am_ex n 179 (i + 1) ls (.int 2 :: rest) (am_bump h)) (am_run (am_ex n) (am_wm 4) (am_win 4 as) h fun rh => am_out 4 as rh.1 rh.2 fun h' => am_ex n 179 (i + 1) ls (.int 0 :: rest) h')) = some (rf, hf)) (has : am_vs h.2.1.2.2 as) (hw : am_Wd G cA L xs adc A s ad h H locs) (hl : am_Lr ad (am_nL 179) ls Ls) (hvl : am_vs h.2.1.2.2 ls) (hrest : am_vs h.2.1.2.2 rest) (hr4 : rest.length ≤ 4) (hd : decode (am_bc 179) (am_pc 179 i) = .ok (.invokestatic 90, 3)) (hnx : am_pc 179 (i + 1) = am_pc 179 i + 3) :
    W p l e R s m args below meth c H locs (h.2.2.1 - 0) (h.2.2.2 - 0) Q (F0 m (am_pc 179 i) Ls ((as.map (am_cv ad)).reverse ++ rest.map (am_cv ad))) := by
  obtain ⟨tU, tS, tF1, tF2, tN, ⟨g36, t36⟩, ⟨g73, t73⟩, ⟨g81, t81⟩, ⟨g90, t90⟩, ⟨g99, t99⟩, ⟨g119, t119⟩, ⟨g121, t121⟩⟩ := hT
  obtain ⟨q, n9, o, rfl, hq8, ho, he⟩ := okw_4 he
  have hg := hw.2.2.2
  obtain ⟨ao, hao, -, -, -⟩ := am_at (cA := cA) hg (q := q) (by omega) (by omega)
  have eq0 : am_cv ad (.ref q) = .ref ao := by show va_rf (ad q) = _; rw [hao]; rfl
  obtain ⟨oo, hoo, -, -, -⟩ := am_at (cA := cA) hg (q := o) (by omega) (by omega)
  have eo : am_cv ad (.ref o) = .ref oo := by show va_rf (ad o) = _; rw [hoo]; rfl
  have em : ([.int n9, .ref o] : List Value).map (am_cv ad) = [.int n9, .ref oo] := by rw [← eo]; rfl
  have em2 : ([.ref q, .int n9, .ref o] : List Value).map (am_cv ad) = [.ref ao, .int n9, .ref oo] := by rw [← eq0, ← eo]; rfl
  replace he : (if n9 < 0 then (am_ex n 179 (i + 1) ls (.int 1 :: rest) (am_bump h)) else if 32 ≤ n9 then (am_ex n 179 (i + 1) ls (.int 1 :: rest) (am_bump h)) else (am_run (am_ex n) (am_wm 4) (am_win 4 [.ref q, .int n9, .ref o]) h fun rh => am_out 4 [.ref q, .int n9, .ref o] rh.1 rh.2 fun h' => am_ex n 179 (i + 1) ls (.int 0 :: rest) h')) = some (rf, hf) := he
  have thr1 : n9 < 0 ∨ 32 ≤ n9 → am_ex n 179 (i + 1) ls (.int 1 :: rest) (am_bump h) = some (rf, hf) → W p l e R s m args below meth c H locs (h.2.2.1 - 0) (h.2.2.2 - 0) Q (F0 m (am_pc 179 i) Ls ((([.ref q, .int n9, .ref o] : List Value).map (am_cv ad)).reverse ++ rest.map (am_cv ad))) := fun hc he => by
    refine sp_thr (E := "java/lang/IndexOutOfBoundsException") (text := "i is not 0 to 31") (is := 73) (ic := 75) (N := sp_N) (v := 1) (z := 90) (maxL := 4) (nA := 3) (yW := yL_output) (cc := cL_output) (hh := [(0, 16, 19, 19)]) (as' := [.int n9, .ref o]) IH hcx hfx hcc hss (by omega) (by omega) tU tS xt_ok2 tF2 t73 tN sp_Nb (fun b sz => ?_) sp_Wa_output sp_Wb_output sp_Wc sp_Wd_output sp_We_output rfl (by decide) he hw hl hvl hrest hr4 hq8 hd hnx
    rw [em]
    exact xw_met (nm := "") (k := 82) (n := 1) (pcR := 21) (Ac := [.int n9]) (rest := [.int 0, .ref oo]) (pr := []) (su := []) (x := ⟨0, 16, 19, 19⟩) (by decide) xt_ok2 (xt_met hl0 xt_ok2 xt_cl2 xd_82_10 (Nat.le_of_ble_eq_true rfl) (xp_output hc)) xe_output (Nat.le_of_ble_eq_true rfl) (Nat.le_of_ble_eq_true rfl) (Nat.le_of_ble_eq_true rfl) rfl (by decide +kernel) xg_output rfl xh_output rfl (by decide) xl_cl2 xl_ca2 rfl (fun _ h => nomatch h) sp_Nb
  by_cases c1 : n9 < 0
  · rw [if_pos c1] at he
    exact thr1 (Or.inl c1) he
  rw [if_neg c1] at he
  by_cases c2 : 32 ≤ n9
  · rw [if_pos c2] at he
    exact thr1 (Or.inr c2) he
  rw [if_neg c2] at he
  obtain ⟨hexp, ⟨v, h1⟩, hr, he3⟩ := am_run_inv he
  replace hr : am_ex n 82 0 (am_ent [.ref q, .int n9] (am_nL 82)) [] h = some (v, h1) := hr
  replace hexp : (am_exp [.ref q, .int n9]).length ≤ am_nL 82 := hexp
  have hMx := am_Mex n _ _ _ _ _ _ _ hr
  have hvs : am_vs h.2.1.2.2 [.ref q, .int n9] := am_vs.cons has.hd (am_vs.cons trivial (am_vs.nil))
  replace he3 : cond (Nat.beq (am_S h1 o).1 22) (am_inb 0 (am_S h1 o).2 (am_vI v fun y => if y = 0 then am_ex n 179 (i + 1) ls (.int 0 :: rest) (am_sJ h1 o 0 0) else am_ex n 179 (i + 1) ls (.int 0 :: rest) (am_sJ h1 o 0 1))) none = some (rf, hf) := he3
  obtain ⟨ho1, he4⟩ := am_cond_inv he3
  obtain ⟨hin, he5⟩ := am_inb_inv he4
  obtain ⟨y, hy, he6⟩ := am_vI_inv he5
  subst hy
  have ho1 := Nat.eq_of_beq_eq_true ho1
  by_cases cy : y = 0
  · rw [if_pos cy] at he6
    subst cy
    exact sp_ret (nA := 3) (as := [.ref q, .int n9, .ref o]) IH hcx hfx hcc hss (xk_met (k := 82) (nA := 1) (pcC := 4) (pcL := 15) (pcR := 23) (index := 29) (maxL := 4) (hh := [(0, 16, 19, 19)]) (yW := yL_output) (cc := cL_output) (y := 0) (Ac := [.int n9]) (by decide) hr hexp hvs hq8 ho ho1 hin xe_output xd_last_output rfl (by decide +kernel) hg (by rw [show (Value.ref q :: ([.int n9] ++ [Value.ref o])) = [.ref q, .int n9, .ref o] from rfl, em2]; exact Nat.le_of_ble_eq_true rfl) (fun b oo9 => xg_output (b := b) (o := oo9) (n := n9)) (fun ad9 => xj_output0) xf_output) rfl rfl (Nat.le_trans (by decide +kernel : am_fr 82 + 1 + 1 ≤ 10) hfr) (Nat.le_trans (by decide +kernel : 8 + (4 + 11) + (8 + (am_nL 82 + 11) + am_lo 82) ≤ 400) hlo) sp_Wa_output sp_Wb_output sp_Wc sp_Wd_output sp_We_output rfl he6 hMx.1 hMx.2.1 hMx.2.2 hw hl hvl hrest hr4 hd hnx
  · rw [if_neg cy] at he6
    exact sp_ret (nA := 3) (as := [.ref q, .int n9, .ref o]) IH hcx hfx hcc hss (xk_met (k := 82) (nA := 1) (pcC := 4) (pcL := 15) (pcR := 23) (index := 29) (maxL := 4) (hh := [(0, 16, 19, 19)]) (yW := yL_output) (cc := cL_output) (y := 1) (Ac := [.int n9]) (by decide) hr hexp hvs hq8 ho ho1 hin xe_output xd_last_output rfl (by decide +kernel) hg (by rw [show (Value.ref q :: ([.int n9] ++ [Value.ref o])) = [.ref q, .int n9, .ref o] from rfl, em2]; exact Nat.le_of_ble_eq_true rfl) (fun b oo9 => xg_output (b := b) (o := oo9) (n := n9)) (fun ad9 => xj_output1 cy) xf_output) rfl rfl (Nat.le_trans (by decide +kernel : am_fr 82 + 1 + 1 ≤ 10) hfr) (Nat.le_trans (by decide +kernel : 8 + (4 + 11) + (8 + (am_nL 82 + 11) + am_lo 82) ≤ 400) hlo) sp_Wa_output sp_Wb_output sp_Wc sp_Wd_output sp_We_output rfl he6 hMx.1 hMx.2.1 hMx.2.2 hw hl hvl hrest hr4 hd hnx
set_option maxHeartbeats 4000000 in
theorem sp8_bits {G : va_G} {cA : Nat → ClassId} {L : Nat} {xs : Nat → Int32} {adc : Nat → Option Nat} {A : Nat → Prop} {rf : Value} {hf : am_H} {n : Nat} (hl0 : l.stackTraces = false) (hT : sp_T A s) (IH : am_G p l e R s m args below meth c Q G cA L xs adc A 179 (fun _ => True) 0 0 0 rf hf n) (hcx : am_Ctx p s m args meth c 179) (hfx : am_Fx G cA L xs adc A s) (hcc : hf.2.2.1 ≤ R.cells) (hss : hf.2.2.2 ≤ R.slots) (hfr : 10 ≤ R.frames) (hlo : 400 ≤ R.locals)
    {i : Nat} {as ls rest : List Value} {h : am_H} {ad : Nat → Option Nat} {H : Heap} {locs : List Loc} {Ls : Array Slot}
    (he : am_okw 5 as h (am_thr 5 as (am_ex n 179 (i + 1) ls (.int 1 :: rest) (am_bump h)) (am_ex n 179 (i + 1) ls (.int 2 :: rest) (am_bump h)) (am_run (am_ex n) (am_wm 5) (am_win 5 as) h fun rh => am_out 5 as rh.1 rh.2 fun h' => am_ex n 179 (i + 1) ls (.int 0 :: rest) h')) = some (rf, hf)) (has : am_vs h.2.1.2.2 as) (hw : am_Wd G cA L xs adc A s ad h H locs) (hl : am_Lr ad (am_nL 179) ls Ls) (hvl : am_vs h.2.1.2.2 ls) (hrest : am_vs h.2.1.2.2 rest) (hr4 : rest.length ≤ 4) (hd : decode (am_bc 179) (am_pc 179 i) = .ok (.invokestatic 93, 3)) (hnx : am_pc 179 (i + 1) = am_pc 179 i + 3) :
    W p l e R s m args below meth c H locs (h.2.2.1 - 0) (h.2.2.2 - 0) Q (F0 m (am_pc 179 i) Ls ((as.map (am_cv ad)).reverse ++ rest.map (am_cv ad))) := by
  obtain ⟨tU, tS, tF1, tF2, tN, ⟨g36, t36⟩, ⟨g73, t73⟩, ⟨g81, t81⟩, ⟨g90, t90⟩, ⟨g99, t99⟩, ⟨g119, t119⟩, ⟨g121, t121⟩⟩ := hT
  obtain ⟨q, n9, o, rfl, hq8, ho, he⟩ := okw_5 he
  have hg := hw.2.2.2
  obtain ⟨ao, hao, -, -, -⟩ := am_at (cA := cA) hg (q := q) (by omega) (by omega)
  have eq0 : am_cv ad (.ref q) = .ref ao := by show va_rf (ad q) = _; rw [hao]; rfl
  obtain ⟨oo, hoo, -, -, -⟩ := am_at (cA := cA) hg (q := o) (by omega) (by omega)
  have eo : am_cv ad (.ref o) = .ref oo := by show va_rf (ad o) = _; rw [hoo]; rfl
  have em : ([.int n9, .ref o] : List Value).map (am_cv ad) = [.int n9, .ref oo] := by rw [← eo]; rfl
  have em2 : ([.ref q, .int n9, .ref o] : List Value).map (am_cv ad) = [.ref ao, .int n9, .ref oo] := by rw [← eq0, ← eo]; rfl
  replace he : (if n9 < 0 then (am_ex n 179 (i + 1) ls (.int 1 :: rest) (am_bump h)) else if 4 < n9 then (am_ex n 179 (i + 1) ls (.int 1 :: rest) (am_bump h)) else (am_run (am_ex n) (am_wm 5) (am_win 5 [.ref q, .int n9, .ref o]) h fun rh => am_out 5 [.ref q, .int n9, .ref o] rh.1 rh.2 fun h' => am_ex n 179 (i + 1) ls (.int 0 :: rest) h')) = some (rf, hf) := he
  have thr1 : n9 < 0 ∨ 4 < n9 → am_ex n 179 (i + 1) ls (.int 1 :: rest) (am_bump h) = some (rf, hf) → W p l e R s m args below meth c H locs (h.2.2.1 - 0) (h.2.2.2 - 0) Q (F0 m (am_pc 179 i) Ls ((([.ref q, .int n9, .ref o] : List Value).map (am_cv ad)).reverse ++ rest.map (am_cv ad))) := fun hc he => by
    refine sp_thr (E := "java/lang/IllegalArgumentException") (text := "kind is not 0 to 4") (is := 99) (ic := 38) (N := sp_N) (v := 1) (z := 93) (maxL := 4) (nA := 3) (yW := yL_bits) (cc := cL_bits) (hh := [(0, 9, 12, 13)]) (as' := [.int n9, .ref o]) IH hcx hfx hcc hss (by omega) (by omega) tU tS xt_ok1 tF1 t99 tN sp_Nb (fun b sz => ?_) sp_Wa_bits sp_Wb_bits sp_Wc sp_Wd_bits sp_We_bits rfl (by decide) he hw hl hvl hrest hr4 hq8 hd hnx
    rw [em]
    exact xw_met (nm := "") (k := 83) (n := 1) (pcR := 14) (Ac := [.int n9]) (rest := [.int 0, .ref oo]) (pr := []) (su := []) (x := ⟨0, 9, 12, 13⟩) (by decide) xt_ok1 (xt_met hl0 xt_ok1 xt_cl1 xd_83_9 (Nat.le_of_ble_eq_true rfl) (xp_bits hc)) xe_bits (Nat.le_of_ble_eq_true rfl) (Nat.le_of_ble_eq_true rfl) (Nat.le_of_ble_eq_true rfl) rfl (by decide +kernel) xg_bits rfl xh_bits rfl (by decide) xl_cl1 xl_ca1 rfl (fun _ h => nomatch h) sp_Nb
  by_cases c1 : n9 < 0
  · rw [if_pos c1] at he
    exact thr1 (Or.inl c1) he
  rw [if_neg c1] at he
  by_cases c2 : 4 < n9
  · rw [if_pos c2] at he
    exact thr1 (Or.inr c2) he
  rw [if_neg c2] at he
  obtain ⟨hexp, ⟨v, h1⟩, hr, he3⟩ := am_run_inv he
  replace hr : am_ex n 83 0 (am_ent [.ref q, .int n9] (am_nL 83)) [] h = some (v, h1) := hr
  replace hexp : (am_exp [.ref q, .int n9]).length ≤ am_nL 83 := hexp
  have hMx := am_Mex n _ _ _ _ _ _ _ hr
  have hvs : am_vs h.2.1.2.2 [.ref q, .int n9] := am_vs.cons has.hd (am_vs.cons trivial (am_vs.nil))
  replace he3 : cond (Nat.beq (am_S h1 o).1 22) (am_inb 0 (am_S h1 o).2 (am_vI v fun y => am_ex n 179 (i + 1) ls (.int 0 :: rest) (am_sJ h1 o 0 y.toInt64))) none = some (rf, hf) := he3
  obtain ⟨ho1, he4⟩ := am_cond_inv he3
  obtain ⟨hin, he5⟩ := am_inb_inv he4
  obtain ⟨y, hy, he6⟩ := am_vI_inv he5
  subst hy
  have ho1 := Nat.eq_of_beq_eq_true ho1
  exact sp_ret (nA := 3) (as := [.ref q, .int n9, .ref o]) IH hcx hfx hcc hss (xk_met (k := 83) (nA := 1) (pcC := 4) (pcL := 8) (pcR := 16) (index := 33) (maxL := 4) (hh := [(0, 9, 12, 13)]) (yW := yL_bits) (cc := cL_bits) (y := y.toInt64) (Ac := [.int n9]) (by decide) hr hexp hvs hq8 ho ho1 hin xe_bits xd_last_bits rfl (by decide +kernel) hg (by rw [show (Value.ref q :: ([.int n9] ++ [Value.ref o])) = [.ref q, .int n9, .ref o] from rfl, em2]; exact Nat.le_of_ble_eq_true rfl) (fun b oo9 => xg_bits (b := b) (o := oo9) (n := n9)) (fun ad9 => xj_bits (y := y)) xf_bits) rfl rfl (Nat.le_trans (by decide +kernel : am_fr 83 + 1 + 1 ≤ 10) hfr) (Nat.le_trans (by decide +kernel : 8 + (4 + 11) + (8 + (am_nL 83 + 11) + am_lo 83) ≤ 400) hlo) sp_Wa_bits sp_Wb_bits sp_Wc sp_Wd_bits sp_We_bits rfl he6 hMx.1 hMx.2.1 hMx.2.2 hw hl hvl hrest hr4 hd hnx
set_option maxHeartbeats 4000000 in
theorem sp8_word {G : va_G} {cA : Nat → ClassId} {L : Nat} {xs : Nat → Int32} {adc : Nat → Option Nat} {A : Nat → Prop} {rf : Value} {hf : am_H} {n : Nat} (hl0 : l.stackTraces = false) (hT : sp_T A s) (IH : am_G p l e R s m args below meth c Q G cA L xs adc A 179 (fun _ => True) 0 0 0 rf hf n) (hcx : am_Ctx p s m args meth c 179) (hfx : am_Fx G cA L xs adc A s) (hcc : hf.2.2.1 ≤ R.cells) (hss : hf.2.2.2 ≤ R.slots) (hfr : 10 ≤ R.frames) (hlo : 400 ≤ R.locals)
    {i : Nat} {as ls rest : List Value} {h : am_H} {ad : Nat → Option Nat} {H : Heap} {locs : List Loc} {Ls : Array Slot}
    (he : am_okw 6 as h (am_thr 6 as (am_ex n 179 (i + 1) ls (.int 1 :: rest) (am_bump h)) (am_ex n 179 (i + 1) ls (.int 2 :: rest) (am_bump h)) (am_run (am_ex n) (am_wm 6) (am_win 6 as) h fun rh => am_out 6 as rh.1 rh.2 fun h' => am_ex n 179 (i + 1) ls (.int 0 :: rest) h')) = some (rf, hf)) (has : am_vs h.2.1.2.2 as) (hw : am_Wd G cA L xs adc A s ad h H locs) (hl : am_Lr ad (am_nL 179) ls Ls) (hvl : am_vs h.2.1.2.2 ls) (hrest : am_vs h.2.1.2.2 rest) (hr4 : rest.length ≤ 4) (hd : decode (am_bc 179) (am_pc 179 i) = .ok (.invokestatic 96, 3)) (hnx : am_pc 179 (i + 1) = am_pc 179 i + 3) :
    W p l e R s m args below meth c H locs (h.2.2.1 - 0) (h.2.2.2 - 0) Q (F0 m (am_pc 179 i) Ls ((as.map (am_cv ad)).reverse ++ rest.map (am_cv ad))) := by
  obtain ⟨tU, tS, tF1, tF2, tN, ⟨g36, t36⟩, ⟨g73, t73⟩, ⟨g81, t81⟩, ⟨g90, t90⟩, ⟨g99, t99⟩, ⟨g119, t119⟩, ⟨g121, t121⟩⟩ := hT
  obtain ⟨q, n9, o, rfl, hq8, ho, he⟩ := okw_6 he
  have hg := hw.2.2.2
  obtain ⟨ao, hao, -, -, -⟩ := am_at (cA := cA) hg (q := q) (by omega) (by omega)
  have eq0 : am_cv ad (.ref q) = .ref ao := by show va_rf (ad q) = _; rw [hao]; rfl
  obtain ⟨oo, hoo, -, -, -⟩ := am_at (cA := cA) hg (q := o) (by omega) (by omega)
  have eo : am_cv ad (.ref o) = .ref oo := by show va_rf (ad o) = _; rw [hoo]; rfl
  have em : ([.int n9, .ref o] : List Value).map (am_cv ad) = [.int n9, .ref oo] := by rw [← eo]; rfl
  have em2 : ([.ref q, .int n9, .ref o] : List Value).map (am_cv ad) = [.ref ao, .int n9, .ref oo] := by rw [← eq0, ← eo]; rfl
  replace he : (if n9 < 0 then (am_ex n 179 (i + 1) ls (.int 1 :: rest) (am_bump h)) else if 32 ≤ n9 then (am_ex n 179 (i + 1) ls (.int 1 :: rest) (am_bump h)) else (am_run (am_ex n) (am_wm 6) (am_win 6 [.ref q, .int n9, .ref o]) h fun rh => am_out 6 [.ref q, .int n9, .ref o] rh.1 rh.2 fun h' => am_ex n 179 (i + 1) ls (.int 0 :: rest) h')) = some (rf, hf) := he
  have thr1 : n9 < 0 ∨ 32 ≤ n9 → am_ex n 179 (i + 1) ls (.int 1 :: rest) (am_bump h) = some (rf, hf) → W p l e R s m args below meth c H locs (h.2.2.1 - 0) (h.2.2.2 - 0) Q (F0 m (am_pc 179 i) Ls ((([.ref q, .int n9, .ref o] : List Value).map (am_cv ad)).reverse ++ rest.map (am_cv ad))) := fun hc he => by
    refine sp_thr (E := "java/lang/IndexOutOfBoundsException") (text := "i is not 0 to 31") (is := 73) (ic := 75) (N := sp_N) (v := 1) (z := 96) (maxL := 4) (nA := 3) (yW := yL_word) (cc := cL_word) (hh := [(0, 9, 12, 19)]) (as' := [.int n9, .ref o]) IH hcx hfx hcc hss (by omega) (by omega) tU tS xt_ok2 tF2 t73 tN sp_Nb (fun b sz => ?_) sp_Wa_word sp_Wb_word sp_Wc sp_Wd_word sp_We_word rfl (by decide) he hw hl hvl hrest hr4 hq8 hd hnx
    rw [em]
    exact xw_met (nm := "") (k := 84) (n := 1) (pcR := 14) (Ac := [.int n9]) (rest := [.int 0, .ref oo]) (pr := []) (su := []) (x := ⟨0, 9, 12, 19⟩) (by decide) xt_ok2 (xt_met hl0 xt_ok2 xt_cl2 xd_84_10 (Nat.le_of_ble_eq_true rfl) (xp_word hc)) xe_word (Nat.le_of_ble_eq_true rfl) (Nat.le_of_ble_eq_true rfl) (Nat.le_of_ble_eq_true rfl) rfl (by decide +kernel) xg_word rfl xh_word rfl (by decide) xl_cl2 xl_ca2 rfl (fun _ h => nomatch h) sp_Nb
  by_cases c1 : n9 < 0
  · rw [if_pos c1] at he
    exact thr1 (Or.inl c1) he
  rw [if_neg c1] at he
  by_cases c2 : 32 ≤ n9
  · rw [if_pos c2] at he
    exact thr1 (Or.inr c2) he
  rw [if_neg c2] at he
  obtain ⟨hexp, ⟨v, h1⟩, hr, he3⟩ := am_run_inv he
  replace hr : am_ex n 84 0 (am_ent [.ref q, .int n9] (am_nL 84)) [] h = some (v, h1) := hr
  replace hexp : (am_exp [.ref q, .int n9]).length ≤ am_nL 84 := hexp
  have hMx := am_Mex n _ _ _ _ _ _ _ hr
  have hvs : am_vs h.2.1.2.2 [.ref q, .int n9] := am_vs.cons has.hd (am_vs.cons trivial (am_vs.nil))
  replace he3 : cond (Nat.beq (am_S h1 o).1 22) (am_inb 0 (am_S h1 o).2 (am_vI v fun y => am_ex n 179 (i + 1) ls (.int 0 :: rest) (am_sJ h1 o 0 y.toInt64))) none = some (rf, hf) := he3
  obtain ⟨ho1, he4⟩ := am_cond_inv he3
  obtain ⟨hin, he5⟩ := am_inb_inv he4
  obtain ⟨y, hy, he6⟩ := am_vI_inv he5
  subst hy
  have ho1 := Nat.eq_of_beq_eq_true ho1
  exact sp_ret (nA := 3) (as := [.ref q, .int n9, .ref o]) IH hcx hfx hcc hss (xk_met (k := 84) (nA := 1) (pcC := 4) (pcL := 8) (pcR := 16) (index := 36) (maxL := 4) (hh := [(0, 9, 12, 19)]) (yW := yL_word) (cc := cL_word) (y := y.toInt64) (Ac := [.int n9]) (by decide) hr hexp hvs hq8 ho ho1 hin xe_word xd_last_word rfl (by decide +kernel) hg (by rw [show (Value.ref q :: ([.int n9] ++ [Value.ref o])) = [.ref q, .int n9, .ref o] from rfl, em2]; exact Nat.le_of_ble_eq_true rfl) (fun b oo9 => xg_word (b := b) (o := oo9) (n := n9)) (fun ad9 => xj_word (y := y)) xf_word) rfl rfl (Nat.le_trans (by decide +kernel : am_fr 84 + 1 + 1 ≤ 10) hfr) (Nat.le_trans (by decide +kernel : 8 + (4 + 11) + (8 + (am_nL 84 + 11) + am_lo 84) ≤ 400) hlo) sp_Wa_word sp_Wb_word sp_Wc sp_Wd_word sp_We_word rfl he6 hMx.1 hMx.2.1 hMx.2.2 hw hl hvl hrest hr4 hd hnx
set_option maxHeartbeats 4000000 in
theorem sp8_block {G : va_G} {cA : Nat → ClassId} {L : Nat} {xs : Nat → Int32} {adc : Nat → Option Nat} {A : Nat → Prop} {rf : Value} {hf : am_H} {n : Nat} (hl0 : l.stackTraces = false) (hT : sp_T A s) (IH : am_G p l e R s m args below meth c Q G cA L xs adc A 179 (fun _ => True) 0 0 0 rf hf n) (hcx : am_Ctx p s m args meth c 179) (hfx : am_Fx G cA L xs adc A s) (hcc : hf.2.2.1 ≤ R.cells) (hss : hf.2.2.2 ≤ R.slots) (hfr : 10 ≤ R.frames) (hlo : 400 ≤ R.locals)
    {i : Nat} {as ls rest : List Value} {h : am_H} {ad : Nat → Option Nat} {H : Heap} {locs : List Loc} {Ls : Array Slot}
    (he : am_okw 7 as h (am_thr 7 as (am_ex n 179 (i + 1) ls (.int 1 :: rest) (am_bump h)) (am_ex n 179 (i + 1) ls (.int 2 :: rest) (am_bump h)) (am_run (am_ex n) (am_wm 7) (am_win 7 as) h fun rh => am_out 7 as rh.1 rh.2 fun h' => am_ex n 179 (i + 1) ls (.int 0 :: rest) h')) = some (rf, hf)) (has : am_vs h.2.1.2.2 as) (hw : am_Wd G cA L xs adc A s ad h H locs) (hl : am_Lr ad (am_nL 179) ls Ls) (hvl : am_vs h.2.1.2.2 ls) (hrest : am_vs h.2.1.2.2 rest) (hr4 : rest.length ≤ 4) (hd : decode (am_bc 179) (am_pc 179 i) = .ok (.invokestatic 99, 3)) (hnx : am_pc 179 (i + 1) = am_pc 179 i + 3) :
    W p l e R s m args below meth c H locs (h.2.2.1 - 0) (h.2.2.2 - 0) Q (F0 m (am_pc 179 i) Ls ((as.map (am_cv ad)).reverse ++ rest.map (am_cv ad))) := by
  obtain ⟨tU, tS, tF1, tF2, tN, ⟨g36, t36⟩, ⟨g73, t73⟩, ⟨g81, t81⟩, ⟨g90, t90⟩, ⟨g99, t99⟩, ⟨g119, t119⟩, ⟨g121, t121⟩⟩ := hT
  obtain ⟨q, n9, t9, o, rfl, hq8, ho, he⟩ := okw_7 he
  have hg := hw.2.2.2
  obtain ⟨ao, hao, -, -, -⟩ := am_at (cA := cA) hg (q := q) (by omega) (by omega)
  have eq0 : am_cv ad (.ref q) = .ref ao := by show va_rf (ad q) = _; rw [hao]; rfl
  obtain ⟨oo, hoo, -, -, -⟩ := am_at (cA := cA) hg (q := o) (by omega) (by omega)
  have eo : am_cv ad (.ref o) = .ref oo := by show va_rf (ad o) = _; rw [hoo]; rfl
  have em : ([.int n9, .int t9, .ref o] : List Value).map (am_cv ad) = [.int n9, .int t9, .ref oo] := by rw [← eo]; rfl
  have em2 : ([.ref q, .int n9, .int t9, .ref o] : List Value).map (am_cv ad) = [.ref ao, .int n9, .int t9, .ref oo] := by rw [← eq0, ← eo]; rfl
  replace he : (if n9 < 0 then (am_ex n 179 (i + 1) ls (.int 1 :: rest) (am_bump h)) else if 8 ≤ n9 then (am_ex n 179 (i + 1) ls (.int 1 :: rest) (am_bump h)) else if t9 < 0 then (am_ex n 179 (i + 1) ls (.int 2 :: rest) (am_bump h)) else if 3 < t9 then (am_ex n 179 (i + 1) ls (.int 2 :: rest) (am_bump h)) else (am_run (am_ex n) (am_wm 7) (am_win 7 [.ref q, .int n9, .int t9, .ref o]) h fun rh => am_out 7 [.ref q, .int n9, .int t9, .ref o] rh.1 rh.2 fun h' => am_ex n 179 (i + 1) ls (.int 0 :: rest) h')) = some (rf, hf) := he
  have thr1 : n9 < 0 ∨ 8 ≤ n9 → am_ex n 179 (i + 1) ls (.int 1 :: rest) (am_bump h) = some (rf, hf) → W p l e R s m args below meth c H locs (h.2.2.1 - 0) (h.2.2.2 - 0) Q (F0 m (am_pc 179 i) Ls ((([.ref q, .int n9, .int t9, .ref o] : List Value).map (am_cv ad)).reverse ++ rest.map (am_cv ad))) := fun hc he => by
    refine sp_thr (E := "java/lang/IndexOutOfBoundsException") (text := "i is not 0 to 7") (is := 119) (ic := 75) (N := sp_N) (v := 1) (z := 99) (maxL := 5) (nA := 4) (yW := yL_block) (cc := cL_block) (hh := [(0, 10, 13, 19), (0, 10, 17, 13)]) (as' := [.int n9, .int t9, .ref o]) IH hcx hfx hcc hss (by omega) (by omega) tU tS xt_ok2 tF2 t119 tN sp_Nb (fun b sz => ?_) sp_Wa_block sp_Wb_block sp_Wc sp_Wd_block sp_We_block rfl (by decide) he hw hl hvl hrest hr4 hq8 hd hnx
    rw [em]
    exact xw_met (nm := "") (k := 85) (n := 2) (pcR := 16) (Ac := [.int n9, .int t9]) (rest := [.int 0, .ref oo]) (pr := []) (su := [⟨0, 10, 17, 13⟩]) (x := ⟨0, 10, 13, 19⟩) (by decide) xt_ok2 (xt_met hl0 xt_ok2 xt_cl2 xd_85_10 (Nat.le_of_ble_eq_true rfl) (xp_block1 hc)) xe_block (Nat.le_of_ble_eq_true rfl) (Nat.le_of_ble_eq_true rfl) (Nat.le_of_ble_eq_true rfl) rfl (by decide +kernel) xg_block rfl xh_block1 rfl (by decide) xl_cl2 xl_ca2 rfl (fun _ h => nomatch h) sp_Nb
  have thr2 : t9 < 0 ∨ 3 < t9 → ¬ n9 < 0 → ¬ 8 ≤ n9 → am_ex n 179 (i + 1) ls (.int 2 :: rest) (am_bump h) = some (rf, hf) → W p l e R s m args below meth c H locs (h.2.2.1 - 0) (h.2.2.2 - 0) Q (F0 m (am_pc 179 i) Ls ((([.ref q, .int n9, .int t9, .ref o] : List Value).map (am_cv ad)).reverse ++ rest.map (am_cv ad))) := fun hc c1 c2 he => by
    refine sp_thr (E := "java/lang/IllegalArgumentException") (text := "what is not 0 to 3") (is := 121) (ic := 38) (N := sp_N) (v := 2) (z := 99) (maxL := 5) (nA := 4) (yW := yL_block) (cc := cL_block) (hh := [(0, 10, 13, 19), (0, 10, 17, 13)]) (as' := [.int n9, .int t9, .ref o]) IH hcx hfx hcc hss (by omega) (by omega) tU tS xt_ok1 tF1 t121 tN sp_Nb (fun b sz => ?_) sp_Wa_block sp_Wb_block sp_Wc sp_Wd_block sp_We_block rfl (by decide) he hw hl hvl hrest hr4 hq8 hd hnx
    rw [em]
    exact xw_met (nm := "") (k := 85) (n := 2) (pcR := 20) (Ac := [.int n9, .int t9]) (rest := [.int 0, .ref oo]) (pr := [⟨0, 10, 13, 19⟩]) (su := []) (x := ⟨0, 10, 17, 13⟩) (by decide) xt_ok1 (xt_met hl0 xt_ok1 xt_cl1 xd_85_106 (Nat.le_of_ble_eq_true rfl) (xp_block2 c1 c2 hc)) xe_block (Nat.le_of_ble_eq_true rfl) (Nat.le_of_ble_eq_true rfl) (Nat.le_of_ble_eq_true rfl) rfl (by decide +kernel) xg_block rfl xh_block2 rfl (by decide) xl_cl1 xl_ca1 rfl (fun z hz => by rw [List.mem_singleton.mp hz]; exact ⟨by decide, _, xl_cl2, fun U hU => hU⟩) sp_Nb
  by_cases c1 : n9 < 0
  · rw [if_pos c1] at he
    exact thr1 (Or.inl c1) he
  rw [if_neg c1] at he
  by_cases c2 : 8 ≤ n9
  · rw [if_pos c2] at he
    exact thr1 (Or.inr c2) he
  rw [if_neg c2] at he
  by_cases c3 : t9 < 0
  · rw [if_pos c3] at he
    exact thr2 (Or.inl c3) c1 c2 he
  rw [if_neg c3] at he
  by_cases c4 : 3 < t9
  · rw [if_pos c4] at he
    exact thr2 (Or.inr c4) c1 c2 he
  rw [if_neg c4] at he
  obtain ⟨hexp, ⟨v, h1⟩, hr, he3⟩ := am_run_inv he
  replace hr : am_ex n 85 0 (am_ent [.ref q, .int n9, .int t9] (am_nL 85)) [] h = some (v, h1) := hr
  replace hexp : (am_exp [.ref q, .int n9, .int t9]).length ≤ am_nL 85 := hexp
  have hMx := am_Mex n _ _ _ _ _ _ _ hr
  have hvs : am_vs h.2.1.2.2 [.ref q, .int n9, .int t9] := am_vs.cons has.hd (am_vs.cons trivial (am_vs.cons trivial (am_vs.nil)))
  replace he3 : cond (Nat.beq (am_S h1 o).1 22) (am_inb 0 (am_S h1 o).2 (am_vI v fun y => am_ex n 179 (i + 1) ls (.int 0 :: rest) (am_sJ h1 o 0 y.toInt64))) none = some (rf, hf) := he3
  obtain ⟨ho1, he4⟩ := am_cond_inv he3
  obtain ⟨hin, he5⟩ := am_inb_inv he4
  obtain ⟨y, hy, he6⟩ := am_vI_inv he5
  subst hy
  have ho1 := Nat.eq_of_beq_eq_true ho1
  exact sp_ret (nA := 4) (as := [.ref q, .int n9, .int t9, .ref o]) IH hcx hfx hcc hss (xk_met (k := 85) (nA := 2) (pcC := 5) (pcL := 9) (pcR := 22) (index := 39) (maxL := 5) (hh := [(0, 10, 13, 19), (0, 10, 17, 13)]) (yW := yL_block) (cc := cL_block) (y := y.toInt64) (Ac := [.int n9, .int t9]) (by decide) hr hexp hvs hq8 ho ho1 hin xe_block xd_last_block rfl (by decide +kernel) hg (by rw [show (Value.ref q :: ([.int n9, .int t9] ++ [Value.ref o])) = [.ref q, .int n9, .int t9, .ref o] from rfl, em2]; exact Nat.le_of_ble_eq_true rfl) (fun b oo9 => xg_block (b := b) (o := oo9) (n := n9) (t := t9)) (fun ad9 => xj_block (y := y)) xf_block) rfl rfl (Nat.le_trans (by decide +kernel : am_fr 85 + 1 + 1 ≤ 10) hfr) (Nat.le_trans (by decide +kernel : 8 + (5 + 11) + (8 + (am_nL 85 + 11) + am_lo 85) ≤ 400) hlo) sp_Wa_block sp_Wb_block sp_Wc sp_Wd_block sp_We_block rfl he6 hMx.1 hMx.2.1 hMx.2.2 hw hl hvl hrest hr4 hd hnx
end AMS

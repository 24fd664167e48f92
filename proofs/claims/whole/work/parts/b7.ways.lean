/-! THE WRAPPERS OF THE LAW: their ways to the call, from the catch, their words. -/
theorem xg_feed {b o : Nat} {n : Int32} {x : Int64} : xw_pre cL_feed 6 6 [.ref b, .int n, .long x, .ref o] [.long x, .int n, .ref b, .int 0, .ref o] := by
  intro p l e R s m args below meth c H locs cells slots Q ls hx hb hl kk
  have hl : lv_has ls 6 [(0, .ref b), (1, .int n), (2, .long x), (4, .ref o)] := hl
  refine lv_aload (i := 4) hx hb (by decide +kernel) (lv_at hl 3 rfl) ?_
  refine lv_iconst (n := 0) (v := 0) hx hb (by decide +kernel) (by decide) ?_
  refine lv_aload_n (k := 0) (i := 0) hx hb (by decide +kernel) rfl (lv_at hl 0 rfl) ?_
  refine lv_iload_n (k := 1) (i := 1) hx hb (by decide +kernel) rfl (lv_at hl 1 rfl) ?_
  refine lv_lload_n (k := 2) (i := 2) hx hb (by decide +kernel) rfl (lv_at hl 2 rfl) ?_
  exact kk
theorem xe_feed : xw_dec yL_feed cL_feed 7 6 73 := ⟨by decide +kernel, by decide +kernel, by decide +kernel, by decide +kernel, am_good_in (List.mem_of_getElem? (i := 717) (by decide +kernel)) rfl, am_lw_in (i := (am_mw 73).2.1) (by decide +kernel) rfl, am_lw_in (i := (am_mw 73).2.2.1) (by decide +kernel) rfl, am_lw_in (i := (am_mw 73).2.2.2) (by decide +kernel) rfl⟩
theorem xg_input {b : Nat} {n t : Int32} : xw_pre cL_input 4 3 [.ref b, .int n, .int t] [.int t, .int n, .ref b] := by
  intro p l e R s m args below meth c H locs cells slots Q ls hx hb hl kk
  have hl : lv_has ls 4 [(0, .ref b), (1, .int n), (2, .int t)] := hl
  refine lv_aload_n (k := 0) (i := 0) hx hb (by decide +kernel) rfl (lv_at hl 0 rfl) ?_
  refine lv_iload_n (k := 1) (i := 1) hx hb (by decide +kernel) rfl (lv_at hl 1 rfl) ?_
  refine lv_iload_n (k := 2) (i := 2) hx hb (by decide +kernel) rfl (lv_at hl 2 rfl) ?_
  exact kk
theorem xe_input : xw_dec yL_input cL_input 15 3 79 := ⟨by decide +kernel, by decide +kernel, by decide +kernel, by decide +kernel, am_good_in (List.mem_of_getElem? (i := 797) (by decide +kernel)) rfl, am_lw_in (i := (am_mw 79).2.1) (by decide +kernel) rfl, am_lw_in (i := (am_mw 79).2.2.1) (by decide +kernel) rfl, am_lw_in (i := (am_mw 79).2.2.2) (by decide +kernel) rfl⟩
theorem xg_scan {b o : Nat} {n : Int32} : xw_pre cL_scan 4 4 [.ref b, .int n, .ref o] [.int n, .ref b, .int 0, .ref o] := by
  intro p l e R s m args below meth c H locs cells slots Q ls hx hb hl kk
  have hl : lv_has ls 4 [(0, .ref b), (1, .int n), (2, .ref o)] := hl
  refine lv_aload_n (k := 2) (i := 2) hx hb (by decide +kernel) rfl (lv_at hl 2 rfl) ?_
  refine lv_iconst (n := 0) (v := 0) hx hb (by decide +kernel) (by decide) ?_
  refine lv_aload_n (k := 0) (i := 0) hx hb (by decide +kernel) rfl (lv_at hl 0 rfl) ?_
  refine lv_iload_n (k := 1) (i := 1) hx hb (by decide +kernel) rfl (lv_at hl 1 rfl) ?_
  exact kk
theorem xe_scan : xw_dec yL_scan cL_scan 21 4 80 := ⟨by decide +kernel, by decide +kernel, by decide +kernel, by decide +kernel, am_good_in (List.mem_of_getElem? (i := 823) (by decide +kernel)) rfl, am_lw_in (i := (am_mw 80).2.1) (by decide +kernel) rfl, am_lw_in (i := (am_mw 80).2.2.1) (by decide +kernel) rfl, am_lw_in (i := (am_mw 80).2.2.2) (by decide +kernel) rfl⟩
theorem xg_run {b o : Nat} {n t : Int32} : xw_pre cL_run 5 5 [.ref b, .int n, .int t, .ref o] [.int t, .int n, .ref b, .int 0, .ref o] := by
  intro p l e R s m args below meth c H locs cells slots Q ls hx hb hl kk
  have hl : lv_has ls 5 [(0, .ref b), (1, .int n), (2, .int t), (3, .ref o)] := hl
  refine lv_aload_n (k := 3) (i := 3) hx hb (by decide +kernel) rfl (lv_at hl 3 rfl) ?_
  refine lv_iconst (n := 0) (v := 0) hx hb (by decide +kernel) (by decide) ?_
  refine lv_aload_n (k := 0) (i := 0) hx hb (by decide +kernel) rfl (lv_at hl 0 rfl) ?_
  refine lv_iload_n (k := 1) (i := 1) hx hb (by decide +kernel) rfl (lv_at hl 1 rfl) ?_
  refine lv_iload_n (k := 2) (i := 2) hx hb (by decide +kernel) rfl (lv_at hl 2 rfl) ?_
  exact kk
theorem xe_run : xw_dec yL_run cL_run 25 5 81 := ⟨by decide +kernel, by decide +kernel, by decide +kernel, by decide +kernel, am_good_in (List.mem_of_getElem? (i := 975) (by decide +kernel)) rfl, am_lw_in (i := (am_mw 81).2.1) (by decide +kernel) rfl, am_lw_in (i := (am_mw 81).2.2.1) (by decide +kernel) rfl, am_lw_in (i := (am_mw 81).2.2.2) (by decide +kernel) rfl⟩
theorem xg_output {b o : Nat} {n : Int32} : xw_pre cL_output 4 4 [.ref b, .int n, .ref o] [.int n, .ref b, .int 0, .ref o] := by
  intro p l e R s m args below meth c H locs cells slots Q ls hx hb hl kk
  have hl : lv_has ls 4 [(0, .ref b), (1, .int n), (2, .ref o)] := hl
  refine lv_aload_n (k := 2) (i := 2) hx hb (by decide +kernel) rfl (lv_at hl 2 rfl) ?_
  refine lv_iconst (n := 0) (v := 0) hx hb (by decide +kernel) (by decide) ?_
  refine lv_aload_n (k := 0) (i := 0) hx hb (by decide +kernel) rfl (lv_at hl 0 rfl) ?_
  refine lv_iload_n (k := 1) (i := 1) hx hb (by decide +kernel) rfl (lv_at hl 1 rfl) ?_
  exact kk
theorem xe_output : xw_dec yL_output cL_output 29 4 82 := ⟨by decide +kernel, by decide +kernel, by decide +kernel, by decide +kernel, am_good_in (List.mem_of_getElem? (i := 983) (by decide +kernel)) rfl, am_lw_in (i := (am_mw 82).2.1) (by decide +kernel) rfl, am_lw_in (i := (am_mw 82).2.2.1) (by decide +kernel) rfl, am_lw_in (i := (am_mw 82).2.2.2) (by decide +kernel) rfl⟩
theorem xg_bits {b o : Nat} {n : Int32} : xw_pre cL_bits 4 4 [.ref b, .int n, .ref o] [.int n, .ref b, .int 0, .ref o] := by
  intro p l e R s m args below meth c H locs cells slots Q ls hx hb hl kk
  have hl : lv_has ls 4 [(0, .ref b), (1, .int n), (2, .ref o)] := hl
  refine lv_aload_n (k := 2) (i := 2) hx hb (by decide +kernel) rfl (lv_at hl 2 rfl) ?_
  refine lv_iconst (n := 0) (v := 0) hx hb (by decide +kernel) (by decide) ?_
  refine lv_aload_n (k := 0) (i := 0) hx hb (by decide +kernel) rfl (lv_at hl 0 rfl) ?_
  refine lv_iload_n (k := 1) (i := 1) hx hb (by decide +kernel) rfl (lv_at hl 1 rfl) ?_
  exact kk
theorem xe_bits : xw_dec yL_bits cL_bits 33 4 83 := ⟨by decide +kernel, by decide +kernel, by decide +kernel, by decide +kernel, am_good_in (List.mem_of_getElem? (i := 991) (by decide +kernel)) rfl, am_lw_in (i := (am_mw 83).2.1) (by decide +kernel) rfl, am_lw_in (i := (am_mw 83).2.2.1) (by decide +kernel) rfl, am_lw_in (i := (am_mw 83).2.2.2) (by decide +kernel) rfl⟩
theorem xg_word {b o : Nat} {n : Int32} : xw_pre cL_word 4 4 [.ref b, .int n, .ref o] [.int n, .ref b, .int 0, .ref o] := by
  intro p l e R s m args below meth c H locs cells slots Q ls hx hb hl kk
  have hl : lv_has ls 4 [(0, .ref b), (1, .int n), (2, .ref o)] := hl
  refine lv_aload_n (k := 2) (i := 2) hx hb (by decide +kernel) rfl (lv_at hl 2 rfl) ?_
  refine lv_iconst (n := 0) (v := 0) hx hb (by decide +kernel) (by decide) ?_
  refine lv_aload_n (k := 0) (i := 0) hx hb (by decide +kernel) rfl (lv_at hl 0 rfl) ?_
  refine lv_iload_n (k := 1) (i := 1) hx hb (by decide +kernel) rfl (lv_at hl 1 rfl) ?_
  exact kk
theorem xe_word : xw_dec yL_word cL_word 36 4 84 := ⟨by decide +kernel, by decide +kernel, by decide +kernel, by decide +kernel, am_good_in (List.mem_of_getElem? (i := 1000) (by decide +kernel)) rfl, am_lw_in (i := (am_mw 84).2.1) (by decide +kernel) rfl, am_lw_in (i := (am_mw 84).2.2.1) (by decide +kernel) rfl, am_lw_in (i := (am_mw 84).2.2.2) (by decide +kernel) rfl⟩
theorem xg_block {b o : Nat} {n t : Int32} : xw_pre cL_block 5 5 [.ref b, .int n, .int t, .ref o] [.int t, .int n, .ref b, .int 0, .ref o] := by
  intro p l e R s m args below meth c H locs cells slots Q ls hx hb hl kk
  have hl : lv_has ls 5 [(0, .ref b), (1, .int n), (2, .int t), (3, .ref o)] := hl
  refine lv_aload_n (k := 3) (i := 3) hx hb (by decide +kernel) rfl (lv_at hl 3 rfl) ?_
  refine lv_iconst (n := 0) (v := 0) hx hb (by decide +kernel) (by decide) ?_
  refine lv_aload_n (k := 0) (i := 0) hx hb (by decide +kernel) rfl (lv_at hl 0 rfl) ?_
  refine lv_iload_n (k := 1) (i := 1) hx hb (by decide +kernel) rfl (lv_at hl 1 rfl) ?_
  refine lv_iload_n (k := 2) (i := 2) hx hb (by decide +kernel) rfl (lv_at hl 2 rfl) ?_
  exact kk
theorem xe_block : xw_dec yL_block cL_block 39 5 85 := ⟨by decide +kernel, by decide +kernel, by decide +kernel, by decide +kernel, am_good_in (List.mem_of_getElem? (i := 1008) (by decide +kernel)) rfl, am_lw_in (i := (am_mw 85).2.1) (by decide +kernel) rfl, am_lw_in (i := (am_mw 85).2.2.1) (by decide +kernel) rfl, am_lw_in (i := (am_mw 85).2.2.2) (by decide +kernel) rfl⟩
theorem xh_feed : xw_post cL_feed 6 14 17 1 := by
  refine ⟨by decide +kernel, ?_⟩
  intro p l e R s m args below meth c H locs cells slots Q ls q hx hb hl kk
  refine lv_astore (i := 5) (lv' := [(5, .ref q)]) hx hb (by decide +kernel) hl (by decide) rfl (fun ls9 hl9 => ?_)
  refine lv_iconst (n := 1) (v := 1) hx hb (by decide +kernel) (by decide) ?_
  exact kk ls9
theorem xh_input : xw_post cL_input 4 9 11 1 := by
  refine ⟨by decide +kernel, ?_⟩
  intro p l e R s m args below meth c H locs cells slots Q ls q hx hb hl kk
  refine lv_astore_n (k := 3) (i := 3) (lv' := [(3, .ref q)]) hx hb (by decide +kernel) rfl hl (by decide) rfl (fun ls9 hl9 => ?_)
  refine lv_iconst (n := 1) (v := 1) hx hb (by decide +kernel) (by decide) ?_
  exact kk ls9
theorem xh_scan : xw_post cL_scan 4 12 14 1 := by
  refine ⟨by decide +kernel, ?_⟩
  intro p l e R s m args below meth c H locs cells slots Q ls q hx hb hl kk
  refine lv_astore_n (k := 3) (i := 3) (lv' := [(3, .ref q)]) hx hb (by decide +kernel) rfl hl (by decide) rfl (fun ls9 hl9 => ?_)
  refine lv_iconst (n := 1) (v := 1) hx hb (by decide +kernel) (by decide) ?_
  exact kk ls9
theorem xh_run : xw_post cL_run 5 13 16 1 := by
  refine ⟨by decide +kernel, ?_⟩
  intro p l e R s m args below meth c H locs cells slots Q ls q hx hb hl kk
  refine lv_astore (i := 4) (lv' := [(4, .ref q)]) hx hb (by decide +kernel) hl (by decide) rfl (fun ls9 hl9 => ?_)
  refine lv_iconst (n := 1) (v := 1) hx hb (by decide +kernel) (by decide) ?_
  exact kk ls9
theorem xh_output : xw_post cL_output 4 19 21 1 := by
  refine ⟨by decide +kernel, ?_⟩
  intro p l e R s m args below meth c H locs cells slots Q ls q hx hb hl kk
  refine lv_astore_n (k := 3) (i := 3) (lv' := [(3, .ref q)]) hx hb (by decide +kernel) rfl hl (by decide) rfl (fun ls9 hl9 => ?_)
  refine lv_iconst (n := 1) (v := 1) hx hb (by decide +kernel) (by decide) ?_
  exact kk ls9
theorem xh_bits : xw_post cL_bits 4 12 14 1 := by
  refine ⟨by decide +kernel, ?_⟩
  intro p l e R s m args below meth c H locs cells slots Q ls q hx hb hl kk
  refine lv_astore_n (k := 3) (i := 3) (lv' := [(3, .ref q)]) hx hb (by decide +kernel) rfl hl (by decide) rfl (fun ls9 hl9 => ?_)
  refine lv_iconst (n := 1) (v := 1) hx hb (by decide +kernel) (by decide) ?_
  exact kk ls9
theorem xh_word : xw_post cL_word 4 12 14 1 := by
  refine ⟨by decide +kernel, ?_⟩
  intro p l e R s m args below meth c H locs cells slots Q ls q hx hb hl kk
  refine lv_astore_n (k := 3) (i := 3) (lv' := [(3, .ref q)]) hx hb (by decide +kernel) rfl hl (by decide) rfl (fun ls9 hl9 => ?_)
  refine lv_iconst (n := 1) (v := 1) hx hb (by decide +kernel) (by decide) ?_
  exact kk ls9
theorem xh_block1 : xw_post cL_block 5 13 16 1 := by
  refine ⟨by decide +kernel, ?_⟩
  intro p l e R s m args below meth c H locs cells slots Q ls q hx hb hl kk
  refine lv_astore (i := 4) (lv' := [(4, .ref q)]) hx hb (by decide +kernel) hl (by decide) rfl (fun ls9 hl9 => ?_)
  refine lv_iconst (n := 1) (v := 1) hx hb (by decide +kernel) (by decide) ?_
  exact kk ls9
theorem xh_block2 : xw_post cL_block 5 17 20 2 := by
  refine ⟨by decide +kernel, ?_⟩
  intro p l e R s m args below meth c H locs cells slots Q ls q hx hb hl kk
  refine lv_astore (i := 4) (lv' := [(4, .ref q)]) hx hb (by decide +kernel) hl (by decide) rfl (fun ls9 hl9 => ?_)
  refine lv_iconst (n := 2) (v := 2) hx hb (by decide +kernel) (by decide) ?_
  exact kk ls9
theorem xl_cl1 : Cond.classLink "ScanChartLaw" 13 "java/lang/IllegalArgumentException" ∈ am_good := am_good_in (List.mem_of_getElem? (i := 716) (by decide +kernel)) rfl
theorem xl_cl2 : Cond.classLink "ScanChartLaw" 19 "java/lang/IndexOutOfBoundsException" ∈ am_good := am_good_in (List.mem_of_getElem? (i := 796) (by decide +kernel)) rfl
theorem xl_ca1 : Cond.castable "java/lang/IllegalArgumentException" "java/lang/IllegalArgumentException" ∈ xt_at "java/lang/IllegalArgumentException" 38 := by decide +kernel
theorem xl_ca2 : Cond.castable "java/lang/IndexOutOfBoundsException" "java/lang/IndexOutOfBoundsException" ∈ xt_at "java/lang/IndexOutOfBoundsException" 75 := by decide +kernel

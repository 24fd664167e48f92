/-! THE TESTS AHEAD OF THE THROWS, walked. -/
theorem xt_c80 : Cond.constant "ScanChart" 80 1000000 ∈ am_good := am_good_in (List.mem_of_getElem? (i := 827) (by decide +kernel)) rfl
theorem xp_feed {b : Addr} {n : Int32} {x : Int64} (h : n < 1 ∨ 8 < n) : xt_pre 73 11 [.ref b, .int n, .long x] := by
  intro p l e R s m args below meth c H locs cells slots Q ls hx hb hts hown hl kk
  have hl : lv_has ls (am_nL 73) [(0, .ref b), (1, .int n), (2, .long x)] := hl
  refine lv_iload_n (k := 1) (i := 1) hx hb (by decide +kernel) rfl (lv_at hl 1 rfl) ?_
  refine lv_iconst (n := 1) (v := 1) hx hb (by decide +kernel) (by decide) ?_
  refine lv_icmp_lt (off := 9) (tgt := 11) hx hb (by decide +kernel) (by decide) (fun _ => kk) (fun c1 => ?_)
  refine lv_iload_n (k := 1) (i := 1) hx hb (by decide +kernel) rfl (lv_at hl 1 rfl) ?_
  refine lv_bipush (n := 8) (v := 8) hx hb (by decide +kernel) (by decide +kernel) ?_
  exact lv_icmp_le (off := 13) (tgt := 21) hx hb (by decide +kernel) (by decide) (fun c2 => (h.elim (fun z => c1 z) (fun z => Int32.lt_irrefl (Int32.lt_of_lt_of_le z c2))).elim) (fun _ => kk)

theorem xp_input {b : Addr} {n t : Int32} (h : n < 0 ∨ 32 ≤ n) : xt_pre 79 10 [.ref b, .int n, .int t] := by
  intro p l e R s m args below meth c H locs cells slots Q ls hx hb hts hown hl kk
  have hl : lv_has ls (am_nL 79) [(0, .ref b), (1, .int n), (2, .int t)] := hl
  refine lv_iload_n (k := 1) (i := 1) hx hb (by decide +kernel) rfl (lv_at hl 1 rfl) ?_
  refine lv_if_lt (off := 9) (tgt := 10) hx hb (by decide +kernel) (by decide) (fun _ => kk) (fun c1 => ?_)
  refine lv_iload_n (k := 1) (i := 1) hx hb (by decide +kernel) rfl (lv_at hl 1 rfl) ?_
  refine lv_bipush (n := 32) (v := 32) hx hb (by decide +kernel) (by decide +kernel) ?_
  exact lv_icmp_lt (off := 13) (tgt := 20) hx hb (by decide +kernel) (by decide) (fun c2 => (h.elim (fun z => c1 z) (fun z => Int32.lt_irrefl (Int32.lt_of_lt_of_le c2 z))).elim) (fun _ => kk)

theorem xp_scan {b : Addr} {n : Int32} (h : n < 0 ∨ 1000000 < n) : xt_pre 80 10 [.ref b, .int n] := by
  intro p l e R s m args below meth c H locs cells slots Q ls hx hb hts hown hl kk
  have hl : lv_has ls (am_nL 80) [(0, .ref b), (1, .int n)] := hl
  refine lv_iload_n (k := 1) (i := 1) hx hb (by decide +kernel) rfl (lv_at hl 1 rfl) ?_
  refine lv_if_lt (off := 9) (tgt := 10) hx hb (by decide +kernel) (by decide) (fun _ => kk) (fun c1 => ?_)
  refine lv_iload_n (k := 1) (i := 1) hx hb (by decide +kernel) rfl (lv_at hl 1 rfl) ?_
  refine lv_ldc (own := "ScanChart") (index := 80) (v := 1000000) hx hb hown (hts _ xt_c80) (by decide +kernel) ?_
  exact lv_icmp_le (off := 13) (tgt := 20) hx hb (by decide +kernel) (by decide) (fun c2 => (h.elim (fun z => c1 z) (fun z => Int32.lt_irrefl (Int32.lt_of_lt_of_le z c2))).elim) (fun _ => kk)

theorem xp_run1 {b : Addr} {n t : Int32} (h : n < 0 ∨ 100 < n) : xt_pre 81 10 [.ref b, .int n, .int t] := by
  intro p l e R s m args below meth c H locs cells slots Q ls hx hb hts hown hl kk
  have hl : lv_has ls (am_nL 81) [(0, .ref b), (1, .int n), (2, .int t)] := hl
  refine lv_iload_n (k := 1) (i := 1) hx hb (by decide +kernel) rfl (lv_at hl 1 rfl) ?_
  refine lv_if_lt (off := 9) (tgt := 10) hx hb (by decide +kernel) (by decide) (fun _ => kk) (fun c1 => ?_)
  refine lv_iload_n (k := 1) (i := 1) hx hb (by decide +kernel) rfl (lv_at hl 1 rfl) ?_
  refine lv_bipush (n := 100) (v := 100) hx hb (by decide +kernel) (by decide +kernel) ?_
  exact lv_icmp_le (off := 13) (tgt := 20) hx hb (by decide +kernel) (by decide) (fun c2 => (h.elim (fun z => c1 z) (fun z => Int32.lt_irrefl (Int32.lt_of_lt_of_le z c2))).elim) (fun _ => kk)

theorem xp_output {b : Addr} {n : Int32} (h : n < 0 ∨ 32 ≤ n) : xt_pre 82 10 [.ref b, .int n] := by
  intro p l e R s m args below meth c H locs cells slots Q ls hx hb hts hown hl kk
  have hl : lv_has ls (am_nL 82) [(0, .ref b), (1, .int n)] := hl
  refine lv_iload_n (k := 1) (i := 1) hx hb (by decide +kernel) rfl (lv_at hl 1 rfl) ?_
  refine lv_if_lt (off := 9) (tgt := 10) hx hb (by decide +kernel) (by decide) (fun _ => kk) (fun c1 => ?_)
  refine lv_iload_n (k := 1) (i := 1) hx hb (by decide +kernel) rfl (lv_at hl 1 rfl) ?_
  refine lv_bipush (n := 32) (v := 32) hx hb (by decide +kernel) (by decide +kernel) ?_
  exact lv_icmp_lt (off := 13) (tgt := 20) hx hb (by decide +kernel) (by decide) (fun c2 => (h.elim (fun z => c1 z) (fun z => Int32.lt_irrefl (Int32.lt_of_lt_of_le c2 z))).elim) (fun _ => kk)

theorem xp_bits {b : Addr} {n : Int32} (h : n < 0 ∨ 4 < n) : xt_pre 83 9 [.ref b, .int n] := by
  intro p l e R s m args below meth c H locs cells slots Q ls hx hb hts hown hl kk
  have hl : lv_has ls (am_nL 83) [(0, .ref b), (1, .int n)] := hl
  refine lv_iload_n (k := 1) (i := 1) hx hb (by decide +kernel) rfl (lv_at hl 1 rfl) ?_
  refine lv_if_lt (off := 8) (tgt := 9) hx hb (by decide +kernel) (by decide) (fun _ => kk) (fun c1 => ?_)
  refine lv_iload_n (k := 1) (i := 1) hx hb (by decide +kernel) rfl (lv_at hl 1 rfl) ?_
  refine lv_iconst (n := 4) (v := 4) hx hb (by decide +kernel) (by decide) ?_
  exact lv_icmp_le (off := 13) (tgt := 19) hx hb (by decide +kernel) (by decide) (fun c2 => (h.elim (fun z => c1 z) (fun z => Int32.lt_irrefl (Int32.lt_of_lt_of_le z c2))).elim) (fun _ => kk)

theorem xp_word {b : Addr} {n : Int32} (h : n < 0 ∨ 32 ≤ n) : xt_pre 84 10 [.ref b, .int n] := by
  intro p l e R s m args below meth c H locs cells slots Q ls hx hb hts hown hl kk
  have hl : lv_has ls (am_nL 84) [(0, .ref b), (1, .int n)] := hl
  refine lv_iload_n (k := 1) (i := 1) hx hb (by decide +kernel) rfl (lv_at hl 1 rfl) ?_
  refine lv_if_lt (off := 9) (tgt := 10) hx hb (by decide +kernel) (by decide) (fun _ => kk) (fun c1 => ?_)
  refine lv_iload_n (k := 1) (i := 1) hx hb (by decide +kernel) rfl (lv_at hl 1 rfl) ?_
  refine lv_bipush (n := 32) (v := 32) hx hb (by decide +kernel) (by decide +kernel) ?_
  exact lv_icmp_lt (off := 13) (tgt := 20) hx hb (by decide +kernel) (by decide) (fun c2 => (h.elim (fun z => c1 z) (fun z => Int32.lt_irrefl (Int32.lt_of_lt_of_le c2 z))).elim) (fun _ => kk)

theorem xp_block1 {b : Addr} {n t : Int32} (h : n < 0 ∨ 8 ≤ n) : xt_pre 85 10 [.ref b, .int n, .int t] := by
  intro p l e R s m args below meth c H locs cells slots Q ls hx hb hts hown hl kk
  have hl : lv_has ls (am_nL 85) [(0, .ref b), (1, .int n), (2, .int t)] := hl
  refine lv_iload_n (k := 1) (i := 1) hx hb (by decide +kernel) rfl (lv_at hl 1 rfl) ?_
  refine lv_if_lt (off := 9) (tgt := 10) hx hb (by decide +kernel) (by decide) (fun _ => kk) (fun c1 => ?_)
  refine lv_iload_n (k := 1) (i := 1) hx hb (by decide +kernel) rfl (lv_at hl 1 rfl) ?_
  refine lv_bipush (n := 8) (v := 8) hx hb (by decide +kernel) (by decide +kernel) ?_
  exact lv_icmp_lt (off := 13) (tgt := 20) hx hb (by decide +kernel) (by decide) (fun c2 => (h.elim (fun z => c1 z) (fun z => Int32.lt_irrefl (Int32.lt_of_lt_of_le c2 z))).elim) (fun _ => kk)

theorem xp_run2 {b : Addr} {n t : Int32} (h1 : ¬ n < 0) (h2 : ¬ 100 < n) (h : t < 0 ∨ 1000000 < t) : xt_pre 81 30 [.ref b, .int n, .int t] := by
  intro p l e R s m args below meth c H locs cells slots Q ls hx hb hts hown hl kk
  have hl : lv_has ls (am_nL 81) [(0, .ref b), (1, .int n), (2, .int t)] := hl
  refine lv_iload_n (k := 1) (i := 1) hx hb (by decide +kernel) rfl (lv_at hl 1 rfl) ?_
  refine lv_if_lt (off := 9) (tgt := 10) hx hb (by decide +kernel) (by decide) (fun z => absurd z h1) (fun _ => ?_)
  refine lv_iload_n (k := 1) (i := 1) hx hb (by decide +kernel) rfl (lv_at hl 1 rfl) ?_
  refine lv_bipush (n := 100) (v := 100) hx hb (by decide +kernel) (by decide +kernel) ?_
  refine lv_icmp_le (off := 13) (tgt := 20) hx hb (by decide +kernel) (by decide) (fun _ => ?_) (fun z => absurd (Int32.not_le.mp z) h2)
  refine lv_iload_n (k := 2) (i := 2) hx hb (by decide +kernel) rfl (lv_at hl 2 rfl) ?_
  refine lv_if_lt (off := 9) (tgt := 30) hx hb (by decide +kernel) (by decide) (fun _ => kk) (fun c1 => ?_)
  refine lv_iload_n (k := 2) (i := 2) hx hb (by decide +kernel) rfl (lv_at hl 2 rfl) ?_
  refine lv_ldc (own := "ScanChart") (index := 80) (v := 1000000) hx hb hown (hts _ xt_c80) (by decide +kernel) ?_
  exact lv_icmp_le (off := 13) (tgt := 40) hx hb (by decide +kernel) (by decide) (fun c2 => (h.elim (fun z => c1 z) (fun z => Int32.lt_irrefl (Int32.lt_of_lt_of_le z c2))).elim) (fun _ => kk)

theorem xp_block2 {b : Addr} {n t : Int32} (h1 : ¬ n < 0) (h2 : ¬ 8 ≤ n) (h : t < 0 ∨ 3 < t) : xt_pre 85 106 [.ref b, .int n, .int t] := by
  intro p l e R s m args below meth c H locs cells slots Q ls hx hb hts hown hl kk
  have hl : lv_has ls (am_nL 85) [(0, .ref b), (1, .int n), (2, .int t)] := hl
  refine lv_iload_n (k := 1) (i := 1) hx hb (by decide +kernel) rfl (lv_at hl 1 rfl) ?_
  refine lv_if_lt (off := 9) (tgt := 10) hx hb (by decide +kernel) (by decide) (fun z => absurd z h1) (fun _ => ?_)
  refine lv_iload_n (k := 1) (i := 1) hx hb (by decide +kernel) rfl (lv_at hl 1 rfl) ?_
  refine lv_bipush (n := 8) (v := 8) hx hb (by decide +kernel) (by decide +kernel) ?_
  refine lv_icmp_lt (off := 13) (tgt := 20) hx hb (by decide +kernel) (by decide) (fun _ => ?_) (fun z => absurd (Int32.not_lt.mp z) h2)
  refine lv_iload_n (k := 2) (i := 2) hx hb (by decide +kernel) rfl (lv_at hl 2 rfl) ?_
  refine lv_tableOut (dflt := 85) (lo := 0) (hi := 3) (offs := #[31, 44, 58, 71]) (len := 31) (tgt := 106) hx hb (by decide +kernel) (h.elim (fun z => Or.inl (Int32.lt_iff_toInt_lt.mp z)) (fun z => Or.inr (Int32.lt_iff_toInt_lt.mp z))) (by decide) ?_
  exact kk

theorem xd_73_11 : xt_dec 73 11 34 36 38 := ⟨by decide +kernel, by decide +kernel, by decide +kernel, by decide +kernel, by decide +kernel, by decide +kernel, by decide +kernel⟩
theorem xd_79_10 : xt_dec 79 10 71 73 75 := ⟨by decide +kernel, by decide +kernel, by decide +kernel, by decide +kernel, by decide +kernel, by decide +kernel, by decide +kernel⟩
theorem xd_80_10 : xt_dec 80 10 34 81 38 := ⟨by decide +kernel, by decide +kernel, by decide +kernel, by decide +kernel, by decide +kernel, by decide +kernel, by decide +kernel⟩
theorem xd_81_10 : xt_dec 81 10 34 90 38 := ⟨by decide +kernel, by decide +kernel, by decide +kernel, by decide +kernel, by decide +kernel, by decide +kernel, by decide +kernel⟩
theorem xd_81_30 : xt_dec 81 30 34 81 38 := ⟨by decide +kernel, by decide +kernel, by decide +kernel, by decide +kernel, by decide +kernel, by decide +kernel, by decide +kernel⟩
theorem xd_82_10 : xt_dec 82 10 71 73 75 := ⟨by decide +kernel, by decide +kernel, by decide +kernel, by decide +kernel, by decide +kernel, by decide +kernel, by decide +kernel⟩
theorem xd_83_9 : xt_dec 83 9 34 99 38 := ⟨by decide +kernel, by decide +kernel, by decide +kernel, by decide +kernel, by decide +kernel, by decide +kernel, by decide +kernel⟩
theorem xd_84_10 : xt_dec 84 10 71 73 75 := ⟨by decide +kernel, by decide +kernel, by decide +kernel, by decide +kernel, by decide +kernel, by decide +kernel, by decide +kernel⟩
theorem xd_85_10 : xt_dec 85 10 71 119 75 := ⟨by decide +kernel, by decide +kernel, by decide +kernel, by decide +kernel, by decide +kernel, by decide +kernel, by decide +kernel⟩
theorem xd_85_106 : xt_dec 85 106 34 121 38 := ⟨by decide +kernel, by decide +kernel, by decide +kernel, by decide +kernel, by decide +kernel, by decide +kernel, by decide +kernel⟩
theorem xt_cl1 : Cond.classLink "ScanChart" 34 "java/lang/IllegalArgumentException" ∈ am_good := am_good_in (List.mem_of_getElem? (i := 721) (by decide +kernel)) rfl
theorem xt_cl2 : Cond.classLink "ScanChart" 71 "java/lang/IndexOutOfBoundsException" ∈ am_good := am_good_in (List.mem_of_getElem? (i := 801) (by decide +kernel)) rfl

/-! BLOCKS: performBlock, op by op; putAside. -/
def pa_onIb (I : Nat → Nat → Int32) (J : Nat → Nat → Int64) (j : Nat) (b : Bool) (x : Int32) (now : Int64) : Nat → Nat → Int32 := cond b (pa_onI I J j x now) (am_tm (am_up I 28 0 (am_wb (I 28 0) j false)) j false 0)
def pa_onJb (I : Nat → Nat → Int32) (J : Nat → Nat → Int64) (j : Nat) (b : Bool) (now : Int64) : Nat → Nat → Int64 := cond b (pa_onJ I J j now) J
def pa_offIb (I : Nat → Nat → Int32) (J : Nat → Nat → Int64) (j : Nat) (b : Bool) (x : Int32) (now : Int64) : Nat → Nat → Int32 := cond b (am_tm (am_up (am_up I 28 2 (am_wb (I 28 2) j true)) 28 3 (am_wb (I 28 3) j false)) j true 0) (cond (am_bt (I 28 2) j) (am_tm (pa_offI I j) j (decide (am_gone now (pa_offJ I J j now 30 j) x < x)) (am_gone now (pa_offJ I J j now 30 j) x)) (am_tm I j false 0))
def pa_offJb (I : Nat → Nat → Int32) (J : Nat → Nat → Int64) (j : Nat) (b : Bool) (now : Int64) : Nat → Nat → Int64 := cond b J (cond (am_bt (I 28 2) j) (pa_offJ I J j now) J)
def pa_tpIb (I : Nat → Nat → Int32) (J : Nat → Nat → Int64) (j : Nat) (b : Bool) (x : Int32) (now : Int64) : Nat → Nat → Int32 := cond (am_bt (I 28 5) j || b) (pa_tpI I j b x (am_gone now (pa_tpJ I J j now 31 j) x)) (am_tm I j false 0)
def pa_tpJb (I : Nat → Nat → Int32) (J : Nat → Nat → Int64) (j : Nat) (b : Bool) (now : Int64) : Nat → Nat → Int64 := cond (am_bt (I 28 5) j || b) (pa_tpJ I J j now) J
theorem pa_on (I : Nat → Nat → Int32) (J : Nat → Nat → Int64) (T : Nat → Nat → Nat) (L : Nat) (C : Nat × Nat) {j : Nat} (b : Bool) (x : Int32) (y : Int64) (hj : j < 8) : am_E 32 0 [.ref 28, .ref 23, .int (nI j), .int (am_b01 b), .int x, .long y, .null, .null] [] (am_W I J T L C) = some (.null, am_W (pa_onIb I J j b x y) (pa_onJb I J j b y) T L C) := by
  cases b
  · exact pa_on0 hj
  · exact pa_on1 hj
theorem pa_off (I : Nat → Nat → Int32) (J : Nat → Nat → Int64) (T : Nat → Nat → Nat) (L : Nat) (C : Nat × Nat) {j : Nat} (b : Bool) (x : Int32) (y : Int64) (hj : j < 8) : am_E 33 0 [.ref 28, .ref 23, .int (nI j), .int (am_b01 b), .int x, .long y, .null, .null] [] (am_W I J T L C) = some (.null, am_W (pa_offIb I J j b x y) (pa_offJb I J j b y) T L C) := by
  cases b
  · unfold pa_offIb pa_offJb
    cases h : am_bt (I 28 2) j
    · exact pa_off0n hj h
    · exact pa_off0 hj h
  · exact pa_off1 hj
theorem pa_tpb (I : Nat → Nat → Int32) (J : Nat → Nat → Int64) (T : Nat → Nat → Nat) (L : Nat) (C : Nat × Nat) {j : Nat} (b : Bool) (x : Int32) (y : Int64) (hj : j < 8) : am_E 34 0 [.ref 28, .ref 23, .int (nI j), .int (am_b01 b), .int x, .long y, .null, .null, .null] [] (am_W I J T L C) = some (.null, am_W (pa_tpIb I J j b x y) (pa_tpJb I J j b y) T L C) := by
  unfold pa_tpIb pa_tpJb
  cases h : am_bt (I 28 5) j
  · cases b
    · exact pa_tpn hj h
    · exact pa_tp hj (Or.inr rfl)
  · exact pa_tp hj (Or.inl h)
def pb_on (I : Nat → Nat → Int32) : Bool := decide (I 22 7 ≠ 0)
def pb_T (I : Nat → Nat → Int32) (j : Nat) : Nat → Nat → Int32 := am_up I 22 7 (am_b01 (am_bt (I 24 4) j))
def pb_C (I : Nat → Nat → Int32) (j : Nat) : Nat → Nat → Int32 := am_up I 22 7 (am_b01 (am_bt (I 24 5) j))
theorem pb_head (I : Nat → Nat → Int32) (J : Nat → Nat → Int64) (T : Nat → Nat → Nat) (L : Nat) (C : Nat × Nat) (q : Nat) (n x : Int32) : am_E 16 0 [.ref 22, .ref q, .int n, .int x, .null] [] (am_W I J T L C) = am_E 16 6 [.ref 22, .ref q, .int n, .int x, .null] [.int (am_b01 (pb_on I))] (am_W I J T L C) := by
  rw [rg_16_0]
  unfold pb_on
  by_cases h : I 22 7 = 0
  · rw [if_pos h, decide_eq_false (fun e => e h)]; rfl
  · rw [if_neg h, decide_eq_true h]; rfl
theorem pb_6_31 (I : Nat → Nat → Int32) (J : Nat → Nat → Int64) (T : Nat → Nat → Nat) (L : Nat) (C : Nat × Nat) (b : Bool) (n x : Int32) : am_E 16 6 [.ref 22, .ref 1032, .int n, .int x, .null] [.int (am_b01 b)] (am_W I J T L C) = am_E 16 10 [.ref 22, .ref 1032, .int n, .int x, .int (am_b01 b)] [.int 31, .ref 4003] (am_W I J T L C) := by
  rw [rg_16_6]
  show Option.bind (am_E 161 0 [.ref 1032] [] _) _ = _
  rw [op_ord_31, am_okb, am_vIi]
theorem pb_94_31 (I : Nat → Nat → Int32) (J : Nat → Nat → Int64) (T : Nat → Nat → Nat) (L : Nat) (C : Nat × Nat) {j : Nat} (hj : j < 8) (x v : Int32) : am_E 16 94 [.ref 22, .ref 1032, .int (nI j), .int x, .int v] [] (am_W I J T L C) = some (.null, am_W (pb_T I j) J T L C) := by
  refine (rg_16_94 I J T L C 1032 (nI j) x v).trans ?_
  show Option.bind (am_E 2 0 [.ref 23, .int (nI 4), .int (nI j)] [] _) _ = _
  rw [cl_bit (by decide) (by omega)]
  simp only [am_okb, am_vIi, rg_16_104]
  rfl
theorem pb_6_32 (I : Nat → Nat → Int32) (J : Nat → Nat → Int64) (T : Nat → Nat → Nat) (L : Nat) (C : Nat × Nat) (b : Bool) (n x : Int32) : am_E 16 6 [.ref 22, .ref 1033, .int n, .int x, .null] [.int (am_b01 b)] (am_W I J T L C) = am_E 16 10 [.ref 22, .ref 1033, .int n, .int x, .int (am_b01 b)] [.int 32, .ref 4003] (am_W I J T L C) := by
  rw [rg_16_6]
  show Option.bind (am_E 161 0 [.ref 1033] [] _) _ = _
  rw [op_ord_32, am_okb, am_vIi]
theorem pb_94_32 (I : Nat → Nat → Int32) (J : Nat → Nat → Int64) (T : Nat → Nat → Nat) (L : Nat) (C : Nat × Nat) {j : Nat} (hj : j < 8) (x v : Int32) : am_E 16 94 [.ref 22, .ref 1033, .int (nI j), .int x, .int v] [] (am_W I J T L C) = some (.null, am_W (pb_T I j) J T L C) := by
  refine (rg_16_94 I J T L C 1033 (nI j) x v).trans ?_
  show Option.bind (am_E 2 0 [.ref 23, .int (nI 4), .int (nI j)] [] _) _ = _
  rw [cl_bit (by decide) (by omega)]
  simp only [am_okb, am_vIi, rg_16_104]
  rfl
theorem pb_6_33 (I : Nat → Nat → Int32) (J : Nat → Nat → Int64) (T : Nat → Nat → Nat) (L : Nat) (C : Nat × Nat) (b : Bool) (n x : Int32) : am_E 16 6 [.ref 22, .ref 1034, .int n, .int x, .null] [.int (am_b01 b)] (am_W I J T L C) = am_E 16 10 [.ref 22, .ref 1034, .int n, .int x, .int (am_b01 b)] [.int 33, .ref 4003] (am_W I J T L C) := by
  rw [rg_16_6]
  show Option.bind (am_E 161 0 [.ref 1034] [] _) _ = _
  rw [op_ord_33, am_okb, am_vIi]
theorem pb_94_33 (I : Nat → Nat → Int32) (J : Nat → Nat → Int64) (T : Nat → Nat → Nat) (L : Nat) (C : Nat × Nat) {j : Nat} (hj : j < 8) (x v : Int32) : am_E 16 94 [.ref 22, .ref 1034, .int (nI j), .int x, .int v] [] (am_W I J T L C) = some (.null, am_W (pb_T I j) J T L C) := by
  refine (rg_16_94 I J T L C 1034 (nI j) x v).trans ?_
  show Option.bind (am_E 2 0 [.ref 23, .int (nI 4), .int (nI j)] [] _) _ = _
  rw [cl_bit (by decide) (by omega)]
  simp only [am_okb, am_vIi, rg_16_104]
  rfl
theorem pb_6_34 (I : Nat → Nat → Int32) (J : Nat → Nat → Int64) (T : Nat → Nat → Nat) (L : Nat) (C : Nat × Nat) (b : Bool) (n x : Int32) : am_E 16 6 [.ref 22, .ref 1035, .int n, .int x, .null] [.int (am_b01 b)] (am_W I J T L C) = am_E 16 10 [.ref 22, .ref 1035, .int n, .int x, .int (am_b01 b)] [.int 34, .ref 4003] (am_W I J T L C) := by
  rw [rg_16_6]
  show Option.bind (am_E 161 0 [.ref 1035] [] _) _ = _
  rw [op_ord_34, am_okb, am_vIi]
theorem pb_94_34 (I : Nat → Nat → Int32) (J : Nat → Nat → Int64) (T : Nat → Nat → Nat) (L : Nat) (C : Nat × Nat) {j : Nat} (hj : j < 8) (x v : Int32) : am_E 16 94 [.ref 22, .ref 1035, .int (nI j), .int x, .int v] [] (am_W I J T L C) = some (.null, am_W (pb_C I j) J T L C) := by
  refine (rg_16_94 I J T L C 1035 (nI j) x v).trans ?_
  show Option.bind (am_E 2 0 [.ref 23, .int (nI 5), .int (nI j)] [] _) _ = _
  rw [cl_bit (by decide) (by omega)]
  simp only [am_okb, am_vIi, rg_16_116]
  rfl
theorem pb_6_35 (I : Nat → Nat → Int32) (J : Nat → Nat → Int64) (T : Nat → Nat → Nat) (L : Nat) (C : Nat × Nat) (b : Bool) (n x : Int32) : am_E 16 6 [.ref 22, .ref 1036, .int n, .int x, .null] [.int (am_b01 b)] (am_W I J T L C) = am_E 16 10 [.ref 22, .ref 1036, .int n, .int x, .int (am_b01 b)] [.int 35, .ref 4003] (am_W I J T L C) := by
  rw [rg_16_6]
  show Option.bind (am_E 161 0 [.ref 1036] [] _) _ = _
  rw [op_ord_35, am_okb, am_vIi]
theorem pb_94_35 (I : Nat → Nat → Int32) (J : Nat → Nat → Int64) (T : Nat → Nat → Nat) (L : Nat) (C : Nat × Nat) {j : Nat} (hj : j < 8) (x v : Int32) : am_E 16 94 [.ref 22, .ref 1036, .int (nI j), .int x, .int v] [] (am_W I J T L C) = some (.null, am_W (pb_C I j) J T L C) := by
  refine (rg_16_94 I J T L C 1036 (nI j) x v).trans ?_
  show Option.bind (am_E 2 0 [.ref 23, .int (nI 5), .int (nI j)] [] _) _ = _
  rw [cl_bit (by decide) (by omega)]
  simp only [am_okb, am_vIi, rg_16_116]
  rfl
theorem pb_6_36 (I : Nat → Nat → Int32) (J : Nat → Nat → Int64) (T : Nat → Nat → Nat) (L : Nat) (C : Nat × Nat) (b : Bool) (n x : Int32) : am_E 16 6 [.ref 22, .ref 1037, .int n, .int x, .null] [.int (am_b01 b)] (am_W I J T L C) = am_E 16 10 [.ref 22, .ref 1037, .int n, .int x, .int (am_b01 b)] [.int 36, .ref 4003] (am_W I J T L C) := by
  rw [rg_16_6]
  show Option.bind (am_E 161 0 [.ref 1037] [] _) _ = _
  rw [op_ord_36, am_okb, am_vIi]
theorem pb_94_36 (I : Nat → Nat → Int32) (J : Nat → Nat → Int64) (T : Nat → Nat → Nat) (L : Nat) (C : Nat × Nat) (n x v : Int32) : am_E 16 94 [.ref 22, .ref 1037, .int n, .int x, .int v] [] (am_W I J T L C) = some (.null, (am_W I J T L C)) := (rg_16_94 I J T L C 1037 n x v).trans rfl
theorem pb_6_37 (I : Nat → Nat → Int32) (J : Nat → Nat → Int64) (T : Nat → Nat → Nat) (L : Nat) (C : Nat × Nat) (b : Bool) (n x : Int32) : am_E 16 6 [.ref 22, .ref 1038, .int n, .int x, .null] [.int (am_b01 b)] (am_W I J T L C) = am_E 16 10 [.ref 22, .ref 1038, .int n, .int x, .int (am_b01 b)] [.int 37, .ref 4003] (am_W I J T L C) := by
  rw [rg_16_6]
  show Option.bind (am_E 161 0 [.ref 1038] [] _) _ = _
  rw [op_ord_37, am_okb, am_vIi]
theorem pb_94_37 (I : Nat → Nat → Int32) (J : Nat → Nat → Int64) (T : Nat → Nat → Nat) (L : Nat) (C : Nat × Nat) (n x v : Int32) : am_E 16 94 [.ref 22, .ref 1038, .int n, .int x, .int v] [] (am_W I J T L C) = some (.null, (am_W I J T L C)) := (rg_16_94 I J T L C 1038 n x v).trans rfl
theorem pb_6_38 (I : Nat → Nat → Int32) (J : Nat → Nat → Int64) (T : Nat → Nat → Nat) (L : Nat) (C : Nat × Nat) (b : Bool) (n x : Int32) : am_E 16 6 [.ref 22, .ref 1039, .int n, .int x, .null] [.int (am_b01 b)] (am_W I J T L C) = am_E 16 10 [.ref 22, .ref 1039, .int n, .int x, .int (am_b01 b)] [.int 38, .ref 4003] (am_W I J T L C) := by
  rw [rg_16_6]
  show Option.bind (am_E 161 0 [.ref 1039] [] _) _ = _
  rw [op_ord_38, am_okb, am_vIi]
theorem pb_94_38 (I : Nat → Nat → Int32) (J : Nat → Nat → Int64) (T : Nat → Nat → Nat) (L : Nat) (C : Nat × Nat) (n x v : Int32) : am_E 16 94 [.ref 22, .ref 1039, .int n, .int x, .int v] [] (am_W I J T L C) = some (.null, (am_W I J T L C)) := (rg_16_94 I J T L C 1039 n x v).trans rfl
theorem pb_31 (I : Nat → Nat → Int32) (J : Nat → Nat → Int64) (T : Nat → Nat → Nat) (L : Nat) (C : Nat × Nat) {j : Nat} (x : Int32) (hj : j < 8) : am_E 16 0 [.ref 22, .ref 1032, .int (nI j), .int x, .null] [] (am_W I J T L C) = some (.null, am_W (pb_T (pa_onIb I J j (pb_on I) x (J 22 1)) j) (pa_onJb I J j (pb_on I) (J 22 1)) T L C) := by
  rw [pb_head, pb_6_31]
  refine (rg_16_10 I J T L C 1032 (nI j) x (am_b01 (pb_on I)) 31).trans ?_
  show Option.bind (am_E 32 0 [.ref 28, .ref 23, .int (nI j), .int (am_b01 (pb_on I)), .int x, .long (J 22 1), .null, .null] [] _) _ = _
  rw [pa_on I J T L C (pb_on I) x (J 22 1) hj, am_okb, rg_16_22, pb_94_31 _ _ _ _ _ hj]
theorem pb_32 (I : Nat → Nat → Int32) (J : Nat → Nat → Int64) (T : Nat → Nat → Nat) (L : Nat) (C : Nat × Nat) {j : Nat} (x : Int32) (hj : j < 8) : am_E 16 0 [.ref 22, .ref 1033, .int (nI j), .int x, .null] [] (am_W I J T L C) = some (.null, am_W (pb_T (pa_offIb I J j (pb_on I) x (J 22 1)) j) (pa_offJb I J j (pb_on I) (J 22 1)) T L C) := by
  rw [pb_head, pb_6_32]
  refine (rg_16_10 I J T L C 1033 (nI j) x (am_b01 (pb_on I)) 32).trans ?_
  show Option.bind (am_E 33 0 [.ref 28, .ref 23, .int (nI j), .int (am_b01 (pb_on I)), .int x, .long (J 22 1), .null, .null] [] _) _ = _
  rw [pa_off I J T L C (pb_on I) x (J 22 1) hj, am_okb, rg_16_33, pb_94_32 _ _ _ _ _ hj]
theorem pb_33 (I : Nat → Nat → Int32) (J : Nat → Nat → Int64) (T : Nat → Nat → Nat) (L : Nat) (C : Nat × Nat) {j : Nat} (x : Int32) (hj : j < 8) : am_E 16 0 [.ref 22, .ref 1034, .int (nI j), .int x, .null] [] (am_W I J T L C) = some (.null, am_W (pb_T (pa_tpIb I J j (pb_on I) x (J 22 1)) j) (pa_tpJb I J j (pb_on I) (J 22 1)) T L C) := by
  rw [pb_head, pb_6_33]
  refine (rg_16_10 I J T L C 1034 (nI j) x (am_b01 (pb_on I)) 33).trans ?_
  show Option.bind (am_E 34 0 [.ref 28, .ref 23, .int (nI j), .int (am_b01 (pb_on I)), .int x, .long (J 22 1), .null, .null, .null] [] _) _ = _
  rw [pa_tpb I J T L C (pb_on I) x (J 22 1) hj, am_okb, rg_16_44, pb_94_33 _ _ _ _ _ hj]
theorem pb_34 (I : Nat → Nat → Int32) (J : Nat → Nat → Int64) (T : Nat → Nat → Nat) (L : Nat) (C : Nat × Nat) {j : Nat} (x : Int32) (hj : j < 8) : am_E 16 0 [.ref 22, .ref 1035, .int (nI j), .int x, .null] [] (am_W I J T L C) = some (.null, am_W (pb_C (pa_upI I j (pb_on I) x) j) (J) T L C) := by
  rw [pb_head, pb_6_34]
  refine (rg_16_10 I J T L C 1035 (nI j) x (am_b01 (pb_on I)) 34).trans ?_
  show Option.bind (am_E 35 0 [.ref 28, .ref 23, .int (nI j), .int (am_b01 (pb_on I)), .int x, .null] [] _) _ = _
  rw [pa_ctu (I := I) (J := J) (T := T) (L := L) (C := C) (b := pb_on I) (x := x) hj, am_okb, rg_16_53, pb_94_34 _ _ _ _ _ hj]
theorem pb_35 (I : Nat → Nat → Int32) (J : Nat → Nat → Int64) (T : Nat → Nat → Nat) (L : Nat) (C : Nat × Nat) {j : Nat} (x : Int32) (hj : j < 8) : am_E 16 0 [.ref 22, .ref 1036, .int (nI j), .int x, .null] [] (am_W I J T L C) = some (.null, am_W (pb_C (pa_dnI I j (pb_on I)) j) (J) T L C) := by
  rw [pb_head, pb_6_35]
  refine (rg_16_10 I J T L C 1036 (nI j) x (am_b01 (pb_on I)) 35).trans ?_
  show Option.bind (am_E 36 0 [.ref 28, .ref 23, .int (nI j), .int (am_b01 (pb_on I)), .null] [] _) _ = _
  rw [pa_ctd (I := I) (J := J) (T := T) (L := L) (C := C) (b := pb_on I) hj, am_okb, rg_16_61, pb_94_35 _ _ _ _ _ hj]
theorem pb_36 (I : Nat → Nat → Int32) (J : Nat → Nat → Int64) (T : Nat → Nat → Nat) (L : Nat) (C : Nat × Nat) {j : Nat} (x : Int32) (hj : j < 8) : am_E 16 0 [.ref 22, .ref 1037, .int (nI j), .int x, .null] [] (am_W I J T L C) = some (.null, am_W (cond (pb_on I) (am_up I 27 j 0) I) J T L C) := by
  rw [pb_head, pb_6_36]
  refine (rg_16_10 I J T L C 1037 (nI j) x (am_b01 (pb_on I)) 36).trans ?_
  show (if am_b01 (pb_on I) = 0 then _ else Option.bind (am_E 6 0 [.ref 23, .int (nI j), .int 0] [] _) _) = _
  rw [am_if_b01, cl_setCount hj, am_okb, rg_16_69, pb_94_36, pb_94_36]
  cases pb_on I <;> rfl
theorem pb_37 (I : Nat → Nat → Int32) (J : Nat → Nat → Int64) (T : Nat → Nat → Nat) (L : Nat) (C : Nat × Nat) {j : Nat} (x : Int32) (hj : j < 16) : am_E 16 0 [.ref 22, .ref 1038, .int (nI j), .int x, .null] [] (am_W I J T L C) = some (.null, am_W (am_up (am_up I 28 9 (am_wb (I 28 9) j (pb_on I))) 22 7 (am_b01 (pb_on I && !am_bt (I 28 9) j))) J T L C) := by
  rw [pb_head, pb_6_37]
  refine (rg_16_10 I J T L C 1038 (nI j) x (am_b01 (pb_on I)) 37).trans ?_
  show Option.bind (am_E 37 0 [.ref 28, .int (nI j), .int (am_b01 (pb_on I)), .null] [] _) _ = _
  rw [pa_rise hj, am_okb, am_vIi, rg_16_76, am_if_b01, rg_16_80, rg_16_80, pb_94_37, pb_94_37]
  cases (pb_on I && !am_bt (I 28 9) j) <;> rfl
theorem pb_38 (I : Nat → Nat → Int32) (J : Nat → Nat → Int64) (T : Nat → Nat → Nat) (L : Nat) (C : Nat × Nat) {j : Nat} (x : Int32) (hj : j < 16) : am_E 16 0 [.ref 22, .ref 1039, .int (nI j), .int x, .null] [] (am_W I J T L C) = some (.null, am_W (am_up (am_up I 28 10 (am_wb (I 28 10) j (pb_on I))) 22 7 (am_b01 (!pb_on I && am_bt (I 28 10) j))) J T L C) := by
  rw [pb_head, pb_6_38]
  refine (rg_16_10 I J T L C 1039 (nI j) x (am_b01 (pb_on I)) 38).trans ?_
  show Option.bind (am_E 38 0 [.ref 28, .int (nI j), .int (am_b01 (pb_on I)), .null] [] _) _ = _
  rw [pa_fall hj, am_okb, am_vIi, rg_16_88, am_if_b01, rg_16_92, rg_16_92, pb_94_38, pb_94_38]
  cases (!pb_on I && am_bt (I 28 10) j) <;> rfl
/-- putAside -/
theorem pb_aside (I : Nat → Nat → Int32) (J : Nat → Nat → Int64) (T : Nat → Nat → Nat) (L : Nat) (C : Nat × Nat) {q d : Nat} (hd : d < 8) (hI : I 22 9 = nI d) (hq : am_SF L q = (30, 0)) : am_E 17 0 [.ref 22, .ref q] [] (am_W I J T L C) = some (.null, am_W (am_up (am_up (am_up I 32 d (I 22 7)) 22 9 (nI (d + 1))) 22 7 0) J (am_up T 33 d q) L C) := by
  have e : (am_up I 32 d (I 22 7)) 22 9 = nI d := by rw [am_up_at, if_neg (by omega), hI]
  rw [rg_17_0, hI, hq, if_neg (nI_pos (by omega)), if_pos (nI_lt hd (by decide)), am_inb_ok hd (by decide), nI_clamp (by omega)]
  show Option.bind (am_E 90 0 [.ref 32, .int (nI d), .int (I 22 7)] [] _) _ = _
  rw [put_32 hd, am_okb, rg_17_23, e, nI_1]

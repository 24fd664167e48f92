/-! A CAUGHT CALL OF THE LAW THAT RETURNS; what is asked of it. -/
section AMS
variable {p : Program} {l : Launch} {e : Env} {R : Room} {s : State} {m : MethodId} {args : Array Value} {below : List Frame} {meth : Method} {c : Code} {Q : State → Prop}
set_option maxHeartbeats 4000000 in
theorem sp_ret {G : va_G} {cA : Nat → ClassId} {L : Nat} {xs : Nat → Int32} {adc : Nat → Option Nat} {A : Nat → Prop} {rf : Value} {hf : am_H} {n : Nat} (IH : am_G p l e R s m args below meth c Q G cA L xs adc A 179 (fun _ => True) 0 0 0 rf hf n) (hcx : am_Ctx p s m args meth c 179) (hfx : am_Fx G cA L xs adc A s) (hcc : hf.2.2.1 ≤ R.cells) (hss : hf.2.2.2 ≤ R.slots)
    {i z maxL nA : Nat} {rm : Room} {yW : MethodName} {cc : ByteArray} {hh : List (Nat × Nat × Nat × Nat)} {as ls rest : List Value} {h h2 : am_H} {ad : Nat → Option Nat} {H : Heap} {locs : List Loc} {Ls : Array Slot}
    (hMet : Met l yW (Cond.codeWith yW cc maxL (some .int) hh :: am_good) rm (am_Pc G cA L xs adc ad h H.size as) (am_Qc G cA L xs adc ad h h2 H.size 73 (.int 0)) (h2.2.2.1 - h.2.2.1) (h2.2.2.2 - h.2.2.2) (va_A (am_ws cA ad h) H.size)) (hrc : rm.cells = h2.2.2.1 - h.2.2.1) (hrs : rm.slots = h2.2.2.2 - h.2.2.2) (hfr : rm.frames + 1 ≤ R.frames) (hlo : 8 + (maxL + 11) + rm.locals ≤ R.locals)
    (hW1 : Cond.methodLink "ScanChartLaw" z yW ∈ am_good) (hW2 : Cond.static yW ∈ am_good) (hW3 : Cond.initialized yW.cls ∈ am_good) (hW4 : Cond.codeWith yW cc maxL (some .int) hh ∈ am_good) (hy : yW.cls ≠ "java/lang/invoke/MethodHandle" ∧ yW.cls ≠ "java/lang/invoke/VarHandle" ∧ (parseMethodDescriptor yW.desc).map (fun d => d.parameters.length) = some nA) (hnA : as.length = nA)
    (he : am_ex n 179 (i + 1) ls (.int 0 :: rest) h2 = some (rf, hf)) (hM1 : h.2.2.1 ≤ h2.2.2.1) (hM2 : h.2.2.2 ≤ h2.2.2.2) (hM3 : h.2.1.2.2 ≤ h2.2.1.2.2) (hw : am_Wd G cA L xs adc A s ad h H locs) (hl : am_Lr ad (am_nL 179) ls Ls) (hvl : am_vs h.2.1.2.2 ls) (hrest : am_vs h.2.1.2.2 rest) (hr4 : rest.length ≤ 4) (hd : decode (am_bc 179) (am_pc 179 i) = .ok (.invokestatic z, 3)) (hnx : am_pc 179 (i + 1) = am_pc 179 i + 3) :
    W p l e R s m args below meth c H locs (h.2.2.1 - 0) (h.2.2.2 - 0) Q (F0 m (am_pc 179 i) Ls ((as.map (am_cv ad)).reverse ++ rest.map (am_cv ad))) := by
  obtain ⟨hx, hb, hml, hown, hts, hini⟩ := id hcx
  obtain ⟨hP, hD, hS, hg⟩ := id hw
  obtain ⟨hA', hU⟩ := am_pre (as := as) hfx hw
  have hMx := am_Mex n _ _ _ _ _ _ _ he
  have hM4 : h2.2.2.1 ≤ hf.2.2.1 := hMx.1
  have hM5 : h2.2.2.2 ≤ hf.2.2.2 := hMx.2.1
  have SF : CallFix p m c (am_bc 179) (am_nL 179) s args am_good "ScanChartLaw" := ⟨hx, hb, hml, hown, hts⟩
  have hsumr : 2 * 0 + ((rest.map (am_cv ad)).map fun v => v.category).sum ≤ 8 := by
    rw [am_sum_cv]
    have := am_cat_le hrest
    omega
  have cw : vx_CSW R s args "ScanChartLaw" z yW cc maxL (some .int) hh (Cond.codeWith yW cc maxL (some .int) hh :: am_good) rm (h2.2.2.1 - h.2.2.1) (h2.2.2.2 - h.2.2.2) nA := vx_cwSW (ws' := am_good) nA hts (fun w hw => by
      unfold va_wsS at hw
      rcases List.mem_append.mp hw with z1 | z1
      · simp only [List.mem_cons, List.not_mem_nil, or_false] at z1
        have : w ∈ am_good := by
          rcases z1 with z1 | z1 | z1 <;> rw [z1]
          · exact hW1
          · exact hW2
          · exact hW3
        exact ⟨this, am_good_word this⟩
      · rcases List.mem_cons.mp z1 with z1 | z1
        · rw [z1]; exact ⟨hW4, am_good_word hW4⟩
        · exact ⟨z1, am_good_word z1⟩) rfl hrc hrs hy ⟨hfr, hlo⟩
  have hr := vx_runSW (e := e) (below := below) (meth := meth) (H := H) (locs := locs) (cells := h.2.2.1 - 0) (slots := h.2.2.2 - 0) (g := F0 m (am_pc 179 i) Ls ((as.map (am_cv ad)).reverse ++ rest.map (am_cv ad))) (As := as.map (am_cv ad)) (rest := rest.map (am_cv ad)) SF hMet cw ⟨am_Pc_blind, hU⟩ rfl (by rw [List.length_map]; exact hnA) hl.1 rfl hsumr hd ⟨by omega, by omega⟩
  refine am_after hr hA' hS (fun ad' H1 locs1 hw' had hvd => ?_)
  have had2 : ∀ q, 1000 < q → ad' q = ad q := fun q hq => (hw'.2.2.2.2.2.2.2.2.2.2.1 q hq).trans (hg.2.2.2.2.2.2.2.1 q hq).symm
  rw [show h.2.2.1 - 0 + (h2.2.2.1 - h.2.2.1) = h2.2.2.1 - 0 by omega, show h.2.2.2 - 0 + (h2.2.2.2 - h.2.2.2) = h2.2.2.2 - 0 by omega]
  show W p l e R s m args below meth c H1 locs1 (h2.2.2.1 - 0) (h2.2.2.2 - 0) Q (F0 m (am_pc 179 i + 3) Ls (.int 0 :: rest.map (am_cv ad)))
  rw [← hnx, ← am_cvs_eq had had2 hrest]
  exact IH (i + 1) ls (.int 0 :: rest) h2 ad' H1 locs1 Ls he hw' (hl.ad had had2 hvl) (hvl.le hM3) (am_vs.cons trivial (hrest.le hM3)) trivial (Nat.zero_le _) (Nat.zero_le _) (Nat.zero_le _)
end AMS
/-- what the throwing calls take from the law's start -/
def sp_E1 : String := "java/lang/IllegalArgumentException"
def sp_E2 : String := "java/lang/IndexOutOfBoundsException"
def sp_N (U : State) : Prop := va_Nc "java/lang/IllegalArgumentException" "java/lang/IndexOutOfBoundsException" U
theorem sp_Nb (a : Array Value) (U : State) (g : JFrame) (mk : MethodId) (h : sp_N U) : sp_N (U.calling g mk a) := va_Nc.moved (u := U) (U := U.calling g mk a) (Vm.Alike.refl U.vm) h
def sp_T (A : Nat → Prop) (s : State) : Prop := vx_Zq Bundle.tN "UNASSIGNED_STACK" Bundle.steD A s s.heap ∧ vx_Zq Bundle.tN "SUPPRESSED_SENTINEL" Bundle.listD A s s.heap ∧ xt_F "java/lang/IllegalArgumentException" 38 s ∧ xt_F "java/lang/IndexOutOfBoundsException" 75 s ∧ (∀ U : State, s.WarmedH U.vm → sp_N U) ∧ (∃ q, vk_R "ScanChart" 36 "n is not 1 to 8" q s) ∧ (∃ q, vk_R "ScanChart" 73 "i is not 0 to 31" q s) ∧ (∃ q, vk_R "ScanChart" 81 "ticks is not 0 to 1000000" q s) ∧ (∃ q, vk_R "ScanChart" 90 "n is not 0 to 100" q s) ∧ (∃ q, vk_R "ScanChart" 99 "kind is not 0 to 4" q s) ∧ (∃ q, vk_R "ScanChart" 119 "i is not 0 to 7" q s) ∧ (∃ q, vk_R "ScanChart" 121 "what is not 0 to 3" q s)
theorem okw_0 {as : List Value} {h : am_H} {k : am_R} {w : Value × am_H} (e : am_okw 0 as h k = some w) : ∃ (q : Nat) (n9 : Int32) (x : Int64) (o : Nat), as = [.ref q, .int n9, .long x, .ref o] ∧ (am_S h q).1 = 8 ∧ (am_S h o).1 = 22 ∧ k = some w := by
  unfold am_okw at e
  split at e <;> rename_i hz <;> first
    | (exfalso; exact absurd hz (by decide))
    | (cases e; done)
    | (obtain ⟨hb, hk⟩ := am_cond_inv e
       simp only [Bool.and_eq_true] at hb
       exact ⟨_, _, _, _, rfl, Nat.eq_of_beq_eq_true hb.1, Nat.eq_of_beq_eq_true hb.2, hk⟩)
theorem okw_1 {as : List Value} {h : am_H} {k : am_R} {w : Value × am_H} (e : am_okw 1 as h k = some w) : ∃ (q : Nat) (n9 t9 : Int32), as = [.ref q, .int n9, .int t9] ∧ (am_S h q).1 = 8 ∧ k = some w := by
  unfold am_okw at e
  split at e <;> rename_i hz <;> first
    | (exfalso; exact absurd hz (by decide))
    | (cases e; done)
    | (obtain ⟨hb, hk⟩ := am_cond_inv e
       skip
       exact ⟨_, _, _, rfl, Nat.eq_of_beq_eq_true hb, hk⟩)
theorem okw_2 {as : List Value} {h : am_H} {k : am_R} {w : Value × am_H} (e : am_okw 2 as h k = some w) : ∃ (q : Nat) (n9 : Int32) (o : Nat), as = [.ref q, .int n9, .ref o] ∧ (am_S h q).1 = 8 ∧ (am_S h o).1 = 22 ∧ k = some w := by
  unfold am_okw at e
  split at e <;> rename_i hz <;> first
    | (exfalso; exact absurd hz (by decide))
    | (cases e; done)
    | (obtain ⟨hb, hk⟩ := am_cond_inv e
       simp only [Bool.and_eq_true] at hb
       exact ⟨_, _, _, rfl, Nat.eq_of_beq_eq_true hb.1, Nat.eq_of_beq_eq_true hb.2, hk⟩)
theorem okw_3 {as : List Value} {h : am_H} {k : am_R} {w : Value × am_H} (e : am_okw 3 as h k = some w) : ∃ (q : Nat) (n9 t9 : Int32) (o : Nat), as = [.ref q, .int n9, .int t9, .ref o] ∧ (am_S h q).1 = 8 ∧ (am_S h o).1 = 22 ∧ k = some w := by
  unfold am_okw at e
  split at e <;> rename_i hz <;> first
    | (exfalso; exact absurd hz (by decide))
    | (cases e; done)
    | (obtain ⟨hb, hk⟩ := am_cond_inv e
       simp only [Bool.and_eq_true] at hb
       exact ⟨_, _, _, _, rfl, Nat.eq_of_beq_eq_true hb.1, Nat.eq_of_beq_eq_true hb.2, hk⟩)
theorem okw_4 {as : List Value} {h : am_H} {k : am_R} {w : Value × am_H} (e : am_okw 4 as h k = some w) : ∃ (q : Nat) (n9 : Int32) (o : Nat), as = [.ref q, .int n9, .ref o] ∧ (am_S h q).1 = 8 ∧ (am_S h o).1 = 22 ∧ k = some w := by
  unfold am_okw at e
  split at e <;> rename_i hz <;> first
    | (exfalso; exact absurd hz (by decide))
    | (cases e; done)
    | (obtain ⟨hb, hk⟩ := am_cond_inv e
       simp only [Bool.and_eq_true] at hb
       exact ⟨_, _, _, rfl, Nat.eq_of_beq_eq_true hb.1, Nat.eq_of_beq_eq_true hb.2, hk⟩)
theorem okw_5 {as : List Value} {h : am_H} {k : am_R} {w : Value × am_H} (e : am_okw 5 as h k = some w) : ∃ (q : Nat) (n9 : Int32) (o : Nat), as = [.ref q, .int n9, .ref o] ∧ (am_S h q).1 = 8 ∧ (am_S h o).1 = 22 ∧ k = some w := by
  unfold am_okw at e
  split at e <;> rename_i hz <;> first
    | (exfalso; exact absurd hz (by decide))
    | (cases e; done)
    | (obtain ⟨hb, hk⟩ := am_cond_inv e
       simp only [Bool.and_eq_true] at hb
       exact ⟨_, _, _, rfl, Nat.eq_of_beq_eq_true hb.1, Nat.eq_of_beq_eq_true hb.2, hk⟩)
theorem okw_6 {as : List Value} {h : am_H} {k : am_R} {w : Value × am_H} (e : am_okw 6 as h k = some w) : ∃ (q : Nat) (n9 : Int32) (o : Nat), as = [.ref q, .int n9, .ref o] ∧ (am_S h q).1 = 8 ∧ (am_S h o).1 = 22 ∧ k = some w := by
  unfold am_okw at e
  split at e <;> rename_i hz <;> first
    | (exfalso; exact absurd hz (by decide))
    | (cases e; done)
    | (obtain ⟨hb, hk⟩ := am_cond_inv e
       simp only [Bool.and_eq_true] at hb
       exact ⟨_, _, _, rfl, Nat.eq_of_beq_eq_true hb.1, Nat.eq_of_beq_eq_true hb.2, hk⟩)
theorem okw_7 {as : List Value} {h : am_H} {k : am_R} {w : Value × am_H} (e : am_okw 7 as h k = some w) : ∃ (q : Nat) (n9 t9 : Int32) (o : Nat), as = [.ref q, .int n9, .int t9, .ref o] ∧ (am_S h q).1 = 8 ∧ (am_S h o).1 = 22 ∧ k = some w := by
  unfold am_okw at e
  split at e <;> rename_i hz <;> first
    | (exfalso; exact absurd hz (by decide))
    | (cases e; done)
    | (obtain ⟨hb, hk⟩ := am_cond_inv e
       simp only [Bool.and_eq_true] at hb
       exact ⟨_, _, _, _, rfl, Nat.eq_of_beq_eq_true hb.1, Nat.eq_of_beq_eq_true hb.2, hk⟩)

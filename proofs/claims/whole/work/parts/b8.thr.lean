/-! A CAUGHT CALL OF THE LAW THAT THROWS. -/
theorem xw_blind {b : Nat} {As : List Value} {sz : Nat} {E text : String} {is ic : Nat} {N : State → Prop} (ok : xt_ok E ic = true) (hNb : ∀ (a : Array Value) (U : State) (g : JFrame) (mk : MethodId), N U → N (U.calling g mk a)) : FrameBlind (xw_Pc b As sz E text is ic N) := fun a U g mk ⟨ha, hsz, hU, hN, hF, ⟨q, hq⟩, hr, hn⟩ =>
  ⟨ha, hsz, vx_Zq.moved (u := U) (U := U.calling g mk a) (Vm.Alike.refl U.vm) hU, vx_Zq.moved (u := U) (U := U.calling g mk a) (Vm.Alike.refl U.vm) hN, xt_F.warm (s := U) (U := U.calling g mk a) ok (State.WarmedH.refl U) hF, ⟨q, vk_R.warm (s := U) (U := U.calling g mk a) (State.WarmedH.refl U) hq⟩, hr, hNb a U g mk hn⟩
theorem am_okw_inv {a : Nat} {as : List Value} {h : am_H} {k : am_R} {z : Value × am_H} (e : am_okw a as h k = some z) : k = some z := by
  rcases am_okw_or a as h with q | q
  · rw [q] at e; cases e
  · rw [q] at e; exact e
section AMS
variable {p : Program} {l : Launch} {e : Env} {R : Room} {s : State} {m : MethodId} {args : Array Value} {below : List Frame} {meth : Method} {c : Code} {Q : State → Prop}
set_option maxHeartbeats 4000000 in
theorem sp_thr {G : va_G} {cA : Nat → ClassId} {L : Nat} {xs : Nat → Int32} {adc : Nat → Option Nat} {A : Nat → Prop} {rf : Value} {hf : am_H} {n : Nat} (IH : am_G p l e R s m args below meth c Q G cA L xs adc A 179 (fun _ => True) 0 0 0 rf hf n) (hcx : am_Ctx p s m args meth c 179) (hfx : am_Fx G cA L xs adc A s) (hcc : hf.2.2.1 ≤ R.cells) (hss : hf.2.2.2 ≤ R.slots) (hfr : 8 ≤ R.frames) (hlo : 134 ≤ R.locals)
    (hZU : vx_Zq Bundle.tN "UNASSIGNED_STACK" Bundle.steD A s s.heap) (hZN : vx_Zq Bundle.tN "SUPPRESSED_SENTINEL" Bundle.listD A s s.heap) {E text : String} {is ic a0 : Nat} (ok : xt_ok E ic = true) (hF : xt_F E ic s) (hvk : vk_R "ScanChart" is text a0 s) {N : State → Prop} (hN : ∀ U : State, s.WarmedH U.vm → N U) (hNb : ∀ (a : Array Value) (U : State) (g : JFrame) (mk : MethodId), N U → N (U.calling g mk a))
    {i z maxL nA q : Nat} {yW : MethodName} {cc : ByteArray} {hh : List (Nat × Nat × Nat × Nat)} {v : Int32} {as' ls rest : List Value} {h : am_H} {ad : Nat → Option Nat} {H : Heap} {locs : List Loc} {Ls : Array Slot}
    (hMet : ∀ b sz : Nat, Met l yW (Cond.codeWith yW cc maxL (some .int) hh :: am_good) { frames := 7, cells := 1, slots := 6, locals := 109 } (xw_Pc b (as'.map (am_cv ad)) sz E text is ic N) (xw_Qc v) 1 6 (fun q => sz ≤ q))
    (hW1 : Cond.methodLink "ScanChartLaw" z yW ∈ am_good) (hW2 : Cond.static yW ∈ am_good) (hW3 : Cond.initialized yW.cls ∈ am_good) (hW4 : Cond.codeWith yW cc maxL (some .int) hh ∈ am_good) (hy : yW.cls ≠ "java/lang/invoke/MethodHandle" ∧ yW.cls ≠ "java/lang/invoke/VarHandle" ∧ (parseMethodDescriptor yW.desc).map (fun d => d.parameters.length) = some nA) (hnA : as'.length + 1 = nA) (hmL : maxL ≤ 6)
    (he : am_ex n 179 (i + 1) ls (.int v :: rest) (am_bump h) = some (rf, hf)) (hw : am_Wd G cA L xs adc A s ad h H locs) (hl : am_Lr ad (am_nL 179) ls Ls) (hvl : am_vs h.2.1.2.2 ls) (hrest : am_vs h.2.1.2.2 rest) (hr4 : rest.length ≤ 4) (hq8 : (am_S h q).1 = 8) (hd : decode (am_bc 179) (am_pc 179 i) = .ok (.invokestatic z, 3)) (hnx : am_pc 179 (i + 1) = am_pc 179 i + 3) :
    W p l e R s m args below meth c H locs (h.2.2.1 - 0) (h.2.2.2 - 0) Q (F0 m (am_pc 179 i) Ls (((Value.ref q :: as').map (am_cv ad)).reverse ++ rest.map (am_cv ad))) := by
  obtain ⟨hx, hb, hml, hown, hts, hini⟩ := id hcx
  obtain ⟨hK, hC, hA⟩ := id hfx
  obtain ⟨hP, hD, hS, hg⟩ := id hw
  obtain ⟨ao, hao, y1, y2, hws⟩ := am_at (cA := cA) hg (q := q) (by omega) (by omega)
  rw [am_ce_obj hq8 (by decide)] at hws
  have e4 := va_recv hK hP (am_cl_at (b := 8) (by decide) (by decide)) hws
  have e4 : ∃ cellB : Cell, H[ao]? = some cellB ∧ cellB.vm.isStatics = false ∧ s.vm.findClass "ScanChart" = some cellB.cls := e4
  have hcv : am_cv ad (.ref q) = .ref ao := by show va_rf (ad q) = _; rw [hao]; rfl
  have hMx := am_Mex n _ _ _ _ _ _ _ he
  have hM1 : h.2.2.1 + 2 ≤ hf.2.2.1 := hMx.1
  have hM2 : h.2.2.2 + 16 ≤ hf.2.2.2 := hMx.2.1
  rw [List.map_cons, hcv]
  have SF : CallFix p m c (am_bc 179) (am_nL 179) s args am_good "ScanChartLaw" := ⟨hx, hb, hml, hown, hts⟩
  have hsumr : 2 * 0 + ((rest.map (am_cv ad)).map fun v => v.category).sum ≤ 8 := by
    rw [am_sum_cv]
    have := am_cat_le hrest
    omega
  have cw : vx_CSW R s args "ScanChartLaw" z yW cc maxL (some .int) hh (Cond.codeWith yW cc maxL (some .int) hh :: am_good) { frames := 7, cells := 1, slots := 6, locals := 109 } 1 6 nA := vx_cwSW (ws' := am_good) nA hts (fun w hw => by
      unfold va_wsS at hw
      rcases List.mem_append.mp hw with z1 | z1
      · simp only [List.mem_cons, List.not_mem_nil, or_false] at z1
        have : w ∈ am_good := by
          rcases z1 with z1 | z1 | z1 <;> rw [z1]
          · exact hW1
          · exact hW2
          · exact hW3
        exact ⟨this, am_good_word this⟩
      · rcases List.mem_cons.mp z1 with z1 | z1
        · rw [z1]; exact ⟨hW4, am_good_word hW4⟩
        · exact ⟨z1, am_good_word z1⟩) rfl rfl rfl hy ⟨by show 7 + 1 ≤ R.frames; omega, by show 8 + (maxL + 11) + 109 ≤ R.locals; omega⟩
  have hZ : ∀ {C n9 d : String}, vx_Zq C n9 d A s s.heap → ∀ U : State, U.heap = H → s.WarmedH U.vm → vx_Zq C n9 d (fun q => H.size ≤ q) U U.heap := fun hZ U hU hW => by
    rw [hU]
    exact ((hZ.kept hS.2.1).narrow (fun q9 h9 => hA q9 (Nat.le_trans hS.1 h9))).moved hW.alike
  have hr := vx_runSW (e := e) (below := below) (meth := meth) (H := H) (locs := locs) (cells := h.2.2.1 - 0) (slots := h.2.2.2 - 0) (g := F0 m (am_pc 179 i) Ls ((Value.ref ao :: as'.map (am_cv ad)).reverse ++ rest.map (am_cv ad))) (As := Value.ref ao :: as'.map (am_cv ad)) (rest := rest.map (am_cv ad)) SF (hMet ao H.size) cw ⟨xw_blind ok hNb, fun U hU hW => ⟨rfl, by rw [hU], hZ hZU U hU hW, hZ hZN U hU hW, xt_F.warm ok hW hF, ⟨a0, vk_R.warm hW hvk⟩, by
      obtain ⟨cellB, c1, c2, c3⟩ := e4
      exact ⟨cellB, by rw [hU]; exact c1, c2, by rw [hW.alike.findClass]; exact c3⟩, hN U hW⟩⟩ rfl (by rw [List.length_cons, List.length_map]; exact hnA) hl.1 rfl hsumr hd ⟨by omega, by omega⟩
  intro T hT X
  obtain ⟨v9, st₀, t, T', Lc, h0, X', hL, e1, e2, ⟨hv, z1, z2⟩, st9⟩ := hr T hT X
  cases hv
  rw [h0] at z1 z2
  have hP' : va_P G vwCl (am_ws cA ad h) T'.heap := hP.kept (fun k9 x9 hx9 => by rw [e1]; exact z2 _ (vx_lt hP hx9))
  have hS' : va_S A s.heap T'.heap (locs ++ Lc) := ⟨Nat.le_trans hS.1 (by rw [e1]; exact z1), fun q9 a1 a2 => by rw [e1, z2 q9 (Nat.lt_of_lt_of_le a1 hS.1)]; exact hS.2.1 q9 a1 a2, fun x9 hx9 => by
    rcases List.mem_append.mp hx9 with y | y
    · exact hS.2.2 x9 y
    · exact hA _ (Nat.le_trans hS.1 (hL x9 y))⟩
  have K := IH (i + 1) ls (.int v :: rest) (am_bump h) ad T'.heap (locs ++ Lc) Ls he ⟨hP', hD, hS', hg⟩ hl hvl (am_vs.cons trivial hrest) trivial (Nat.zero_le _) (Nat.zero_le _) (Nat.zero_le _)
  rw [hnx] at K
  have K2 : W p l e R s m args below meth c T'.heap (locs ++ Lc) (h.2.2.1 - 0 + 1) (h.2.2.2 - 0 + 6) Q (F0 m (am_pc 179 i + 3) Ls (.int v :: rest.map (am_cv ad))) := W.widen (k := h.2.2.1 + 2) (n := h.2.2.2 + 16) (by omega) (by omega) K
  obtain ⟨t2, a1, b1⟩ := K2 T' rfl X'
  exact ⟨t2, st9 t2 a1, b1⟩
end AMS

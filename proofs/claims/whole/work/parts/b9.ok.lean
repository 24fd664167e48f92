/-! A WRAPPER OF THE LAW WHOSE CALL RETURNS. -/
section AMS
variable {p : Program} {l : Launch} {e : Env} {R : Room} {s : State} {m : MethodId} {args : Array Value} {below : List Frame} {meth : Method} {c : Code} {Q : State → Prop}
/-- the answer is put into its place -/
theorem sp_last {G : va_G} {cA : Nat → ClassId} {L : Nat} {xs : Nat → Int32} {adc ad : Nat → Option Nat} {A : Nat → Prop} {h : am_H} {H : Heap} {locs : List Loc} {Ls : Array Slot} {cc : ByteArray} {pc o oo cells slots : Nat} {y : Int64} {rest : List Value} (hx : p.tables.exec = Jvm.exec) (hb : c.code = cc) (hK : va_K G vwCl (am_tys cA) s) (hw : am_Wd G cA L xs adc A s ad h H locs) (ho : (am_S h o).1 = 22) (hin : vp_in 0 (am_S h o).2) (hoo : ad o = some oo) (hd : decode cc pc = .ok (.lastore, 1))
    (kk : ∀ (H1 : Heap) (locs1 : List Loc), am_Wd G cA L xs adc A s ad (am_sJ h o 0 y) H1 locs1 → W p l e R s m args below meth c H1 locs1 cells slots Q (F0 m (pc + 1) Ls rest)) : W p l e R s m args below meth c H locs cells slots Q (F0 m pc Ls (.long y :: .int 0 :: .ref oo :: rest)) := by
  obtain ⟨hP, hD, hS, hg⟩ := id hw
  obtain ⟨ao, hao, z1, z2, hws⟩ := am_at (cA := cA) hg (q := o) (by omega) (by omega)
  have e0 : ao = oo := by rw [hao] at hoo; exact Option.some.inj hoo
  subst e0
  rw [am_ce_22 ho] at hws
  have hrow := am_up_updL h.1.2.1 o 0 y
  have hws' : am_ws cA ad (am_sJ h o 0 y) = (am_ws cA ad h).set (o - 1) (ao, .inl (cA 2, (am_S h o).2, .inr (.inl (vp_updL (h.1.2.1 o) 0 y)))) := by
    rw [← hrow, am_ws_upd (h := h) (h' := am_sJ h o 0 y) z1 hao rfl (fun _ _ => rfl) (fun z hz => am_up_row _ _ hz) (fun _ _ => rfl) (fun _ _ => rfl), am_ce_22 (h := am_sJ h o 0 y) ho]
    rfl
  exact va_last hx hb hK hP hD hS (o - 1) 2 hws rfl hin hd (fun H1 locs1 k1 k2 k3 => kk H1 locs1 ⟨by rw [hws']; exact k1, by rw [hws']; exact k2, k3, am_gd_sJ hg⟩)
end AMS
/-- from the call's answer to the store, and from the store to the answer 0 -/
def xk_way (cc : ByteArray) (pcA pcL : Nat) (rv : List Value) (y : Int64) : Prop := ∀ (p : Program) (l : Launch) (e : Env) (R : Room) (s : State) (m : MethodId) (args : Array Value) (below : List Frame) (meth : Method) (c : Code) (H : Heap) (locs : List Loc) (cells slots : Nat) (Q : State → Prop) (ls : Array Slot) (oo : Nat), p.tables.exec = Jvm.exec → c.code = cc → W p l e R s m args below meth c H locs cells slots Q (F0 m pcL ls [.long y, .int 0, .ref oo]) → W p l e R s m args below meth c H locs cells slots Q (F0 m pcA ls (rv ++ [.int 0, .ref oo]))
def xk_end (cc : ByteArray) (pcE pcR : Nat) : Prop := decode cc pcR = .ok (.ireturn, 1) ∧ ∀ (p : Program) (l : Launch) (e : Env) (R : Room) (s : State) (m : MethodId) (args : Array Value) (below : List Frame) (meth : Method) (c : Code) (H : Heap) (locs : List Loc) (cells slots : Nat) (Q : State → Prop) (ls : Array Slot), p.tables.exec = Jvm.exec → c.code = cc → W p l e R s m args below meth c H locs cells slots Q (F0 m pcR ls [.int 0]) → W p l e R s m args below meth c H locs cells slots Q (F0 m pcE ls [])
set_option maxHeartbeats 8000000 in
/-- the wrapper with a place for its answer -/
theorem xk_met {l : Launch} {n k index pcC pcL pcR maxL nA q o : Nat} {yW : MethodName} {cc : ByteArray} {hh : List (Nat × Nat × Nat × Nat)} {Ac : List Value} {h h1 : am_H} {v : Value} {y : Int64} (hk : k < 179) (hr : am_ex n k 0 (am_ent (.ref q :: Ac) (am_nL k)) [] h = some (v, h1)) (hexp : (am_exp (.ref q :: Ac)).length ≤ am_nL k) (hvs : am_vs h.2.1.2.2 (.ref q :: Ac)) (hq8 : (am_S h q).1 = 8) (ho : (am_S h o).1 = 22) (ho1 : (am_S h1 o).1 = 22) (hin : vp_in 0 (am_S h1 o).2)
    (hd : xw_dec yW cc index pcC k) (hL : decode cc pcL = .ok (.lastore, 1)) (hn : Ac.length = nA) (hpar : (parseMethodDescriptor (am_y k).desc).map (fun d => d.parameters.length) = some nA)
    {G : va_G} {cA : Nat → ClassId} {L : Nat} {xs : Nat → Int32} {adc ad : Nat → Option Nat} {sz : Nat} (hg : am_gd L xs adc ad h) (hlen : (lg_sl ((Value.ref q :: (Ac ++ [.ref o])).map (am_cv ad))).length ≤ maxL)
    (pre : ∀ b oo : Nat, xw_pre cc maxL pcC (.ref b :: (Ac.map (am_cv ad) ++ [.ref oo])) ((Ac.map (am_cv ad)).reverse ++ .ref b :: [.int 0, .ref oo])) (way : ∀ ad' : Nat → Option Nat, xk_way cc (pcC + 3) pcL ((am_rv (am_rt k) (am_cv ad' v)).toList) y) (fin : xk_end cc (pcL + 1) pcR) :
    Met l yW (Cond.codeWith yW cc maxL (some .int) hh :: am_good) { frames := am_fr k + 1, cells := h1.2.2.1 - h.2.2.1, slots := h1.2.2.2 - h.2.2.2, locals := 8 + (am_nL k + 11) + am_lo k } (am_Pc G cA L xs adc ad h sz (.ref q :: (Ac ++ [.ref o]))) (am_Qc G cA L xs adc ad h (am_sJ h1 o 0 y) sz 73 (.int 0)) (h1.2.2.1 - h.2.2.1) (h1.2.2.2 - h.2.2.2) (va_A (am_ws cA ad h) sz) := by
  obtain ⟨d1, d2, d3, d4, w1, w2, w3, w4⟩ := hd
  refine va_MetW (ws' := am_good) (cc := cc) (maxL := maxL) (ret := some .int) (hh := hh) d1 rfl ?_
  intro p e s m args below meth c s₁ B hml hPc
  obtain ⟨hargs, hsz, hP, hK, hD0, hC⟩ := hPc
  subst hsz
  have hts0 := atoms_spec (ws := Cond.codeWith yW cc maxL (some .int) hh :: am_good) B.pre
  have hts : ∀ w ∈ am_good, w.before args s = true := fun w hw => hts0 w (List.mem_cons_of_mem _ hw)
  have hown : s.vm.findClass "ScanChartLaw" = some m.cls := by rw [← d2]; exact findClass_of_methodNamed B.named
  have hx := B.exec
  have hb := B.bytes
  have hret := B.returns
  have hfx : am_Fx G cA L xs adc (va_A (am_ws cA ad h) s.heap.size) s := ⟨hK, hC, fun q hq => Or.inr hq⟩
  have hw : am_Wd G cA L xs adc (va_A (am_ws cA ad h) s.heap.size) s ad h s.heap [] := ⟨hP, hD0.self, va_S.rf, hg⟩
  obtain ⟨ao, hao, -, -, hws⟩ := am_at (cA := cA) hg (q := q) (by omega) (by omega)
  obtain ⟨oo, hoo, -, -, -⟩ := am_at (cA := cA) hg (q := o) (by omega) (by omega)
  rw [am_ce_obj hq8 (by decide)] at hws
  have e4 := va_recv hK hP (am_cl_at (b := 8) (by decide) (by decide)) hws
  have e4 : ∃ cellB : Cell, s.heap[ao]? = some cellB ∧ cellB.vm.isStatics = false ∧ s.vm.findClass "ScanChart" = some cellB.cls := e4
  have hcv : am_cv ad (.ref q) = .ref ao := by show va_rf (ad q) = _; rw [hao]; rfl
  have hco : am_cv ad (.ref o) = .ref oo := by show va_rf (ad o) = _; rw [hoo]; rfl
  have hl0 := lv_entry ((Value.ref q :: (Ac ++ [.ref o])).map (am_cv ad)) (n := maxL) hlen
  rw [hargs, lg_entry_eq]
  rw [← hargs]
  have hmap : (Value.ref q :: (Ac ++ [.ref o])).map (am_cv ad) = .ref ao :: (Ac.map (am_cv ad) ++ [.ref oo]) := by
    rw [List.map_cons, List.map_append, hcv, List.map_cons, hco]; rfl
  rw [hmap] at hl0 ⊢
  generalize (lg_sl (Value.ref ao :: (Ac.map (am_cv ad) ++ [.ref oo])) ++ List.replicate (maxL - (lg_sl (Value.ref ao :: (Ac.map (am_cv ad) ++ [.ref oo]))).length) Slot.unset).toArray = ls at hl0 ⊢
  refine pre ao oo p l e _ s m args below meth c s.heap [] 0 0 _ ls hx hb hl0 ?_
  obtain ⟨hA', hU⟩ := am_pre (as := .ref q :: Ac) hfx hw
  rw [List.map_cons, hcv] at hU
  obtain ⟨m1, m2, m3, -, -⟩ := am_mok_at hk
  have SF : CallFix p m c cc maxL s args am_good "ScanChartLaw" := ⟨hx, hb, hml, hown, hts⟩
  have hMet := am_met l n k (.ref q :: Ac) h h1 v hk hr hexp hvs G cA L xs adc ad s.heap.size hg
  have hrun := va_runV (e := e) (below := below) (meth := meth) (R := (headSpec (Cond.codeWith yW cc maxL (some .int) hh :: am_good) { frames := am_fr k + 1, cells := h1.2.2.1 - h.2.2.1, slots := h1.2.2.2 - h.2.2.2, locals := 8 + (am_nL k + 11) + am_lo k }).room) (H := s.heap) (locs := []) (cells := 0) (slots := 0) (g := F0 m pcC ls ((Ac.map (am_cv ad)).reverse ++ .ref ao :: [.int 0, .ref oo])) (rest := [.int 0, .ref oo]) (b := ao) (As := Ac.map (am_cv ad)) (C := "ScanChart") (ret := am_rty k) (bytes := am_bc k) (maxL := am_nL k) (index := index) (n := nA) SF hMet (cwV (ws' := am_good) nA hts (fun w hw => by
      unfold wsV at hw
      rcases List.mem_append.mp hw with z1 | z1
      · simp only [List.mem_cons, List.not_mem_nil, or_false] at z1
        have : w ∈ am_good := by
          rcases z1 with z1 | z1 | z1 | z1 <;> rw [z1]
          · exact w1
          · exact w2
          · exact w3
          · rw [← d4]; exact w4
        exact ⟨this, am_good_word this⟩
      · exact am_wsm_good hk w z1) rfl rfl rfl ⟨d4, m2, m3, hpar⟩ ⟨Nat.le_refl _, Nat.le_refl _⟩) ⟨am_Pc_blind, e4, hU⟩ rfl (by rw [List.length_map]; exact hn) hl0.1 rfl (show 2 * 0 + ([Value.int 0, Value.ref oo].map fun v => v.category).sum ≤ 8 from Nat.le_of_ble_eq_true rfl) d3 ⟨Nat.le_of_eq (Nat.zero_add _), Nat.le_of_eq (Nat.zero_add _)⟩
  refine am_after hrun hA' va_S.rf (fun ad' H1 locs1 hw' had hvd => ?_)
  have hoo' : ad' o = some oo := by
    have hz : o ≤ h.2.1.2.2 := (am_live hg (by omega) (by omega)).2
    rw [had o hz]; exact hoo
  refine way ad' p l e _ s m args below meth c H1 locs1 _ _ _ ls oo hx hb ?_
  refine sp_last hx hb hK hw' ho1 hin hoo' hL (fun H2 locs2 hw2 => ?_)
  refine fin.2 p l e _ s m args below meth c H2 locs2 _ _ _ ls hx hb ?_
  obtain ⟨hP2, hD2, hS2, hg2⟩ := hw2
  rw [Nat.zero_add, Nat.zero_add]
  exact W.iret (v := 0) hx hb hret (fun t ht _ => ⟨⟨ad', rfl, by rw [ht]; exact hP2, hD2, hg2, had, trivial⟩, hS2.F ht⟩) hS2.2.2 fin.1

/-! SOUNDNESS OF CALLS, and the contract of every method. -/
def am_tcode (t : Option FieldType) : Nat := match t with
  | none => 0
  | some .int => 1
  | some .long => 2
  | some .boolean => 4
  | some .char => 5
  | some .byte => 6
  | some (.object _) => 3
  | _ => 9
theorem am_tcode_0 {t : Option FieldType} (h : am_tcode t = 0) : t = none := by
  cases t with
  | none => rfl
  | some z => cases z <;> cases h
def am_mok (a : Nat) : Bool := decide ((am_y a).cls ≠ "") && decide ((am_y a).cls ≠ "java/lang/invoke/MethodHandle") && decide ((am_y a).cls ≠ "java/lang/invoke/VarHandle") && decide (am_tcode (am_rty a) = am_rt a) && plainFor (am_y a)
theorem am_mok_all : (List.range 179).all am_mok = true := by decide +kernel
theorem am_mok_at {a : Nat} (h : a < 179) : (am_y a).cls ≠ "" ∧ (am_y a).cls ≠ "java/lang/invoke/MethodHandle" ∧ (am_y a).cls ≠ "java/lang/invoke/VarHandle" ∧ am_tcode (am_rty a) = am_rt a ∧ plainFor (am_y a) = true := by
  have := List.all_eq_true.mp am_mok_all a (List.mem_range.mpr h)
  unfold am_mok at this
  simp only [Bool.and_eq_true, decide_eq_true_eq] at this
  exact ⟨this.1.1.1.1, this.1.1.1.2, this.1.1.2, this.1.2, this.2⟩
theorem am_ord_ok : Cond.sameMethod "ScanChart$Op" "java/lang/Enum" "ordinal" "()I" ∈ am_good ∧ Cond.selects "ScanChart$Op" ⟨"ScanChart$Op", "ordinal", "()I"⟩ (am_y 161) ∈ am_good ∧ Cond.instanceMethod (am_y 161) ∈ am_good ∧ Cond.initialized (am_y 161).cls ∈ am_good := ⟨am_good_in (List.mem_of_getElem? (i := 854) (by decide +kernel)) rfl, am_good_in (List.mem_of_getElem? (i := 856) (by decide +kernel)) rfl, am_good_in (List.mem_of_getElem? (i := 857) (by decide +kernel)) rfl, am_good_in (List.mem_of_getElem? (i := 99) (by decide +kernel)) rfl⟩
def am_sp1 (m i : Nat) : Bool := match am_ins m i with
  | (ir, _, _, c) => match ir with
    | .invokespecial _ => Nat.beq c 99 || Nat.ble c 9
    | _ => true
def am_spp (m : Nat) : Bool := (List.range (16 * (am_cc m).length)).all (am_sp1 m)
theorem am_sp_all : (List.range 180).all am_spp = true := by decide +kernel
theorem am_sp {k : Nat} (hk : k < 180) (i : Nat) : am_sp1 k i = true := by
  by_cases h : i < 16 * (am_cc k).length
  · exact List.all_eq_true.mp (List.all_eq_true.mp am_sp_all k (List.mem_range.mpr hk)) i (List.mem_range.mpr h)
  · have e : am_ins k i = (.nop, 0, 0, 0) := by
      show (((am_cc k).getD (i / 16) []).getD (i % 16) (.nop, 0, 0, 0)) = _
      rw [show (am_cc k).getD (i / 16) [] = [] by rw [List.getD_eq_getElem?_getD, List.getElem?_eq_none (by omega)]; rfl]
      rfl
    unfold am_sp1
    rw [e]
theorem am_kcl_9 {c : Nat} (h1 : 1 ≤ c) (h9 : c ≤ 9) : am_kcl c ≠ "" := am_cases9 (P := fun c => am_kcl c ≠ "") (by decide +kernel) (by decide +kernel) (by decide +kernel) (by decide +kernel) (by decide +kernel) (by decide +kernel) (by decide +kernel) (by decide +kernel) (by decide +kernel) h1 h9
theorem am_kcl_big {c : Nat} (h : am_kcl c ≠ "") : 1 ≤ c ∧ c ≤ 9 ∨ c = 30 ∨ c = 31 ∨ c = 0 := by
  by_cases h1 : c = 30
  · exact Or.inr (Or.inl h1)
  · by_cases h2 : c = 31
    · exact Or.inr (Or.inr (Or.inl h2))
    · by_cases h3 : c ≤ 9
      · omega
      · exfalso
        apply h
        unfold am_kcl am_fldD
        rw [am_nbeq h1, am_nbeq h2, cond_false, cond_false, List.getD_eq_getElem?_getD, List.getElem?_eq_none (by show 9 ≤ c - 1; omega)]
        rfl
theorem am_back_inv {t : Nat} {r : Value} {rest : List Value} {k : List Value → am_R} {z : Value × am_H} (he : am_back t r rest k = some z) {n : Nat} (hr : am_vd n r) (hv : am_vs n rest) : ∃ r', k r' = some z ∧ am_vs n r' ∧ ∀ ad, r'.map (am_cv ad) = (am_rv t (am_cv ad r)).toList ++ rest.map (am_cv ad) := by
  rcases t with _ | _ | _ | _ | t
  · exact ⟨rest, he, hv, fun _ => rfl⟩
  · obtain ⟨x, rfl, he⟩ := am_vI_inv he
    exact ⟨_, he, am_vs.cons trivial hv, fun _ => rfl⟩
  · obtain ⟨x, rfl, he⟩ := am_vJ_inv he
    exact ⟨_, he, am_vs.cons trivial hv, fun _ => rfl⟩
  · obtain ⟨x, rfl, he⟩ := am_vR_inv he
    exact ⟨_, he, am_vs.cons hr hv, fun _ => rfl⟩
  · obtain ⟨x, rfl, he⟩ := am_vI_inv he
    exact ⟨_, he, am_vs.cons trivial hv, fun _ => rfl⟩
theorem am_cat_le {n : Nat} : ∀ {l : List Value}, am_vs n l → (l.map fun v => v.category).sum ≤ 2 * l.length
  | [], _ => Nat.le_refl _
  | v :: l, h => by
    have ih := am_cat_le (l := l) h.tl
    have h1 : v.category ≤ 2 := by rcases lv_cat v with z | z <;> omega
    simp only [List.map_cons, List.sum_cons, List.length_cons]
    omega
theorem am_sum_cv (ad : Nat → Option Nat) (l : List Value) : ((l.map (am_cv ad)).map fun v => v.category).sum = (l.map fun v => v.category).sum := by
  congr 1
  rw [List.map_map]
  exact List.map_congr_left fun v _ => am_cv_cat ad v
section AMS
variable {p : Program} {l : Launch} {e : Env} {R : Room} {s : State} {m : MethodId} {args : Array Value} {below : List Frame} {meth : Method} {c : Code} {Q : State → Prop}
/-- what a callee asks at the call -/
theorem am_pre {G : va_G} {cA : Nat → ClassId} {L : Nat} {xs : Nat → Int32} {adc ad : Nat → Option Nat} {A : Nat → Prop} {h : am_H} {H : Heap} {locs : List Loc} {as : List Value} (hfx : am_Fx G cA L xs adc A s) (hw : am_Wd G cA L xs adc A s ad h H locs) : (∀ q, va_A (am_ws cA ad h) H.size q → A q) ∧ ∀ U : State, U.heap = H → s.WarmedH U.vm → am_Pc G cA L xs adc ad h H.size as (as.map (am_cv ad)).toArray U := by
  obtain ⟨hK, hC, hA⟩ := hfx
  obtain ⟨hP, hD, hS, hg⟩ := hw
  have hF : ∀ q, va_A (am_ws cA ad h) H.size q → A q := fun q z => by
    rcases z with ⟨k, e, z⟩ | z
    · exact hD.2 k _ z
    · exact hA q (Nat.le_trans hS.1 z)
  refine ⟨hF, fun U hU hW => ⟨rfl, by rw [hU], by rw [hU]; exact hP, va_K.moved hW.alike hK, hD.weaken (fun _ _ _ _ => trivial), ?_⟩⟩
  exact am_Cst.move hC hW (fun a h1 h2 => by rw [hU]; exact hS.2.1 a h1 h2) (by rw [hU]; exact hS.1) (fun q _ z => hF q z)
set_option maxHeartbeats 16000000 in
theorem am_calls {G : va_G} {cA : Nat → ClassId} {L : Nat} {xs : Nat → Int32} {adc : Nat → Option Nat} {A : Nat → Prop} {k : Nat} {E : (Nat → Option Nat) → Prop} {n0 c0 s0 : Nat} {rf : Value} {hf : am_H} {n : Nat} (hk : k < 180) (HM : am_Met l n) (IH : am_G p l e R s m args below meth c Q G cA L xs adc A k E n0 c0 s0 rf hf n) (hcx : am_Ctx p s m args meth c k) (hfx : am_Fx G cA L xs adc A s) (hcc : hf.2.2.1 ≤ c0 + R.cells) (hss : hf.2.2.2 ≤ s0 + R.slots) (hfr : am_fr k ≤ R.frames) (hlo : am_lo k ≤ R.locals) (hE : ∀ (ad ad' : Nat → Option Nat) (N : Nat), n0 ≤ N → E ad → (∀ q, q ≤ N → ad' q = ad q) → E ad') : am_Calls p l e R s m args below meth c Q G cA L xs adc A k E n0 c0 s0 rf hf n := by
  intro i a b cc ir ls st h ad H locs Ls hins hinv hnsp he hw hl hvl hst hEad hn hc0 hs0
  obtain ⟨hx, hb, hml, hown, hts, hini⟩ := id hcx
  obtain ⟨hK, hC, hA⟩ := id hfx
  obtain ⟨hP, hD, hS, hg⟩ := id hw
  have hck := am_ck hk i
  have hrk := am_rk hk i
  unfold am_chk at hck
  unfold am_rk1 at hrk
  have hpc : am_pc k i = (am_lk k i).1 := rfl
  rcases hlk : am_lk k i with ⟨pc, len, w, x⟩
  rw [hins, hlk] at hck
  rw [hins] at hrk
  rw [hlk] at hpc
  dsimp only at hck hpc
  have hnop : ¬ ir = .nop := by
    obtain ⟨z, y | y | y⟩ := hinv <;> rw [y] <;> exact fun q => by cases q
  rw [decide_eq_false hnop, cond_false] at hck
  simp only [Bool.and_eq_true] at hck
  obtain ⟨⟨⟨hd, hlen⟩, hfall⟩, hq⟩ := hck
  replace hd := of_decide_eq_true hd
  replace hlen := Nat.eq_of_beq_eq_true hlen
  have hlen3 : len = 3 := by
    obtain ⟨z, y | y | y⟩ := hinv <;> rw [y] at hlen <;> exact hlen
  subst hlen3
  have hnx : am_pc k (i + 1) = pc + 3 := by
    obtain ⟨z, y | y | y⟩ := hinv <;> rw [y] at hfall <;> exact Nat.eq_of_beq_eq_true (by simpa [am_fall] using hfall)
  rw [hpc]
  unfold am_call at he
  obtain ⟨hb2, he1⟩ := am_cond_inv he
  clear he
  simp only [Bool.and_eq_true] at hb2
  have hbl := Nat.le_of_ble_eq_true hb2.1
  have hrl := Nat.le_of_ble_eq_true hb2.2
  have hrest : am_vs h.2.1.2.2 (st.drop b) := fun v hv => hst v (List.mem_of_mem_drop hv)
  have hsumr : 2 * 0 + (((st.drop b).map (am_cv ad)).map fun v => v.category).sum ≤ 8 := by
    rw [am_sum_cv]
    have := am_cat_le hrest
    omega
  cases h99 : Nat.beq cc 99 with
  | true =>
    rw [h99, cond_true] at he1
    have hc99 := Nat.eq_of_beq_eq_true h99
    subst hc99
    obtain ⟨hb1, he1⟩ := am_cond_inv he1
    have hb1 := Nat.eq_of_beq_eq_true hb1
    subst hb1
    obtain ⟨q1, r, rfl, he⟩ := am_r1_inv he1
    obtain ⟨hkd, he⟩ := am_cond_inv he
    simp only [Bool.and_eq_true] at hkd
    have k1 := Nat.le_of_ble_eq_true hkd.1
    have k2 := Nat.le_of_ble_eq_true hkd.2
    obtain ⟨ao, hao, z1, z2, hws⟩ := am_at (cA := cA) hg (q := q1) k1 (by omega)
    have hcv : am_cv ad (.ref q1) = .ref ao := by show va_rf (ad q1) = _; rw [hao]; rfl
    obtain ⟨z, y | y | y⟩ := hinv
    · subst y
      exfalso
      skip
      have hq : (am_lw w (.methodLink (am_own k) z (am_y a)) && Nat.blt a 179 && am_vok a 1 99) = true := hq
      simp only [Bool.and_eq_true] at hq
      have ha := Nat.le_of_ble_eq_true hq.1.2
      have hv := hq.2
      unfold am_vok at hv
      simp only [Bool.and_eq_true, decide_eq_true_eq] at hv
      have := am_kcl_big (c := 99) (by rw [← hv.1.1.1.1.1.1]; exact (am_mok_at ha).1)
      omega
    · subst y
      have hq : am_lw w (.methodLink (am_own k) z Lib.objectInit) = true := hq
      have hrk : (Nat.ble 1 (am_fr k) && Nat.ble 20 (am_lo k)) = true := hrk
      simp only [Bool.and_eq_true] at hrk
      have f1 := Nat.le_of_ble_eq_true hrk.1
      have f2 := Nat.le_of_ble_eq_true hrk.2
      have ht := hnx ▸ IH (i + 1) ls r h ad H locs Ls he hw hl hvl hst.tl hEad hn hc0 hs0
      rw [List.map_cons, hcv]
      have hsum2 : ((r.map (am_cv ad)).map fun v => v.category).sum ≤ 8 := by
        have := hsumr
        rw [Nat.mul_zero, Nat.zero_add] at this
        exact this
      exact W.objInit hx hb hown (hts _ (am_lw_in hq rfl)) (hts _ am_objInit_ok.1) (hts _ am_objInit_ok.2) rfl (hl.1.trans hml.symm) rfl hd (by omega) (by show 2 * 0 + _ + 12 ≤ _; omega) ht
    · subst y
      exfalso
      have hq : (Nat.beq 99 0 && am_cl k z a w x && Nat.blt a 179 && am_sok a 1) = true := hq
      simp only [Bool.and_eq_true] at hq
      exact absurd hq.1.1.1 (by decide)
  | false =>
    rw [h99, cond_false, am_nbeq (fun z => hnsp (Or.inr z)), cond_false, am_nbeq (fun z => hnsp (Or.inl z)), cond_false] at he1
    obtain ⟨he2, hrecv⟩ := am_recv_inv he1
    obtain ⟨hexp, ⟨r, h1⟩, hr, he3⟩ := am_run_inv he2
    clear he1 he2
    have hcc99 : cc ≠ 99 := fun z => by rw [z] at h99; cases h99
    have hcc98 : cc ≠ 98 := fun z => hnsp (Or.inr z)
    have hcc97 : cc ≠ 97 := fun z => hnsp (Or.inl z)
    have has : am_vs h.2.1.2.2 (st.take b).reverse := fun v hv => hst v (List.mem_of_mem_take (List.mem_reverse.mp hv))
    obtain ⟨hA', hU⟩ := am_pre (as := (st.take b).reverse) hfx hw
    have hMx := am_Mex n _ _ _ _ _ _ _ hr
    have hM1 : h.2.2.1 ≤ h1.2.2.1 := hMx.1
    have hM2 : h.2.2.2 ≤ h1.2.2.2 := hMx.2.1
    have hM3 : h.2.1.2.2 ≤ h1.2.1.2.2 := hMx.2.2
    have hM4 : h1.2.2.1 ≤ hf.2.2.1 ∧ h1.2.2.2 ≤ hf.2.2.2 := by
      have := am_Mback (h := h1) (t := am_rt a) (v := r) (r := st.drop b) (k := fun r => am_ex n k (i + 1) ls r h1) (fun x => am_Mex n _ _ _ _ _) rf hf he3
      exact ⟨this.1, this.2.1⟩
    have hfit : (h.2.2.1 - c0) + (h1.2.2.1 - h.2.2.1) ≤ R.cells ∧ (h.2.2.2 - s0) + (h1.2.2.2 - h.2.2.2) ≤ R.slots := by omega
    have hstk : st.map (am_cv ad) = ((st.take b).reverse.map (am_cv ad)).reverse ++ (st.drop b).map (am_cv ad) := by
      rw [← List.map_reverse, List.reverse_reverse, ← List.map_append, List.take_append_drop]
    have hlenas : (st.take b).reverse.length = b := by rw [List.length_reverse, List.length_take]; omega
    have done : ∀ (av : Array Value) (st0 : List Value), va_Run p l e R s m args below meth c H locs (h.2.2.1 - c0) (h.2.2.2 - s0) (h1.2.2.1 - h.2.2.1) (h1.2.2.2 - h.2.2.2) (F0 m pc Ls st0) ((st.drop b).map (am_cv ad)) (am_Qc G cA L xs adc ad h h1 H.size a r av) (va_A (am_ws cA ad h) H.size) → W p l e R s m args below meth c H locs (h.2.2.1 - c0) (h.2.2.2 - s0) Q (F0 m pc Ls st0) := fun av st0 hrun => by
      refine am_after hrun hA' hS (fun ad' H1 locs1 hw' had hvd => ?_)
      obtain ⟨r', k1, k2, k3⟩ := am_back_inv he3 hvd (hrest.le hM3)
      have had2 : ∀ q, 1000 < q → ad' q = ad q := fun q hq => (hw'.2.2.2.2.2.2.2.2.2.2.1 q hq).trans (hg.2.2.2.2.2.2.2.1 q hq).symm
      have := IH (i + 1) ls r' h1 ad' H1 locs1 Ls k1 hw' (hl.ad had had2 hvl) (hvl.le hM3) k2 (hE ad ad' h.2.1.2.2 hn hEad had) (Nat.le_trans hn hM3) (Nat.le_trans hc0 hM1) (Nat.le_trans hs0 hM2)
      rw [hnx, k3, am_cvs_eq had had2 hrest] at this
      rw [show h.2.2.1 - c0 + (h1.2.2.1 - h.2.2.1) = h1.2.2.1 - c0 by omega, show h.2.2.2 - s0 + (h1.2.2.2 - h.2.2.2) = h1.2.2.2 - s0 by omega]
      exact this
    have main : ∀ (ha : a < 179), (Nat.ble (am_fr a + 1) (am_fr k) && Nat.ble (8 + (am_nL a + 11) + am_lo a) (am_lo k)) = true → (am_fr a + 1 ≤ R.frames ∧ 8 + (am_nL a + 11) + am_lo a ≤ R.locals) ∧ Met l (am_y a) (am_wsm a) (am_rm a h h1) (am_Pc G cA L xs adc ad h H.size (st.take b).reverse) (am_Qc G cA L xs adc ad h h1 H.size a r) (h1.2.2.1 - h.2.2.1) (h1.2.2.2 - h.2.2.2) (va_A (am_ws cA ad h) H.size) := fun ha hroom => by
      simp only [Bool.and_eq_true] at hroom
      have f1 := Nat.le_of_ble_eq_true hroom.1
      have f2 := Nat.le_of_ble_eq_true hroom.2
      exact ⟨⟨by omega, by omega⟩, HM a _ h h1 r ha hr hexp has G cA L xs adc ad H.size hg⟩
    have hroom0 : ∀ z, (ir = .invokevirtual z ∨ ir = .invokespecial z ∨ ir = .invokestatic z) → (Nat.ble (am_fr a + 1) (am_fr k) && Nat.ble (8 + (am_nL a + 11) + am_lo a) (am_lo k)) = true := fun z hz => by
      rcases hz with y | y | y <;> subst y <;> dsimp only at hrk
      · rwa [am_nbeq hcc98, cond_false] at hrk
      · rwa [am_nbeq hcc99, cond_false] at hrk
      · rwa [am_nbeq hcc98, cond_false] at hrk
    have hsz : (F0 m pc Ls (st.map (am_cv ad))).locals.size = am_nL k := hl.1
    rw [hstk]
    -- the receiver
    have recv : ∀ (q : Nat) (as' : List Value), (st.take b).reverse = .ref q :: as' → (am_S h q).1 = cc → am_kcl cc ≠ "" → cc ≠ 0 → ∃ b0, (st.take b).reverse.map (am_cv ad) = .ref b0 :: as'.map (am_cv ad) ∧ ∃ cellB : Cell, H[b0]? = some cellB ∧ cellB.vm.isStatics = false ∧ s.vm.findClass (am_kcl cc) = some cellB.cls := fun q as' e1 e2 e3 e4 => by
      rcases am_kcl_big e3 with ⟨z1, z2⟩ | z | z | z
      · obtain ⟨ao, hao, y1, y2, hws⟩ := am_at (cA := cA) hg (q := q) (by omega) (by omega)
        rw [am_ce_obj e2 z2] at hws
        refine ⟨ao, by rw [e1, List.map_cons]; congr 1; show va_rf (ad q) = _; rw [hao]; rfl, ?_⟩
        have := va_recv hK hP (am_cl_at z1 z2) hws
        rwa [show am_kcl cc = (am_fldD cc).1 by unfold am_kcl; rw [am_nbeq (by omega), am_nbeq (by omega)]; rfl]
      · obtain ⟨hS0, hbig⟩ := am_dead hg (q := q) (by omega)
        obtain ⟨-, a0, y1, y2, -⟩ := hC.1 q (by rw [← hS0, e2]; exact z)
        obtain ⟨cell, g1, g2, g3, -⟩ := y2.kept hS.2.1
        exact ⟨a0, by rw [e1, List.map_cons]; congr 1; show va_rf (ad q) = _; rw [hg.2.2.2.2.2.2.2.1 q hbig, y1]; rfl, cell, g1, g2, by rw [z]; exact g3⟩
      · obtain ⟨hS0, hbig⟩ := am_dead hg (q := q) (by omega)
        obtain ⟨-, a0, y1, y2, -⟩ := hC.2.2.1 q (by rw [← hS0, e2]; exact z)
        obtain ⟨cell, g1, g2, g3, -⟩ := y2.kept hS.2.1
        exact ⟨a0, by rw [e1, List.map_cons]; congr 1; show va_rf (ad q) = _; rw [hg.2.2.2.2.2.2.2.1 q hbig, y1]; rfl, cell, g1, g2, by rw [z]; exact g3⟩
      · exact absurd z e4
    have SF : CallFix p m c (am_bc k) (am_nL k) s args am_good (am_own k) := ⟨hx, hb, hml, hown, hts⟩
    obtain ⟨z, y | y | y⟩ := id hinv
    · have hroom := hroom0 z (Or.inl y)
      subst y
      have hq : cond (Nat.beq cc 30 && Nat.beq a 161) (am_lw w (.methodLink (am_own k) z ⟨"ScanChart$Op", "ordinal", "()I"⟩) && Nat.beq b 1) (am_lw w (.methodLink (am_own k) z (am_y a)) && Nat.blt a 179 && am_vok a b (cond (Nat.beq cc 97) 8 cc)) = true := hq
      cases hord : (Nat.beq cc 30 && Nat.beq a 161) with
      | true =>
        rw [hord, cond_true] at hq
        simp only [Bool.and_eq_true] at hord hq
        obtain ⟨hl1, hb1⟩ := hq
        have hb1 := Nat.eq_of_beq_eq_true hb1
        have hc30 := Nat.eq_of_beq_eq_true hord.1
        have ha := Nat.eq_of_beq_eq_true hord.2
        subst ha
        obtain ⟨⟨R1, R2⟩, hMet⟩ := main (by decide) hroom
        rcases hrecv with y | ⟨q, as', e1, e2⟩
        · omega
        obtain ⟨b0, e3, e4⟩ := recv q as' e1 e2 (by rw [hc30]; decide +kernel) (by omega)
        rw [hc30] at e4
        rw [e3] at hU ⊢
        have hla : (as'.map (am_cv ad)).length = 0 := by
          rw [e1, List.length_cons] at hlenas
          rw [List.length_map]
          omega
        refine done _ _ (va_runU (C := "ScanChart$Op") (owner := "java/lang/Enum") (x := ⟨"ScanChart$Op", "ordinal", "()I"⟩) (ret := am_rty 161) (bytes := am_bc 161) (maxL := am_nL 161) (index := z) (n := 0) SF hMet (va_cwU (ws' := am_good) 0 hts (fun w' hw' => ?_) rfl rfl rfl rfl ⟨by decide, by decide, by decide +kernel⟩ ⟨R1, R2⟩) ⟨am_Pc_blind, e4, hU⟩ rfl hla hsz (by simp) hsumr hd hfit)
        unfold va_wsU at hw'
        rcases List.mem_append.mp hw' with z1 | z1
        · simp only [List.mem_cons, List.not_mem_nil, or_false] at z1
          have : w' ∈ am_good := by
            rcases z1 with z1 | z1 | z1 | z1 | z1 <;> rw [z1]
            · exact am_lw_in hl1 rfl
            · exact am_ord_ok.1
            · exact am_ord_ok.2.1
            · exact am_ord_ok.2.2.1
            · exact am_ord_ok.2.2.2
          exact ⟨this, am_good_word this⟩
        · exact am_wsm_good (by decide) w' z1
      | false =>
        rw [hord, cond_false, am_nbeq hcc97, cond_false] at hq
        simp only [Bool.and_eq_true] at hq
        obtain ⟨⟨hl1, ha⟩, hok⟩ := hq
        have ha := Nat.le_of_ble_eq_true ha
        obtain ⟨⟨R1, R2⟩, hMet⟩ := main ha hroom
        unfold am_vok am_npar at hok
        simp only [Bool.and_eq_true] at hok
        obtain ⟨⟨⟨⟨⟨⟨o1, o2⟩, o3⟩, o4⟩, o5⟩, o6⟩, o7⟩ := hok
        have o1 := of_decide_eq_true o1
        have o2 := Nat.le_of_ble_eq_true o2
        have o3 := of_decide_eq_true o3
        have o7 := Nat.le_of_ble_eq_true o7
        obtain ⟨m1, m2, m3, -, -⟩ := am_mok_at ha
        rcases hrecv with y | ⟨q, as', e1, e2⟩
        · omega
        obtain ⟨b0, e3, e4⟩ := recv q as' e1 e2 (by rw [← o1]; exact m1) (by omega)
        rw [← o1] at e4
        rw [e3] at hU ⊢
        have hla : (as'.map (am_cv ad)).length = b - 1 := by
          rw [e1, List.length_cons] at hlenas
          rw [List.length_map]
          omega
        refine done _ _ (va_runV (C := (am_y a).cls) (ret := am_rty a) (bytes := am_bc a) (maxL := am_nL a) (index := z) (n := b - 1) SF hMet (cwV (ws' := am_good) (b - 1) hts (fun w' hw' => ?_) rfl rfl rfl ⟨rfl, m2, m3, o3⟩ ⟨R1, R2⟩) ⟨am_Pc_blind, e4, hU⟩ rfl hla hsz (by simp) hsumr hd hfit)
        unfold wsV at hw'
        rcases List.mem_append.mp hw' with z1 | z1
        · simp only [List.mem_cons, List.not_mem_nil, or_false] at z1
          have : w' ∈ am_good := by
            rcases z1 with z1 | z1 | z1 | z1 <;> rw [z1]
            · exact am_lw_in hl1 rfl
            · exact am_lw_in o4 rfl
            · exact am_lw_in o5 rfl
            · exact am_lw_in o6 rfl
          exact ⟨this, am_good_word this⟩
        · exact am_wsm_good ha w' z1
    · have hroom := hroom0 z (Or.inr (Or.inl y))
      subst y
      have hq : cond (Nat.beq cc 99) (am_lw w (.methodLink (am_own k) z Lib.objectInit)) (am_cl k z a w x && Nat.blt a 179 && am_iok a b cc) = true := hq
      rw [h99, cond_false] at hq
      simp only [Bool.and_eq_true] at hq
      obtain ⟨⟨hcl, ha⟩, hok⟩ := hq
      have ha := Nat.le_of_ble_eq_true ha
      obtain ⟨⟨R1, R2⟩, hMet⟩ := main ha hroom
      unfold am_iok am_npar at hok
      simp only [Bool.and_eq_true] at hok
      obtain ⟨⟨⟨⟨⟨⟨o1, o2⟩, o7⟩, o3⟩, o4⟩, o6⟩, o8⟩ := hok
      have o1 := of_decide_eq_true o1
      have o2 := Nat.le_of_ble_eq_true o2
      have o3 := of_decide_eq_true o3
      have o7 := Nat.le_of_ble_eq_true o7
      have o8 := Nat.eq_of_beq_eq_true o8
      obtain ⟨m1, m2, m3, m4, -⟩ := am_mok_at ha
      have hret : am_rty a = none := am_tcode_0 (m4.trans o8)
      have hsp9 := am_sp hk i
      unfold am_sp1 at hsp9
      rw [hins] at hsp9
      have hsp9 : (Nat.beq cc 99 || Nat.ble cc 9) = true := hsp9
      rw [h99, Bool.false_or] at hsp9
      have hc9 := Nat.le_of_ble_eq_true hsp9
      rcases hrecv with y | ⟨q, as', e1, e2⟩
      · omega
      obtain ⟨b0, e3, -⟩ := recv q as' e1 e2 (am_kcl_9 o7 hc9) (by omega)
      rw [e3] at hU ⊢
      have hla : (as'.map (am_cv ad)).length = b - 1 := by
        rw [e1, List.length_cons] at hlenas
        rw [List.length_map]
        omega
      have hwse : am_wsm a = Cond.code (am_y a) (am_bc a) (am_nL a) none :: am_good := by unfold am_wsm; rw [hret]
      refine done (Value.ref b0 :: as'.map (am_cv ad)).toArray _ ?_
      unfold am_cl at hcl
      split at hcl
      · exact va_runI (bytes := am_bc a) (maxL := am_nL a) (index := z) (n := b - 1) SF hMet (cwI (b - 1) hts (am_wsm_good ha) hwse rfl rfl (hts _ (am_lw_in o6 rfl)) (hts _ (am_lw_in hcl rfl)) (hts _ (am_lw_in o4 rfl)) o1 ⟨m2, m3, o3⟩ ⟨R1, R2⟩) ⟨am_Pc_blind, hU⟩ rfl hla hsz (by simp) hsumr hd hfit
      · have hnest := hC.2.2.2.2.2.2.2.2.2.1 _ (List.mem_of_getElem? (of_decide_eq_true hcl))
        exact va_runIN (bytes := am_bc a) (maxL := am_nL a) (index := z) (n := b - 1) SF hMet ⟨va_cnB (b - 1) hts (am_wsm_good ha) hwse rfl rfl hnest (hts _ (am_lw_in o6 rfl)) ⟨m2, m3, o3⟩ ⟨R1, R2⟩, o1, hts _ (am_lw_in o4 rfl)⟩ ⟨am_Pc_blind, hU⟩ rfl hla hsz (by simp) hsumr hd hfit
    · have hroom := hroom0 z (Or.inr (Or.inr y))
      subst y
      have hq : cond (Nat.beq cc 98) (Nat.beq k 179) (Nat.beq cc 0 && am_cl k z a w x && Nat.blt a 179 && am_sok a b) = true := hq
      rw [am_nbeq hcc98, cond_false] at hq
      simp only [Bool.and_eq_true] at hq
      obtain ⟨⟨⟨hc0', hcl⟩, ha⟩, hok⟩ := hq
      have ha := Nat.le_of_ble_eq_true ha
      obtain ⟨⟨R1, R2⟩, hMet⟩ := main ha hroom
      unfold am_sok am_npar at hok
      simp only [Bool.and_eq_true] at hok
      obtain ⟨⟨o1, o2⟩, o3⟩ := hok
      have o1 := of_decide_eq_true o1
      obtain ⟨m1, m2, m3, -, -⟩ := am_mok_at ha
      refine done ((st.take b).reverse.map (am_cv ad)).toArray _ ?_
      unfold am_cl at hcl
      split at hcl
      · refine va_runS (ret := am_rty a) (bytes := am_bc a) (maxL := am_nL a) (index := z) (n := b) SF hMet (va_cwS (ws' := am_good) b hts (fun w hw => ?_) rfl rfl rfl ⟨m2, m3, o1⟩ ⟨R1, R2⟩) ⟨am_Pc_blind, hU⟩ rfl (by rw [List.length_map]; exact hlenas) hsz rfl hsumr hd hfit
        unfold va_wsS at hw
        rcases List.mem_append.mp hw with z1 | z1
        · simp only [List.mem_cons, List.not_mem_nil, or_false] at z1
          have : w ∈ am_good := by
            rcases z1 with z1 | z1 | z1 <;> rw [z1]
            · exact am_lw_in hcl rfl
            · exact am_lw_in o2 rfl
            · exact am_lw_in o3 rfl
          exact ⟨this, am_good_word this⟩
        · exact am_wsm_good ha w z1
      · have hnest := hC.2.2.2.2.2.2.2.2.2.1 _ (List.mem_of_getElem? (of_decide_eq_true hcl))
        exact va_runSN (ret := am_rty a) (bytes := am_bc a) (maxL := am_nL a) (index := z) (n := b) SF hMet ⟨va_cnB (ws' := am_good) b hts (am_wsm_good ha) rfl rfl rfl hnest (hts _ (am_lw_in o3 rfl)) ⟨m2, m3, o1⟩ ⟨R1, R2⟩, hts _ (am_lw_in o2 rfl), trivial⟩ ⟨am_Pc_blind, hU⟩ rfl (by rw [List.length_map]; exact hlenas) hsz rfl hsumr hd hfit
end AMS

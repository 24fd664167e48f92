/-! SOUNDNESS OF A STEP: the instructions, one case each. -/
section AMS
variable {p : Program} {l : Launch} {e : Env} {R : Room} {s : State} {m : MethodId} {args : Array Value} {below : List Frame} {meth : Method} {c : Code} {Q : State → Prop}
set_option maxHeartbeats 16000000 in
set_option maxRecDepth 10000 in
theorem am_sound1 {G : va_G} {cA : Nat → ClassId} {L : Nat} {xs : Nat → Int32} {adc : Nat → Option Nat} {A : Nat → Prop} {k : Nat} {E : (Nat → Option Nat) → Prop} {n0 c0 s0 : Nat} {rf : Value} {hf : am_H} {n : Nat} (hk : k < 180) (HM : am_Met l n) (IH : am_G p l e R s m args below meth c Q G cA L xs adc A k E n0 c0 s0 rf hf n) (hcx : am_Ctx p s m args meth c k) (hfx : am_Fx G cA L xs adc A s) (hcc : hf.2.2.1 ≤ c0 + R.cells) (hss : hf.2.2.2 ≤ s0 + R.slots) (hfr : am_fr k ≤ R.frames) (hlo : am_lo k ≤ R.locals) (hE : ∀ (ad ad' : Nat → Option Nat) (N : Nat), n0 ≤ N → E ad → (∀ q, q ≤ N → ad' q = ad q) → E ad') (hend : am_Hend p l e R s m args below meth c Q G cA L xs adc A k E c0 s0 rf hf) (hsp : am_Spec p l e R s m args below meth c Q G cA L xs adc A k E n0 c0 s0 rf hf n) (hcall : am_Calls p l e R s m args below meth c Q G cA L xs adc A k E n0 c0 s0 rf hf n) : am_G p l e R s m args below meth c Q G cA L xs adc A k E n0 c0 s0 rf hf (n + 1) := by
  intro i ls st h ad H locs Ls he hw hl hvl hst hEad hn hc0 hs0
  replace he : am_step (am_ex n) k i ls st h = some (rf, hf) := he
  obtain ⟨hx, hb, hml, hown, hts, hini⟩ := id hcx
  obtain ⟨hK, hC, hA⟩ := id hfx
  obtain ⟨hP, hD, hS, hg⟩ := id hw
  have hck := am_ck hk i
  unfold am_step at he
  unfold am_chk at hck
  have hpc : am_pc k i = (am_lk k i).1 := rfl
  rcases hins : am_ins k i with ⟨ir, a, b, cc⟩
  rcases hlk : am_lk k i with ⟨pc, len, w, x⟩
  rw [hins] at he hck
  rw [hlk] at hck hpc
  dsimp only at he hck hpc
  by_cases hnop : ir = .nop
  · subst hnop; cases he
  rw [decide_eq_false hnop, cond_false] at hck
  simp only [Bool.and_eq_true] at hck
  obtain ⟨⟨⟨hd, hlen⟩, hfall⟩, hq⟩ := hck
  replace hd := of_decide_eq_true hd
  replace hlen := Nat.eq_of_beq_eq_true hlen
  have hnx : am_fall ir = true → am_pc k (i + 1) = pc + len := fun z => by
    rw [z] at hfall
    exact Nat.eq_of_beq_eq_true (by simpa using hfall)
  have tl : am_fall ir = true → ∀ (ls' st' : List Value) (Ls' : Array Slot), am_ex n k (i + 1) ls' st' h = some (rf, hf) → am_Lr ad (am_nL k) ls' Ls' → am_vs h.2.1.2.2 ls' → am_vs h.2.1.2.2 st' → W p l e R s m args below meth c H locs (h.2.2.1 - c0) (h.2.2.2 - s0) Q (F0 m (pc + len) Ls' (st'.map (am_cv ad))) := fun z ls' st' Ls' e' a1 a2 a3 => hnx z ▸ IH (i + 1) ls' st' h ad H locs Ls' e' hw a1 a2 a3 hEad hn hc0 hs0
  have jm : ∀ (t : Nat) (st' : List Value), am_ex n k t ls st' h = some (rf, hf) → am_vs h.2.1.2.2 st' → W p l e R s m args below meth c H locs (h.2.2.1 - c0) (h.2.2.2 - s0) Q (F0 m (am_pc k t) Ls (st'.map (am_cv ad))) := fun t st' e' a3 => IH t ls st' h ad H locs Ls e' hw hl hvl a3 hEad hn hc0 hs0
  have tw : am_fall ir = true → ∀ (st' : List Value) (h' : am_H) (H' : Heap) (locs' : List Loc), am_ex n k (i + 1) ls st' h' = some (rf, hf) → am_Wd G cA L xs adc A s ad h' H' locs' → h'.2.1.2 = h.2.1.2 → h'.2.2 = h.2.2 → am_vs h.2.1.2.2 st' → W p l e R s m args below meth c H' locs' (h.2.2.1 - c0) (h.2.2.2 - s0) Q (F0 m (pc + len) Ls (st'.map (am_cv ad))) := fun z st' h' H' locs' e' w' z1 z2 a3 => by
    have := IH (i + 1) ls st' h' ad H' locs' Ls e' w' hl (by rw [z1]; exact hvl) (by rw [z1]; exact a3) hEad (by rw [z1]; exact hn) (by rw [z2]; exact hc0) (by rw [z2]; exact hs0)
    rw [hnx z, z2] at this
    exact this
  rw [hpc]
  cases ir
  case iload_n q =>
    have hlen : len = 1 := hlen
    subst hlen
    obtain ⟨v, hv, he⟩ := am_vI_inv he
    exact lv_iload_n hx hb hd (Nat.eq_of_beq_eq_true hq) (hl.at hv (by simp)) (tl rfl ls (.int v :: st) Ls he hl hvl (am_vs.cons trivial hst))
  case iload q =>
    have hlen : len = 2 := hlen
    subst hlen
    obtain ⟨v, hv, he⟩ := am_vI_inv he
    replace hq : q = a := Nat.eq_of_beq_eq_true hq
    rw [hq] at hd
    exact lv_iload hx hb hd (hl.at hv (by simp)) (tl rfl ls (.int v :: st) Ls he hl hvl (am_vs.cons trivial hst))
  case lload_n q =>
    have hlen : len = 1 := hlen
    subst hlen
    obtain ⟨v, hv, he⟩ := am_vJ_inv he
    exact lv_lload_n hx hb hd (Nat.eq_of_beq_eq_true hq) (hl.at hv (by simp)) (tl rfl ls (.long v :: st) Ls he hl hvl (am_vs.cons trivial hst))
  case lload q =>
    have hlen : len = 2 := hlen
    subst hlen
    obtain ⟨v, hv, he⟩ := am_vJ_inv he
    replace hq : q = a := Nat.eq_of_beq_eq_true hq
    rw [hq] at hd
    exact lv_lload hx hb hd (hl.at hv (by simp)) (tl rfl ls (.long v :: st) Ls he hl hvl (am_vs.cons trivial hst))
  case aload_n q =>
    have hlen : len = 1 := hlen
    subst hlen
    obtain ⟨v, hv, he⟩ := am_vR_inv he
    exact am_aload_n hx hb hd (Nat.eq_of_beq_eq_true hq) (hl.at hv (by simp)) (tl rfl ls (.ref v :: st) Ls he hl hvl (am_vs.cons (hvl.at hv) hst))
  case aload q =>
    have hlen : len = 2 := hlen
    subst hlen
    obtain ⟨v, hv, he⟩ := am_vR_inv he
    replace hq : q = a := Nat.eq_of_beq_eq_true hq
    rw [hq] at hd
    exact am_aload hx hb hd (hl.at hv (by simp)) (tl rfl ls (.ref v :: st) Ls he hl hvl (am_vs.cons (hvl.at hv) hst))
  case istore_n q =>
    have hlen : len = 1 := hlen
    subst hlen
    have hq : (Nat.beq q.val a && Nat.blt a (am_nL k)) = true := hq
    simp only [Bool.and_eq_true] at hq
    obtain ⟨v, r, rfl, he⟩ := am_i1_inv he
    exact lv_istore_n hx hb hd (Nat.eq_of_beq_eq_true hq.1) hl.has (Nat.le_of_ble_eq_true hq.2) rfl (fun Ls' h' => tl rfl _ r Ls' he (am_Lr.st1 (v := .int v) h') (hvl.st1 trivial) hst.tl)
  case istore q =>
    have hlen : len = 2 := hlen
    subst hlen
    have hq : (Nat.beq q a && Nat.blt a (am_nL k)) = true := hq
    simp only [Bool.and_eq_true] at hq
    obtain ⟨v, r, rfl, he⟩ := am_i1_inv he
    have hq1 : q = a := Nat.eq_of_beq_eq_true hq.1
    rw [hq1] at hd
    exact lv_istore hx hb hd hl.has (Nat.le_of_ble_eq_true hq.2) rfl (fun Ls' h' => tl rfl _ r Ls' he (am_Lr.st1 (v := .int v) h') (hvl.st1 trivial) hst.tl)
  case astore_n q =>
    have hlen : len = 1 := hlen
    subst hlen
    have hq : (Nat.beq q.val a && Nat.blt a (am_nL k)) = true := hq
    simp only [Bool.and_eq_true] at hq
    obtain ⟨v, r, rfl, he⟩ := am_r1_inv he
    exact am_astore_n hx hb hd (Nat.eq_of_beq_eq_true hq.1) hl.has (Nat.le_of_ble_eq_true hq.2) (fun Ls' h' => tl rfl _ r Ls' he (am_Lr.st1 (v := .ref v) h') (hvl.st1 hst.hd) hst.tl)
  case astore q =>
    have hlen : len = 2 := hlen
    subst hlen
    have hq : (Nat.beq q a && Nat.blt a (am_nL k)) = true := hq
    simp only [Bool.and_eq_true] at hq
    obtain ⟨v, r, rfl, he⟩ := am_r1_inv he
    have hq1 : q = a := Nat.eq_of_beq_eq_true hq.1
    rw [hq1] at hd
    exact am_astore hx hb hd hl.has (Nat.le_of_ble_eq_true hq.2) (fun Ls' h' => tl rfl _ r Ls' he (am_Lr.st1 (v := .ref v) h') (hvl.st1 hst.hd) hst.tl)
  case lstore_n q =>
    have hlen : len = 1 := hlen
    subst hlen
    have hq : (Nat.beq q.val a && Nat.blt (a + 1) (am_nL k)) = true := hq
    simp only [Bool.and_eq_true] at hq
    obtain ⟨v, r, rfl, he⟩ := am_j1_inv he
    exact lv_lstore_n hx hb hd (Nat.eq_of_beq_eq_true hq.1) hl.has (Nat.le_of_ble_eq_true hq.2) rfl (fun Ls' h' => tl rfl _ r Ls' he (am_Lr.st2 (v := .long v) h') (hvl.st2 trivial) hst.tl)
  case lstore q =>
    have hlen : len = 2 := hlen
    subst hlen
    have hq : (Nat.beq q a && Nat.blt (a + 1) (am_nL k)) = true := hq
    simp only [Bool.and_eq_true] at hq
    obtain ⟨v, r, rfl, he⟩ := am_j1_inv he
    have hq1 : q = a := Nat.eq_of_beq_eq_true hq.1
    rw [hq1] at hd
    exact lv_lstore hx hb hd hl.has (Nat.le_of_ble_eq_true hq.2) rfl (fun Ls' h' => tl rfl _ r Ls' he (am_Lr.st2 (v := .long v) h') (hvl.st2 trivial) hst.tl)
  case iinc q y =>
    have hlen : len = 3 := hlen
    subst hlen
    have hq : (Nat.beq q a && decide (Int32.ofInt y = am_gI b) && Nat.blt a (am_nL k)) = true := hq
    simp only [Bool.and_eq_true] at hq
    obtain ⟨v, hv, he⟩ := am_vI_inv he
    have hq1 : q = a := Nat.eq_of_beq_eq_true hq.1.1
    rw [hq1] at hd
    have hin : ls[a]? = some (.int v) := by
      rw [List.getD_eq_getElem?_getD] at hv
      cases h1 : ls[a]? with
      | none => rw [h1] at hv; cases hv
      | some z => rw [h1] at hv; exact congrArg some hv
    obtain ⟨j, hj⟩ := List.mem_iff_getElem?.mp (am_ll_mem (ad := ad) (k := 0).mpr ⟨a, .int v, hin, by simp, rfl⟩)
    rw [Nat.zero_add] at hj
    exact lv_iinc hx hb hd hl.has (k := j) hj (by rw [of_decide_eq_true hq.1.2]) (Nat.le_of_ble_eq_true hq.2) rfl (fun Ls' h' => tl rfl _ st Ls' he (am_Lr.st1 (v := .int (v + am_gI b)) h') (hvl.st1 trivial) hst)
  case iconst q =>
    have hlen : len = 1 := hlen
    subst hlen
    exact lv_iconst hx hb hd (of_decide_eq_true hq) (tl rfl ls (.int (am_gI a) :: st) Ls he hl hvl (am_vs.cons trivial hst))
  case bipush q =>
    have hlen : len = 2 := hlen
    subst hlen
    exact lv_bipush hx hb hd (of_decide_eq_true hq) (tl rfl ls (.int (am_gI a) :: st) Ls he hl hvl (am_vs.cons trivial hst))
  case sipush q =>
    have hlen : len = 3 := hlen
    subst hlen
    exact lv_sipush hx hb hd (of_decide_eq_true hq) (tl rfl ls (.int (am_gI a) :: st) Ls he hl hvl (am_vs.cons trivial hst))
  case lconst q =>
    have hlen : len = 1 := hlen
    subst hlen
    exact lv_lconst hx hb hd (of_decide_eq_true hq) (tl rfl ls (.long (am_gJ a) :: st) Ls he hl hvl (am_vs.cons trivial hst))
  case ldc2_w q =>
    have hlen : len = 3 := hlen
    subst hlen
    exact lv_ldc2 hx hb hown (hts _ (am_lw_in hq rfl)) hd (tl rfl ls (.long (am_gJ a) :: st) Ls he hl hvl (am_vs.cons trivial hst))
  case ldc_w q =>
    have hlen : len = 3 := hlen
    subst hlen
    have hq : (Nat.beq b 1 && am_lw w (.constant (am_own k) q (am_gI a))) = true := hq
    simp only [Bool.and_eq_true] at hq
    rw [hq.1, cond_true] at he
    exact lv_ldcw hx hb hown (hts _ (am_lw_in hq.2 rfl)) hd (tl rfl ls (.int (am_gI a) :: st) Ls he hl hvl (am_vs.cons trivial hst))
  case ldc q =>
    have hlen : len = 2 := hlen
    subst hlen
    have hq : cond (Nat.beq b 1) (am_lw w (.constant (am_own k) q (am_gI a))) (decide (am_ldcs[x]? = some (am_own k, q, a))) = true := hq
    cases hb1 : Nat.beq b 1 with
    | true =>
      rw [hb1] at hq he
      exact lv_ldc hx hb hown (hts _ (am_lw_in hq rfl)) hd (tl rfl ls (.int (am_gI a) :: st) Ls he hl hvl (am_vs.cons trivial hst))
    | false =>
      rw [hb1] at hq he
      have hm := List.mem_of_getElem? (of_decide_eq_true hq)
      obtain ⟨h1, a', tx, h2, h3⟩ := hC.2.2.2.2.2.2.2.2.1 _ hm
      have ht := tl rfl ls (.ref a :: st) Ls he hl hvl (am_vs.cons (Or.inr h1) hst)
      have hz : am_cv ad (.ref a) = .ref a' := by
        show va_rf (ad a) = _
        rw [hg.2.2.2.2.2.2.2.1 a h1, h2]
        rfl
      rw [List.map_cons, hz] at ht
      exact va_ldcS hx hb hown h3 hd ht
  case aconst_null =>
    have hlen : len = 1 := hlen
    subst hlen
    have ht := tl rfl ls (.ref 0 :: st) Ls he hl hvl (am_vs.cons (Or.inl (Nat.zero_le _)) hst)
    have hz : am_cv ad (.ref 0) = .null := by
      show va_rf (ad 0) = _
      rw [hg.2.1]
      rfl
    rw [List.map_cons, hz] at ht
    exact lv_null hx hb hd ht
  case getstatic q =>
    have hlen : len = 3 := hlen
    subst hlen
    unfold am_chx at hq
    dsimp only at hq
    cases hsx : am_stats[x]? with
    | none => rw [hsx] at hq; cases hq
    | some t =>
      obtain ⟨C0, n1, d1, v, t1⟩ := t
      rw [hsx] at hq
      dsimp only at hq
      simp only [Bool.and_eq_true, Bool.or_eq_true] at hq
      obtain ⟨⟨hv, ht1⟩, hlink⟩ := hq
      have hv : v = a := Nat.eq_of_beq_eq_true hv
      have ht1 : t1 = b := Nat.eq_of_beq_eq_true ht1
      subst hv; subst ht1
      obtain ⟨hbig, hZ⟩ := hC.2.2.2.2.2.2.2.1 _ (List.mem_of_getElem? hsx)
      dsimp only at hbig hZ
      have go : ∀ v' : Value, (cond (Nat.beq t1 1) (.int (am_gI v)) (va_rf (adc v)) : Value) = v' → W p l e R s m args below meth c H locs (h.2.2.1 - c0) (h.2.2.2 - s0) Q (F0 m (pc + 3) Ls (v' :: st.map (am_cv ad))) → W p l e R s m args below meth c H locs (h.2.2.1 - c0) (h.2.2.2 - s0) Q (F0 m pc Ls (st.map (am_cv ad))) := fun v' hv' kk => by
        rw [hv'] at hZ
        rcases hlink with hlink | ⟨-, hlink⟩
        · exact va_gets hx hb hZ hS hown (hts _ (am_lw_in hlink rfl)) (fun _ h => h) hd kk
        · have hm := hC.2.2.2.2.2.2.2.2.2.2.1 _ (List.mem_of_getElem? (of_decide_eq_true hlink))
          exact va_getsN hx hb hZ hS hown (va_Nw.use rfl hm) (fun _ h => h) hd kk
      cases hb1 : Nat.beq t1 1 with
      | true =>
        rw [hb1] at he
        exact go _ (by rw [hb1]; rfl) (tl rfl ls (.int (am_gI v) :: st) Ls he hl hvl (am_vs.cons trivial hst))
      | false =>
        rw [hb1] at he hbig
        have hbig : 1000 < v := hbig
        refine go (va_rf (ad v)) (by rw [hb1, hg.2.2.2.2.2.2.2.1 v hbig]; rfl) (tl rfl ls (.ref v :: st) Ls he hl hvl (am_vs.cons (Or.inr hbig) hst))
  case iadd =>
    have hlen : len = 1 := hlen
    subst hlen
    obtain ⟨x1, y1, r, rfl, he⟩ := am_i2_inv he
    exact lv_iadd hx hb hd (tl rfl ls (.int (x1 + y1) :: r) Ls he hl hvl (am_vs.cons trivial hst.tl.tl))
  case isub =>
    have hlen : len = 1 := hlen
    subst hlen
    obtain ⟨x1, y1, r, rfl, he⟩ := am_i2_inv he
    exact lv_isub hx hb hd (tl rfl ls (.int (x1 - y1) :: r) Ls he hl hvl (am_vs.cons trivial hst.tl.tl))
  case imul =>
    have hlen : len = 1 := hlen
    subst hlen
    obtain ⟨x1, y1, r, rfl, he⟩ := am_i2_inv he
    exact lv_imul hx hb hd (tl rfl ls (.int (x1 * y1) :: r) Ls he hl hvl (am_vs.cons trivial hst.tl.tl))
  case iand =>
    have hlen : len = 1 := hlen
    subst hlen
    obtain ⟨x1, y1, r, rfl, he⟩ := am_i2_inv he
    exact lv_iand hx hb hd (tl rfl ls (.int (x1 &&& y1) :: r) Ls he hl hvl (am_vs.cons trivial hst.tl.tl))
  case ior =>
    have hlen : len = 1 := hlen
    subst hlen
    obtain ⟨x1, y1, r, rfl, he⟩ := am_i2_inv he
    exact lv_ior hx hb hd (tl rfl ls (.int (x1 ||| y1) :: r) Ls he hl hvl (am_vs.cons trivial hst.tl.tl))
  case ixor =>
    have hlen : len = 1 := hlen
    subst hlen
    obtain ⟨x1, y1, r, rfl, he⟩ := am_i2_inv he
    exact lv_ixor hx hb hd (tl rfl ls (.int (x1 ^^^ y1) :: r) Ls he hl hvl (am_vs.cons trivial hst.tl.tl))
  case ishl =>
    have hlen : len = 1 := hlen
    subst hlen
    obtain ⟨x1, y1, r, rfl, he⟩ := am_i2_inv he
    exact lv_ishl hx hb hd (tl rfl ls (.int (x1 <<< (y1 &&& 31)) :: r) Ls he hl hvl (am_vs.cons trivial hst.tl.tl))
  case ishr =>
    have hlen : len = 1 := hlen
    subst hlen
    obtain ⟨x1, y1, r, rfl, he⟩ := am_i2_inv he
    exact lv_ishr hx hb hd (tl rfl ls (.int (x1 >>> (y1 &&& 31)) :: r) Ls he hl hvl (am_vs.cons trivial hst.tl.tl))
  case iushr =>
    have hlen : len = 1 := hlen
    subst hlen
    obtain ⟨x1, y1, r, rfl, he⟩ := am_i2_inv he
    exact lv_iushr hx hb hd rfl (tl rfl ls (.int (x1.toUInt32 >>> (y1.toUInt32 &&& Int32.toUInt32 31)).toInt32 :: r) Ls he hl hvl (am_vs.cons trivial hst.tl.tl))
  case idiv =>
    have hlen : len = 1 := hlen
    subst hlen
    obtain ⟨x1, y1, r, rfl, he⟩ := am_i2_inv he
    obtain ⟨hne, he⟩ := am_ite_inv he
    exact lv_idiv hx hb hd hne (tl rfl ls (.int (x1 / y1) :: r) Ls he hl hvl (am_vs.cons trivial hst.tl.tl))
  case irem =>
    have hlen : len = 1 := hlen
    subst hlen
    obtain ⟨x1, y1, r, rfl, he⟩ := am_i2_inv he
    obtain ⟨hne, he⟩ := am_ite_inv he
    exact lv_irem hx hb hd hne (tl rfl ls (.int (x1 - x1 / y1 * y1) :: r) Ls he hl hvl (am_vs.cons trivial hst.tl.tl))
  case ladd =>
    have hlen : len = 1 := hlen
    subst hlen
    obtain ⟨x1, y1, r, rfl, he⟩ := am_j2_inv he
    exact lv_ladd hx hb hd (tl rfl ls (.long (x1 + y1) :: r) Ls he hl hvl (am_vs.cons trivial hst.tl.tl))
  case lsub =>
    have hlen : len = 1 := hlen
    subst hlen
    obtain ⟨x1, y1, r, rfl, he⟩ := am_j2_inv he
    exact lv_lsub hx hb hd (tl rfl ls (.long (x1 - y1) :: r) Ls he hl hvl (am_vs.cons trivial hst.tl.tl))
  case lmul =>
    have hlen : len = 1 := hlen
    subst hlen
    obtain ⟨x1, y1, r, rfl, he⟩ := am_j2_inv he
    exact lv_lmul hx hb hd (tl rfl ls (.long (x1 * y1) :: r) Ls he hl hvl (am_vs.cons trivial hst.tl.tl))
  case land =>
    have hlen : len = 1 := hlen
    subst hlen
    obtain ⟨x1, y1, r, rfl, he⟩ := am_j2_inv he
    exact lv_land hx hb hd (tl rfl ls (.long (x1 &&& y1) :: r) Ls he hl hvl (am_vs.cons trivial hst.tl.tl))
  case lor =>
    have hlen : len = 1 := hlen
    subst hlen
    obtain ⟨x1, y1, r, rfl, he⟩ := am_j2_inv he
    exact lv_lor hx hb hd (tl rfl ls (.long (x1 ||| y1) :: r) Ls he hl hvl (am_vs.cons trivial hst.tl.tl))
  case lshl =>
    have hlen : len = 1 := hlen
    subst hlen
    obtain ⟨x1, y1, r, rfl, he⟩ := am_ji_inv he
    exact lv_lshl hx hb hd rfl (tl rfl ls (.long (x1 <<< (y1.toInt64 &&& 63)) :: r) Ls he hl hvl (am_vs.cons trivial hst.tl.tl))
  case lshr =>
    have hlen : len = 1 := hlen
    subst hlen
    obtain ⟨x1, y1, r, rfl, he⟩ := am_ji_inv he
    exact lv_lshr hx hb hd rfl (tl rfl ls (.long (x1 >>> (y1.toInt64 &&& 63)) :: r) Ls he hl hvl (am_vs.cons trivial hst.tl.tl))
  case lushr =>
    have hlen : len = 1 := hlen
    subst hlen
    obtain ⟨x1, y1, r, rfl, he⟩ := am_ji_inv he
    exact lv_lushr hx hb hd rfl (tl rfl ls (.long ((x1.toUInt64 >>> (y1.toInt64.toUInt64 &&& Int64.toUInt64 63)).toInt64) :: r) Ls he hl hvl (am_vs.cons trivial hst.tl.tl))
  case lneg =>
    have hlen : len = 1 := hlen
    subst hlen
    obtain ⟨x1, r, rfl, he⟩ := am_j1_inv he
    exact lv_lneg hx hb hd (tl rfl ls (.long (-x1) :: r) Ls he hl hvl (am_vs.cons trivial hst.tl))
  case lcmp =>
    have hlen : len = 1 := hlen
    subst hlen
    obtain ⟨x1, y1, r, rfl, he⟩ := am_j2_inv he
    exact W.lcmp hx hb hd (tl rfl ls (.int (lg_cmp x1 y1) :: r) Ls he hl hvl (am_vs.cons trivial hst.tl.tl))
  case i2l =>
    have hlen : len = 1 := hlen
    subst hlen
    obtain ⟨x1, r, rfl, he⟩ := am_i1_inv he
    exact lv_i2l hx hb hd rfl (tl rfl ls (.long x1.toInt64 :: r) Ls he hl hvl (am_vs.cons trivial hst.tl))
  case l2i =>
    have hlen : len = 1 := hlen
    subst hlen
    obtain ⟨x1, r, rfl, he⟩ := am_j1_inv he
    exact lv_l2i hx hb hd rfl (tl rfl ls (.int x1.toInt32 :: r) Ls he hl hvl (am_vs.cons trivial hst.tl))
  case i2b =>
    have hlen : len = 1 := hlen
    subst hlen
    obtain ⟨x1, r, rfl, he⟩ := am_i1_inv he
    exact lv_i2b hx hb hd rfl (tl rfl ls (.int x1.toInt8.toInt32 :: r) Ls he hl hvl (am_vs.cons trivial hst.tl))
  case i2c =>
    have hlen : len = 1 := hlen
    subst hlen
    obtain ⟨x1, r, rfl, he⟩ := am_i1_inv he
    exact lv_i2c hx hb hd rfl (tl rfl ls (.int (x1.toUInt32 % 65536).toInt32 :: r) Ls he hl hvl (am_vs.cons trivial hst.tl))
  case goto q =>
    have hlen : len = 3 := hlen
    subst hlen
    exact lv_goto hx hb hd (of_decide_eq_true hq) (jm a st he hst)
  case ifCond q y =>
    have hlen : len = 3 := hlen
    subst hlen
    obtain ⟨x1, r, rfl, he⟩ := am_i1_inv he
    exact am_ifc hx hb hd (of_decide_eq_true hq) he (fun z => jm a r z hst.tl) (fun z => tl rfl ls r Ls z hl hvl hst.tl)
  case if_icmp q y =>
    have hlen : len = 3 := hlen
    subst hlen
    obtain ⟨x1, y1, r, rfl, he⟩ := am_i2_inv he
    exact am_ifi hx hb hd (of_decide_eq_true hq) he (fun z => jm a r z hst.tl.tl) (fun z => tl rfl ls r Ls z hl hvl hst.tl.tl)
  case if_acmp q y =>
    have hlen : len = 3 := hlen
    subst hlen
    obtain ⟨x1, y1, r, rfl, he⟩ := am_r2_inv he
    obtain ⟨hk2, he⟩ := am_cond_inv he
    simp only [Bool.and_eq_true, Bool.or_eq_true] at hk2
    have kx : (am_S h x1).1 = 30 ∨ x1 = 0 := hk2.1.imp Nat.eq_of_beq_eq_true Nat.eq_of_beq_eq_true
    have ky : (am_S h y1).1 = 30 ∨ y1 = 0 := hk2.2.imp Nat.eq_of_beq_eq_true Nat.eq_of_beq_eq_true
    have hij : ad x1 = ad y1 → x1 = y1 := am_inj hg hC kx ky
    cases q with
    | eq =>
      simp only [am_abr] at he
      exact lv_acmp_eq hx hb hd (of_decide_eq_true hq) (fun z => jm a r (by rwa [if_pos (hij z)] at he) hst.tl.tl) (fun z => tl rfl ls r Ls (by rwa [if_neg (fun y => z (by rw [y]))] at he) hl hvl hst.tl.tl)
    | ne =>
      simp only [am_abr] at he
      exact lv_acmp_ne hx hb hd (of_decide_eq_true hq) (fun z => jm a r (by rwa [if_neg (fun y => z (by rw [y]))] at he) hst.tl.tl) (fun z => tl rfl ls r Ls (by rwa [if_pos (hij z)] at he) hl hvl hst.tl.tl)
  case ifnull q =>
    have hlen : len = 3 := hlen
    subst hlen
    obtain ⟨x1, r, rfl, he⟩ := am_r1_inv he
    obtain ⟨hk2, he⟩ := am_cond_inv he
    simp only [Bool.or_eq_true] at hk2
    rcases hk2.imp Nat.eq_of_beq_eq_true Nat.eq_of_beq_eq_true with z | z
    · obtain ⟨h1, h2⟩ := am_dead hg (q := x1) (by omega)
      obtain ⟨-, a', h3, -⟩ := hC.1 x1 (by rw [← h1]; exact z)
      have hz : am_cv ad (.ref x1) = .ref a' := by
        show va_rf (ad x1) = _
        rw [hg.2.2.2.2.2.2.2.1 x1 h2, h3]
        rfl
      have hne : x1 ≠ 0 := Nat.ne_of_gt (Nat.zero_lt_of_lt h2)
      rw [if_neg hne] at he
      rw [List.map_cons, hz]
      exact lv_ifnull hx hb hd (tl rfl ls r Ls he hl hvl hst.tl)
    · have hz : am_cv ad (.ref x1) = .null := by
        show va_rf (ad x1) = _
        rw [z, hg.2.1]
        rfl
      rw [if_pos z] at he
      rw [List.map_cons, hz]
      exact lv_ifnullN hx hb hd (of_decide_eq_true hq) (jm a r he hst.tl)
  case ifnonnull q =>
    have hlen : len = 3 := hlen
    subst hlen
    obtain ⟨x1, r, rfl, he⟩ := am_r1_inv he
    obtain ⟨hk2, he⟩ := am_cond_inv he
    simp only [Bool.or_eq_true] at hk2
    rcases hk2.imp Nat.eq_of_beq_eq_true Nat.eq_of_beq_eq_true with z | z
    · obtain ⟨h1, h2⟩ := am_dead hg (q := x1) (by omega)
      obtain ⟨-, a', h3, -⟩ := hC.1 x1 (by rw [← h1]; exact z)
      have hz : am_cv ad (.ref x1) = .ref a' := by
        show va_rf (ad x1) = _
        rw [hg.2.2.2.2.2.2.2.1 x1 h2, h3]
        rfl
      have hne : x1 ≠ 0 := Nat.ne_of_gt (Nat.zero_lt_of_lt h2)
      rw [if_neg hne] at he
      rw [List.map_cons, hz]
      exact lv_ifnonnull hx hb hd (of_decide_eq_true hq) (jm a r he hst.tl)
    · have hz : am_cv ad (.ref x1) = .null := by
        show va_rf (ad x1) = _
        rw [z, hg.2.1]
        rfl
      rw [if_pos z] at he
      rw [List.map_cons, hz]
      exact lv_ifnonnullN hx hb hd (tl rfl ls r Ls he hl hvl hst.tl)
  case dup =>
    have hlen : len = 1 := hlen
    subst hlen
    obtain ⟨x1, r, rfl, h1, he⟩ := am_v1_inv he
    exact lv_dup hx hb hd (by rw [am_cv_cat]; exact h1) (tl rfl ls (x1 :: x1 :: r) Ls he hl hvl (am_vs.cons hst.hd hst))
  case pop =>
    have hlen : len = 1 := hlen
    subst hlen
    obtain ⟨x1, r, rfl, h1, he⟩ := am_v1_inv he
    exact lv_pop hx hb hd (by rw [am_cv_cat]; exact h1) (tl rfl ls r Ls he hl hvl hst.tl)
  case dup2 =>
    have hlen : len = 1 := hlen
    subst hlen
    obtain ⟨y1, x1, r, rfl, he⟩ := am_ir_inv he
    exact lv_dup2_11 hx hb hd rfl (am_rf_cat _) (tl rfl ls (.int y1 :: .ref x1 :: .int y1 :: .ref x1 :: r) Ls he hl hvl (am_vs.cons hst.hd (am_vs.cons hst.tl.hd hst)))
  case invokevirtual q =>
    by_cases hsx : cc = 97 ∨ cc = 98
    · have := hsp i a b cc _ ls st h ad H locs Ls hins ⟨q, Or.inl rfl⟩ hsx he hw hl hvl hst hEad hn hc0 hs0
      rwa [hpc] at this
    · have := hcall i a b cc _ ls st h ad H locs Ls hins ⟨q, Or.inl rfl⟩ hsx he hw hl hvl hst hEad hn hc0 hs0
      rwa [hpc] at this
  case invokespecial q =>
    by_cases hsx : cc = 97 ∨ cc = 98
    · have := hsp i a b cc _ ls st h ad H locs Ls hins ⟨q, Or.inr (Or.inl rfl)⟩ hsx he hw hl hvl hst hEad hn hc0 hs0
      rwa [hpc] at this
    · have := hcall i a b cc _ ls st h ad H locs Ls hins ⟨q, Or.inr (Or.inl rfl)⟩ hsx he hw hl hvl hst hEad hn hc0 hs0
      rwa [hpc] at this
  case invokestatic q =>
    by_cases hsx : cc = 97 ∨ cc = 98
    · have := hsp i a b cc _ ls st h ad H locs Ls hins ⟨q, Or.inr (Or.inr rfl)⟩ hsx he hw hl hvl hst hEad hn hc0 hs0
      rwa [hpc] at this
    · have := hcall i a b cc _ ls st h ad H locs Ls hins ⟨q, Or.inr (Or.inr rfl)⟩ hsx he hw hl hvl hst hEad hn hc0 hs0
      rwa [hpc] at this
  case ireturn =>
    have hlen : len = 1 := hlen
    subst hlen
    obtain ⟨v, rfl, he⟩ := am_o1_inv he
    obtain ⟨z, rfl, he⟩ := am_vI_inv he
    obtain ⟨t, h1, h2, h3⟩ := am_fin_ri he
    obtain ⟨h4, -⟩ := am_fin_inv he
    cases h4
    have h5 : am_ri t = .ireturn := by
      rcases h3 with ⟨_, y, h⟩ | ⟨_, y, h⟩ | ⟨_, y, h⟩ <;> first | exact h | cases y
    have := hend ad H locs Ls pc hEad hw hst.hd (fun _ => he) (by rw [h1, h5]; exact hd)
    rw [h1, am_rs_ne h2] at this
    exact this
  case lreturn =>
    have hlen : len = 1 := hlen
    subst hlen
    obtain ⟨v, rfl, he⟩ := am_o1_inv he
    obtain ⟨z, rfl, he⟩ := am_vJ_inv he
    obtain ⟨t, h1, h2, h3⟩ := am_fin_ri he
    obtain ⟨h4, -⟩ := am_fin_inv he
    cases h4
    have h5 : am_ri t = .lreturn := by
      rcases h3 with ⟨_, y, h⟩ | ⟨_, y, h⟩ | ⟨_, y, h⟩ <;> first | exact h | cases y
    have := hend ad H locs Ls pc hEad hw hst.hd (fun _ => he) (by rw [h1, h5]; exact hd)
    rw [h1, am_rs_ne h2] at this
    exact this
  case areturn =>
    have hlen : len = 1 := hlen
    subst hlen
    obtain ⟨v, rfl, he⟩ := am_o1_inv he
    obtain ⟨z, rfl, he⟩ := am_vR_inv he
    obtain ⟨t, h1, h2, h3⟩ := am_fin_ri he
    obtain ⟨h4, -⟩ := am_fin_inv he
    cases h4
    have h5 : am_ri t = .areturn := by
      rcases h3 with ⟨_, y, h⟩ | ⟨_, y, h⟩ | ⟨_, y, h⟩ <;> first | exact h | cases y
    have := hend ad H locs Ls pc hEad hw hst.hd (fun _ => he) (by rw [h1, h5]; exact hd)
    rw [h1, am_rs_ne h2] at this
    exact this
  case return_ =>
    have hlen : len = 1 := hlen
    subst hlen
    obtain ⟨rfl, he⟩ := am_o0_inv he
    obtain ⟨h1, he⟩ := am_cond_inv he
    have h1 := Nat.eq_of_beq_eq_true h1
    cases he
    have := hend ad H locs Ls pc hEad hw trivial (fun z => absurd h1 z) (by rw [h1]; exact hd)
    rw [h1] at this
    exact this
  case tableswitch d lo hi offs =>
    have hq : (decide ((pc : Int) + d = (am_pc k ((am_sw.getD a []).headD 0) : Int)) && decide (offs.toList.map (fun o => (pc : Int) + o) = (am_sw.getD a []).tail.map (fun t => (am_pc k t : Int))) && decide (lo = (am_gI b).toInt) && decide (hi = lo + offs.size - 1) && decide (0 ≤ lo) && decide (hi < 1000)) = true := hq
    simp only [Bool.and_eq_true, decide_eq_true_eq] at hq
    obtain ⟨⟨⟨⟨⟨q1, q2⟩, q3⟩, q4⟩, q5⟩, q6⟩ := hq
    obtain ⟨x1, r, rfl, he1⟩ := am_i1_inv he
    clear he
    have he := he1
    clear he1
    have hsz : (am_sw.getD a []).tail.length = offs.size := by
      have := congrArg List.length q2
      simpa using this.symm
    have hadd : ∀ j : Nat, j < offs.size → (am_gI b + Int32.ofNat j).toInt = lo + j := fun j hj => by
      rw [Int32.toInt_add, Int32.toInt_ofNat_small (by omega), ← q3]
      have := Int.emod_eq_of_lt (a := lo + j + 2 ^ 31) (b := 2 ^ 32) (by omega) (by omega)
      rw [Int.bmod_eq_of_le (by omega) (by omega)]
    rcases am_sel_inv _ _ he with ⟨j, t, h1, h2, h3⟩ | ⟨h1, h2⟩
    · have hj : j < offs.size := by rw [← hsz]; exact (List.getElem?_eq_some_iff.mp h1).1
      have hx1 : x1.toInt = lo + j := by rw [h2]; exact hadd j hj
      have ho : offs[(x1.toInt - lo).toNat]? = some (offs[j]) := by
        rw [hx1, show (lo + (j : Int) - lo).toNat = j by omega]
        exact Array.getElem?_eq_getElem hj
      have ht : (pc : Int) + offs[j] = (am_pc k t : Int) := by
        have e1 := congrArg (fun z => z[j]?) q2
        simp only [List.getElem?_map, h1, Option.map_some, Array.getElem?_toList, Array.getElem?_eq_getElem hj] at e1
        exact Option.some.inj e1
      exact lv_tableIn hx hb hd (by omega) (by omega) ho ht (jm t r h3 hst.tl)
    · refine lv_tableOut hx hb hd ?_ q1 (jm _ r h2 hst.tl)
      by_cases c1 : x1.toInt < lo
      · exact Or.inl c1
      · refine Or.inr ?_
        by_cases c2 : hi < x1.toInt
        · exact c2
        · exfalso
          refine h1 (x1.toInt - lo).toNat (by rw [hsz]; omega) (Int32.toInt_inj.mp ?_)
          rw [hadd _ (by omega)]
          omega
  case getfield q =>
    have hlen : len = 3 := hlen
    subst hlen
    obtain ⟨q1, r, rfl, he1⟩ := am_r1_inv he
    clear he
    have he := he1
    clear he1
    obtain ⟨hkd, he1⟩ := am_cond_inv he
    clear he
    have he := he1
    clear he1
    replace hkd := Nat.eq_of_beq_eq_true hkd
    unfold am_chx at hq
    dsimp only at hq
    cases hb9 : Nat.ble b 9 with
    | true =>
      rw [hb9, cond_true] at hq
      simp only [Bool.and_eq_true] at hq
      obtain ⟨⟨⟨b1, hl1⟩, hl2⟩, hl3⟩ := hq
      have b1 := Nat.le_of_ble_eq_true b1
      have b9 := Nat.le_of_ble_eq_true hb9
      have ha := Nat.le_of_ble_eq_true hl2
      have hc5 := Nat.eq_of_beq_eq_true hl3
      obtain ⟨ao, hao, z1, z2, hws⟩ := am_at (cA := cA) hg (q := q1) (by omega) (by omega)
      rw [am_ce_obj hkd b9] at hws
      have hok := hg.2.2.2.1 q1 z1 z2
      have hlenf : (am_S h q1).2 = (am_fldD b).2.2 := by
        rcases hok with z | z | z | z | z
        · rw [← hkd]; exact z.2.2
        all_goals omega
      have hcv : am_cv ad (.ref q1) = .ref ao := by show va_rf (ad q1) = _; rw [hao]; rfl
      have go : ∀ v' : Value, am_vd h.2.1.2.2 v' → am_fv ad h q1 b a = am_cv ad v' → am_ex n k (i + 1) ls (v' :: r) h = some (rf, hf) → W p l e R s m args below meth c H locs (h.2.2.1 - c0) (h.2.2.2 - s0) Q (F0 m pc Ls ((Value.ref q1 :: r).map (am_cv ad))) := fun v' hv1 hv2 hv3 => by
        rw [List.map_cons, hcv]
        refine va_get hx hb hts (am_cl_in b1 b9) hown hK hP (q1 - 1) hws (am_cl_at b1 b9) a ha (hts _ (am_lw_in hl1 rfl)) (fun z hz => by rw [← am_own_ok b1 b9 a ha]; exact hz) (v := am_cv ad v') ?_ hd (tl rfl ls (v' :: r) Ls hv3 hl hvl (am_vs.cons hv1 hst.tl))
        rw [hlenf, am_fields_get ha, hv2]
      have hft := am_tk_ok b1 b9 a ha
      have key : cc = 0 ∨ cc = 1 ∨ cc = 2 ∨ cc = 5 ∨ cc = 9 := by
        rw [hc5, ← hft]
        unfold am_tk
        split <;> simp
      unfold am_fv at go
      rw [← hc5] at go
      rcases key with z | z | z | z | z <;> subst z
      · exact go (.int (h.1.1 q1 a)) trivial rfl he
      · exact go (.long (h.1.2.1 q1 a)) trivial rfl he
      · exact go (.ref (h.2.1.1 q1 a)) (hg.2.2.2.2.2.2.2.2 q1 a) rfl he
      · exact go (.int (h.1.1 q1 a)) trivial rfl he
      · cases he
    | false =>
      rw [hb9, cond_false] at hq
      simp only [Bool.and_eq_true, Bool.or_eq_true] at hq
      obtain ⟨⟨⟨hbk, hl1⟩, hl3⟩, hl4⟩ := hq
      have hbk : b = 30 ∨ b = 31 := hbk.imp Nat.eq_of_beq_eq_true Nat.eq_of_beq_eq_true
      have hc5 := Nat.eq_of_beq_eq_true hl3
      obtain ⟨hS0, hbig⟩ := am_dead hg (q := q1) (by omega)
      have hk0 : (am_S0 L q1).1 = b := by rw [← hS0]; exact hkd
      have go : ∀ (ao : Nat) (v' : Value), adc q1 = some ao → va_OF (am_cfn b a).1 (am_cfn b a).2.1 (am_cfn b a).2.2 (am_cv ad v') ao A s s.heap → am_vd h.2.1.2.2 v' → am_ex n k (i + 1) ls (v' :: r) h = some (rf, hf) → W p l e R s m args below meth c H locs (h.2.2.1 - c0) (h.2.2.2 - s0) Q (F0 m pc Ls ((Value.ref q1 :: r).map (am_cv ad))) := fun ao v' ha1 hF hv1 hv3 => by
        have hcv : am_cv ad (.ref q1) = .ref ao := by show va_rf (ad q1) = _; rw [hg.2.2.2.2.2.2.2.1 q1 hbig, ha1]; rfl
        rw [List.map_cons, hcv]
        exact vk_getf hx hb hF hS hown (hts _ (am_lw_in hl1 rfl)) (fun _ h => h) hd (tl rfl ls (v' :: r) Ls hv3 hl hvl (am_vs.cons hv1 hst.tl))
      rcases hbk with z | z
      · subst z
        obtain ⟨hR0, ao, hao, -, hF⟩ := hC.1 q1 hk0
        have ha3 : a ≤ 3 := Nat.le_of_ble_eq_true hl4
        have := hF a ha3
        rcases Nat.eq_zero_or_pos a with z | z
        · subst z
          have hc4 : cc = 4 := hc5
          subst hc4
          refine go ao (.ref (am_cR q1 0)) hao ?_ (Or.inr hR0) he
          show va_OF _ _ _ (va_rf (ad (am_cR q1 0))) ao A s s.heap
          rw [hg.2.2.2.2.2.2.2.1 _ hR0]
          exact this
        · have hn0 : Nat.beq a 0 = false := am_nbeq (by omega)
          have hn10 : Nat.beq a 10 = false := am_nbeq (by omega)
          rw [hn0, hn10] at hc5
          have hc3 : cc = 3 := hc5
          subst hc3
          refine go ao (.int (am_cI q1 a)) hao ?_ trivial he
          rw [hn0] at this
          exact this
      · subst z
        obtain ⟨hR0, ao, hao, -, hF1, hF2⟩ := hC.2.2.1 q1 hk0
        have ha3 : (Nat.beq a 10 || Nat.beq a 11) = true := hl4
        simp only [Bool.or_eq_true] at ha3
        rcases ha3 with z | z <;> have z := Nat.eq_of_beq_eq_true z <;> subst z
        · have hc4 : cc = 4 := hc5
          subst hc4
          refine go ao (.ref (am_cR q1 10)) hao ?_ (Or.inr hR0) he
          show va_OF _ _ _ (va_rf (ad (am_cR q1 10))) ao A s s.heap
          rw [hg.2.2.2.2.2.2.2.1 _ hR0]
          exact hF1
        · have hc4 : cc = 3 := hc5
          subst hc4
          exact go ao (.int (am_cI q1 11)) hao hF2 trivial he
  case putfield q =>
    have hlen : len = 3 := hlen
    subst hlen
    obtain ⟨v, q1, r, rfl, he1⟩ := am_vr_inv he
    clear he
    have he := he1
    clear he1
    obtain ⟨hkd, he1⟩ := am_cond_inv he
    clear he
    have he := he1
    clear he1
    replace hkd := Nat.eq_of_beq_eq_true hkd
    have hq : (Nat.ble 1 b && Nat.ble b 9 && am_lw w (.fieldLink (am_own k) q (am_fldD b).1 ((am_fldD b).2.1 a).2.1 ((am_fldD b).2.1 a).2.2.1) && Nat.blt a (am_fldD b).2.2 && Nat.beq cc (am_ft b a) && cond ((am_fldD b).2.1 a).2.2.2 (decide ((am_y k).name = "<init>") && decide (((am_fldD b).2.1 a).1 = am_own k)) true) = true := hq
    simp only [Bool.and_eq_true] at hq
    obtain ⟨⟨⟨⟨⟨b1, hb9⟩, hl1⟩, hl2⟩, hl3⟩, hl4⟩ := hq
    have b1 := Nat.le_of_ble_eq_true b1
    have b9 := Nat.le_of_ble_eq_true hb9
    have ha := Nat.le_of_ble_eq_true hl2
    have hc5 := Nat.eq_of_beq_eq_true hl3
    obtain ⟨ao, hao, z1, z2, hws⟩ := am_at (cA := cA) hg (q := q1) (by omega) (by omega)
    rw [am_ce_obj hkd b9] at hws
    have hok := hg.2.2.2.1 q1 z1 z2
    have hlenf : (am_S h q1).2 = (am_fldD b).2.2 := by
      rcases hok with z | z | z | z | z
      · rw [← hkd]; exact z.2.2
      all_goals omega
    rw [hlenf] at hws
    have hcv : am_cv ad (.ref q1) = .ref ao := by show va_rf (ad q1) = _; rw [hao]; rfl
    have hty := am_ty_ok b1 b9 a ha
    have hft := am_tk_ok b1 b9 a ha
    have go : ∀ h' : am_H, h'.2.1.2 = h.2.1.2 → h'.2.2 = h.2.2 → (∀ z, z ≠ q1 → h'.1.1 z = h.1.1 z) → (∀ z, z ≠ q1 → h'.1.2.1 z = h.1.2.1 z) → (∀ z, z ≠ q1 → h'.1.2.2 z = h.1.2.2 z) → (∀ z, z ≠ q1 → h'.2.1.1 z = h.2.1.1 z) → am_gd L xs adc ad h' → am_fv ad h' q1 b a = am_cv ad v → (∀ j, j ≠ a → am_fv ad h' q1 b j = am_fv ad h q1 b j) → narrow (am_tyD b a) (am_cv ad v) = am_cv ad v → fits (am_tyD b a) (am_cv ad v) = true → am_ex n k (i + 1) ls r h' = some (rf, hf) → W p l e R s m args below meth c H locs (h.2.2.1 - c0) (h.2.2.2 - s0) Q (F0 m pc Ls ((v :: Value.ref q1 :: r).map (am_cv ad))) := fun h' y1 y2 y3 y4 y5 y6 y7 y8 y9 y10 y11 y12 => by
      rw [List.map_cons, List.map_cons, hcv]
      have hws' : am_ws cA ad h' = (am_ws cA ad h).set (q1 - 1) (ao, .inr (b - 1, (am_fields ad h q1 b (am_fldD b).2.2).set a (am_cv ad v))) := by
        have hS' : am_S h' q1 = am_S h q1 := by unfold am_S; rw [y1]
        rw [am_ws_upd z1 hao y1 y3 y4 y5 y6, am_ce_obj (b := b) (by rw [hS']; exact hkd) b9, hS', hlenf, am_fields_set y8 y9]
      have kk : ∀ (H1 : Heap) (locs1 : List Loc), va_P G vwCl ((am_ws cA ad h).set (q1 - 1) (ao, .inr (b - 1, (am_fields ad h q1 b (am_fldD b).2.2).set a (am_cv ad v)))) H1 → va_D A ((am_ws cA ad h).set (q1 - 1) (ao, .inr (b - 1, (am_fields ad h q1 b (am_fldD b).2.2).set a (am_cv ad v)))) → va_S A s.heap H1 locs1 → W p l e R s m args below meth c H1 locs1 (h.2.2.1 - c0) (h.2.2.2 - s0) Q (F0 m (pc + 3) Ls (r.map (am_cv ad))) := fun H1 locs1 k1 k2 k3 => tw rfl r h' H1 locs1 y12 ⟨by rw [hws']; exact k1, by rw [hws']; exact k2, k3, y7⟩ y1 y2 hst.tl.tl
      cases hfin : ((am_fldD b).2.1 a).2.2.2 with
      | false => exact va_put hx hb hts (am_cl_in b1 b9) (am_tyD b) (am_ty_ok b1 b9) (am_nm_ok b1 b9) hown hK hP hD hS (q1 - 1) hws (am_cl_at b1 b9) a ha (hts _ (am_lw_in hl1 rfl)) (fun z hz => by rw [← am_own_ok b1 b9 a ha]; exact hz) hfin hty y10 y11 (by rw [am_fields_len]; exact ha) hd kk
      | true =>
        rw [hfin, cond_true] at hl4
        simp only [Bool.and_eq_true, decide_eq_true_eq] at hl4
        exact va_putF hx hb hts (am_cl_in b1 b9) (am_tyD b) (am_ty_ok b1 b9) (am_nm_ok b1 b9) hown hK hP hD hS (q1 - 1) hws (am_cl_at b1 b9) a ha (hts _ (am_lw_in hl1 rfl)) (fun z hz => by rw [← am_own_ok b1 b9 a ha]; exact hz) hfin (hini hl4.1) hl4.2 hty y10 y11 (by rw [am_fields_len]; exact ha) hd kk
    have hft' : am_tk (am_tyD b a) = cc := hft.trans hc5.symm
    rcases (show cc = 0 ∨ cc = 1 ∨ cc = 2 ∨ cc = 5 ∨ cc = 9 by rw [← hft']; unfold am_tk; split <;> simp) with z | z | z | z | z <;> subst z
    · have hte : am_tyD b a = .int := am_tk_int hft'
      obtain ⟨x1, rfl, he1⟩ := am_vI_inv he
      clear he
      have he := he1
      clear he1
      refine go (am_sI h q1 a x1) rfl rfl (fun z hz => am_up_row _ _ hz) (fun _ _ => rfl) (fun _ _ => rfl) (fun _ _ => rfl) (am_gd_sI hg (by have := hg.2.2.1; omega)) ?_ (fun j hj => ?_) (by rw [hte]; rfl) (by rw [hte]; rfl) he
      · unfold am_fv
        rw [← hc5]
        show Value.int (am_up h.1.1 q1 a x1 q1 a) = _
        rw [am_up_eq, if_pos ⟨rfl, rfl⟩]
        rfl
      · unfold am_fv
        show cond _ _ (cond _ _ (Value.int (am_up h.1.1 q1 a x1 q1 j))) = _
        rw [am_up_eq, if_neg (fun z => hj z.2)]
        rfl
    · have hte : am_tyD b a = .long := am_tk_long hft'
      obtain ⟨x1, rfl, he1⟩ := am_vJ_inv he
      clear he
      have he := he1
      clear he1
      refine go (am_sJ h q1 a x1) rfl rfl (fun _ _ => rfl) (fun z hz => am_up_row _ _ hz) (fun _ _ => rfl) (fun _ _ => rfl) (am_gd_sJ hg) ?_ (fun j hj => ?_) (by rw [hte]; rfl) (by rw [hte]; rfl) he
      · unfold am_fv
        rw [← hc5]
        show Value.long (am_up h.1.2.1 q1 a x1 q1 a) = _
        rw [am_up_eq, if_pos ⟨rfl, rfl⟩]
        rfl
      · unfold am_fv
        show cond _ (Value.long (am_up h.1.2.1 q1 a x1 q1 j)) _ = _
        rw [am_up_eq, if_neg (fun z => hj z.2)]
        rfl
    · have hte : (∃ z, am_tyD b a = .object z) ∨ ∃ z, am_tyD b a = .array z := am_tk_ref hft'
      obtain ⟨x1, rfl, he1⟩ := am_vR_inv he
      clear he
      have he := he1
      clear he1
      have hnr : narrow (am_tyD b a) (va_rf (ad x1)) = va_rf (ad x1) ∧ fits (am_tyD b a) (va_rf (ad x1)) = true := by
        rcases hte with ⟨z, hz⟩ | ⟨z, hz⟩ <;> rw [hz] <;> cases ad x1 <;> exact ⟨rfl, rfl⟩
      refine go (am_sR h q1 a x1) rfl rfl (fun _ _ => rfl) (fun _ _ => rfl) (fun _ _ => rfl) (fun z hz => am_up_row _ _ hz) (am_gd_sR hg hst.hd) ?_ (fun j hj => ?_) hnr.1 hnr.2 he
      · unfold am_fv
        rw [← hc5]
        show va_rf (ad (am_up h.2.1.1 q1 a x1 q1 a)) = _
        rw [am_up_eq, if_pos ⟨rfl, rfl⟩]
        rfl
      · unfold am_fv
        show cond _ _ (cond _ (va_rf (ad (am_up h.2.1.1 q1 a x1 q1 j))) _) = _
        rw [am_up_eq, if_neg (fun z => hj z.2)]
        rfl
    · have hte : am_tyD b a = .boolean := am_tk_boolean hft'
      obtain ⟨x1, rfl, he1⟩ := am_vI_inv he
      clear he
      have he := he1
      clear he1
      obtain ⟨hbit, he1⟩ := am_cond_inv he
      clear he
      have he := he1
      clear he1
      unfold am_bit at hbit
      simp only [Bool.or_eq_true, decide_eq_true_eq] at hbit
      refine go (am_sI h q1 a x1) rfl rfl (fun z hz => am_up_row _ _ hz) (fun _ _ => rfl) (fun _ _ => rfl) (fun _ _ => rfl) (am_gd_sI hg (by have := hg.2.2.1; omega)) ?_ (fun j hj => ?_) (by rw [hte]; rcases hbit with z | z <;> subst z <;> rfl) (by rw [hte]; rcases hbit with z | z <;> subst z <;> rfl) he
      · unfold am_fv
        rw [← hc5]
        show Value.int (am_up h.1.1 q1 a x1 q1 a) = _
        rw [am_up_eq, if_pos ⟨rfl, rfl⟩]
        rfl
      · unfold am_fv
        show cond _ _ (cond _ _ (Value.int (am_up h.1.1 q1 a x1 q1 j))) = _
        rw [am_up_eq, if_neg (fun z => hj z.2)]
        rfl
    · cases he
  case arraylength =>
    have hlen : len = 1 := hlen
    subst hlen
    obtain ⟨q1, r, rfl, he1⟩ := am_r1_inv he
    clear he
    have he := he1
    clear he1
    obtain ⟨hkd, he1⟩ := am_cond_inv he
    clear he
    have he := he1
    clear he1
    simp only [Bool.and_eq_true] at hkd
    have k1 := Nat.le_of_ble_eq_true hkd.1
    have k2 := Nat.le_of_ble_eq_true hkd.2
    have ht := tl rfl ls (.int (nI (am_S h q1).2) :: r) Ls he hl hvl (am_vs.cons trivial hst.tl)
    rw [List.map_cons]
    rcases (show (am_S h q1).1 < 24 ∨ (am_S h q1).1 = 24 ∨ (am_S h q1).1 = 25 ∨ (am_S h q1).1 = 26 ∨ (am_S h q1).1 = 27 by omega) with z | z | z | z | z
    · obtain ⟨ao, hao, z1, z2, hws⟩ := am_at (cA := cA) hg (q := q1) (by omega) z
      have hcv : am_cv ad (.ref q1) = .ref ao := by show va_rf (ad q1) = _; rw [hao]; rfl
      rw [hcv]
      rcases (show (am_S h q1).1 = 20 ∨ (am_S h q1).1 = 21 ∨ (am_S h q1).1 = 22 ∨ (am_S h q1).1 = 23 by omega) with y | y | y | y
      · rw [am_ce_20 y] at hws
        exact va_alen hx hb hK hP (q1 - 1) 0 hws rfl rfl hd ht
      · rw [am_ce_21 y] at hws
        exact va_alen hx hb hK hP (q1 - 1) 1 hws rfl rfl hd ht
      · rw [am_ce_22 y] at hws
        exact va_alen hx hb hK hP (q1 - 1) 2 hws rfl rfl hd ht
      · rw [am_ce_23 y] at hws
        exact va_alen hx hb hK hP (q1 - 1) 3 hws rfl rfl hd ht
    all_goals
      obtain ⟨hS0, hbig⟩ := am_dead hg (q := q1) (by omega)
      have hk0 := hS0 ▸ z
      rw [hS0] at ht
      have hcvg : ∀ ao, adc q1 = some ao → am_cv ad (.ref q1) = .ref ao := fun ao h => by show va_rf (ad q1) = _; rw [hg.2.2.2.2.2.2.2.1 q1 hbig, h]; rfl
    · obtain ⟨y1, y2⟩ := am_S0_24 hk0
      subst y1
      obtain ⟨b0, b1, b2, b3, b4⟩ := hC.2.2.2.2.2.2.1
      rw [hcvg b0 b1]
      rw [y2] at ht
      exact va_slen hx hb b2 b3 b4 hS hd ht
    · obtain ⟨-, a0, y1, y2⟩ := hC.2.2.2.2.2.1 q1 hk0
      rw [hcvg a0 y1]
      exact va_tlen hx hb y2 hS rfl hd ht
    · obtain ⟨a0, y1, y2⟩ := hC.2.2.2.2.1 q1 hk0
      rw [hcvg a0 y1]
      exact va_tlen hx hb y2 hS rfl hd ht
    · obtain ⟨a0, y1, y2⟩ := hC.2.2.2.1 q1 hk0
      rw [hcvg a0 y1]
      exact va_tlen hx hb y2 hS rfl hd ht
  case iaload =>
    have hlen : len = 1 := hlen
    subst hlen
    obtain ⟨j1, q1, r, rfl, he1⟩ := am_ir_inv he
    clear he
    have he := he1
    clear he1
    have hcvg : 1000 < q1 → ∀ ao, adc q1 = some ao → am_cv ad (.ref q1) = .ref ao := fun hbig ao h => by show va_rf (ad q1) = _; rw [hg.2.2.2.2.2.2.2.1 q1 hbig, h]; rfl
    rw [List.map_cons, List.map_cons]
    cases hb1 : (Nat.beq (am_S h q1).1 20 || Nat.beq (am_S h q1).1 24) with
    | true =>
      rw [hb1] at he
      obtain ⟨hin, he1⟩ := am_inb_inv he
      clear he
      have he := he1
      clear he1
      simp only [Bool.or_eq_true] at hb1
      rcases hb1 with hk1 | hk1 <;> have hk1 := Nat.eq_of_beq_eq_true hk1
      · obtain ⟨ao, hao, z1, z2, hws⟩ := am_at (cA := cA) hg (q := q1) (by omega) (by omega)
        have hcv : am_cv ad (.ref q1) = .ref ao := by show va_rf (ad q1) = _; rw [hao]; rfl
        rw [hcv]
        rw [am_ce_20 hk1] at hws
        exact va_iald hx hb hK hP (q1 - 1) 0 hws rfl hin hd (tl rfl ls (.int (h.1.1 q1 j1.toNatClampNeg) :: r) Ls he hl hvl (am_vs.cons trivial hst.tl.tl))
      · obtain ⟨hS0, hbig⟩ := am_dead hg (q := q1) (by omega)
        have hk0 := hS0 ▸ hk1
        obtain ⟨y1, y2⟩ := am_S0_24 hk0
        obtain ⟨b0, b1, b2, b3, b4⟩ := hC.2.2.2.2.2.2.1
        rw [hcvg hbig b0 (by rw [y1]; exact b1)]
        have ht := tl rfl ls (.int (h.1.1 q1 j1.toNatClampNeg) :: r) Ls he hl hvl (am_vs.cons trivial hst.tl.tl)
        rw [y1, hg.2.2.2.2.2.2.1] at ht
        rw [hS0, y2] at hin
        exact va_sld hx hb b2 b3 b4 hS hin hd ht
    | false =>
      rw [hb1] at he
      obtain ⟨hk1, he1⟩ := am_cond_inv he
      clear he
      have he := he1
      clear he1
      obtain ⟨hin, he1⟩ := am_inb_inv he
      clear he
      have he := he1
      clear he1
      have hk1 := Nat.eq_of_beq_eq_true hk1
      obtain ⟨hS0, hbig⟩ := am_dead hg (q := q1) (by omega)
      have hk0 := hS0 ▸ hk1
      obtain ⟨a0, y1, y2⟩ := hC.2.2.2.2.1 q1 hk0
      rw [hcvg hbig a0 y1]
      rw [hS0] at hin
      exact va_ti hx hb y2 hS hin rfl hd (tl rfl ls (.int (am_cI q1 j1.toNatClampNeg) :: r) Ls he hl hvl (am_vs.cons trivial hst.tl.tl))
  case baload =>
    have hlen : len = 1 := hlen
    subst hlen
    obtain ⟨j1, q1, r, rfl, he1⟩ := am_ir_inv he
    clear he
    have he := he1
    clear he1
    have hcvg : 1000 < q1 → ∀ ao, adc q1 = some ao → am_cv ad (.ref q1) = .ref ao := fun hbig ao h => by show va_rf (ad q1) = _; rw [hg.2.2.2.2.2.2.2.1 q1 hbig, h]; rfl
    rw [List.map_cons, List.map_cons]
    cases hb1 : Nat.beq (am_S h q1).1 21 with
    | true =>
      rw [hb1] at he
      obtain ⟨hin, he1⟩ := am_inb_inv he
      clear he
      have he := he1
      clear he1
      have hk1 := Nat.eq_of_beq_eq_true hb1
      obtain ⟨ao, hao, z1, z2, hws⟩ := am_at (cA := cA) hg (q := q1) (by omega) (by omega)
      have hcv : am_cv ad (.ref q1) = .ref ao := by show va_rf (ad q1) = _; rw [hao]; rfl
      rw [hcv]
      rw [am_ce_21 hk1] at hws
      exact va_zald hx hb hK hP (q1 - 1) 1 hws rfl hin hd (tl rfl ls (.int (h.1.1 q1 j1.toNatClampNeg) :: r) Ls he hl hvl (am_vs.cons trivial hst.tl.tl))
    | false =>
      rw [hb1] at he
      obtain ⟨hk1, he1⟩ := am_cond_inv he
      clear he
      have he := he1
      clear he1
      obtain ⟨hin, he1⟩ := am_inb_inv he
      clear he
      have he := he1
      clear he1
      have hk1 := Nat.eq_of_beq_eq_true hk1
      obtain ⟨hS0, hbig⟩ := am_dead hg (q := q1) (by omega)
      have hk0 := hS0 ▸ hk1
      obtain ⟨a0, y1, y2⟩ := hC.2.2.2.1 q1 hk0
      rw [hcvg hbig a0 y1]
      rw [hS0] at hin
      exact va_tb hx hb y2 hS hin rfl hd (tl rfl ls (.int (am_cI q1 j1.toNatClampNeg) :: r) Ls he hl hvl (am_vs.cons trivial hst.tl.tl))
  case laload =>
    have hlen : len = 1 := hlen
    subst hlen
    obtain ⟨j1, q1, r, rfl, he1⟩ := am_ir_inv he
    clear he
    have he := he1
    clear he1
    have hcvg : 1000 < q1 → ∀ ao, adc q1 = some ao → am_cv ad (.ref q1) = .ref ao := fun hbig ao h => by show va_rf (ad q1) = _; rw [hg.2.2.2.2.2.2.2.1 q1 hbig, h]; rfl
    rw [List.map_cons, List.map_cons]
    obtain ⟨hk1, he1⟩ := am_cond_inv he
    clear he
    have he := he1
    clear he1
    obtain ⟨hin, he1⟩ := am_inb_inv he
    clear he
    have he := he1
    clear he1
    have hk1 := Nat.eq_of_beq_eq_true hk1
    obtain ⟨ao, hao, z1, z2, hws⟩ := am_at (cA := cA) hg (q := q1) (by omega) (by omega)
    have hcv : am_cv ad (.ref q1) = .ref ao := by show va_rf (ad q1) = _; rw [hao]; rfl
    rw [hcv]
    rw [am_ce_22 hk1] at hws
    exact va_lald hx hb hK hP (q1 - 1) 2 hws rfl hin hd (tl rfl ls (.long (h.1.2.1 q1 j1.toNatClampNeg) :: r) Ls he hl hvl (am_vs.cons trivial hst.tl.tl))
  case aaload =>
    have hlen : len = 1 := hlen
    subst hlen
    obtain ⟨j1, q1, r, rfl, he1⟩ := am_ir_inv he
    clear he
    have he := he1
    clear he1
    have hcvg : 1000 < q1 → ∀ ao, adc q1 = some ao → am_cv ad (.ref q1) = .ref ao := fun hbig ao h => by show va_rf (ad q1) = _; rw [hg.2.2.2.2.2.2.2.1 q1 hbig, h]; rfl
    rw [List.map_cons, List.map_cons]
    cases hb1 : Nat.beq (am_S h q1).1 23 with
    | true =>
      rw [hb1] at he
      obtain ⟨hin, he1⟩ := am_inb_inv he
      clear he
      have he := he1
      clear he1
      have hk1 := Nat.eq_of_beq_eq_true hb1
      have hvT : am_vd h.2.1.2.2 (.ref (h.1.2.2 q1 j1.toNatClampNeg)) := by
        rcases hg.2.2.2.2.2.1 q1 j1.toNatClampNeg hk1 with z | z
        · exact Or.inl (by rw [z]; exact Nat.zero_le _)
        · exact Or.inr (am_dead hg (by omega)).2
      obtain ⟨ao, hao, z1, z2, hws⟩ := am_at (cA := cA) hg (q := q1) (by omega) (by omega)
      have hcv : am_cv ad (.ref q1) = .ref ao := by show va_rf (ad q1) = _; rw [hao]; rfl
      rw [hcv]
      rw [am_ce_23 hk1] at hws
      exact va_aldq hx hb hK hP (q1 - 1) 3 hws rfl hin hd (tl rfl ls (.ref (h.1.2.2 q1 j1.toNatClampNeg) :: r) Ls he hl hvl (am_vs.cons hvT hst.tl.tl))
    | false =>
      rw [hb1] at he
      obtain ⟨hk1, he1⟩ := am_cond_inv he
      clear he
      have he := he1
      clear he1
      obtain ⟨hin, he1⟩ := am_inb_inv he
      clear he
      have he := he1
      clear he1
      have hk1 := Nat.eq_of_beq_eq_true hk1
      obtain ⟨hS0, hbig⟩ := am_dead hg (q := q1) (by omega)
      have hk0 := hS0 ▸ hk1
      obtain ⟨hr0, a0, y1, y2⟩ := hC.2.2.2.2.2.1 q1 hk0
      rw [hcvg hbig a0 y1]
      rw [hS0] at hin
      have ht := tl rfl ls (.ref (am_cR q1 j1.toNatClampNeg) :: r) Ls he hl hvl (am_vs.cons (Or.inr (hr0 _)) hst.tl.tl)
      exact vb_tq hx hb y2 hS hin (v := va_rf (ad (am_cR q1 j1.toNatClampNeg))) (by rw [hg.2.2.2.2.2.2.2.1 _ (hr0 _)]) hd ht
  case iastore =>
    have hlen : len = 1 := hlen
    subst hlen
    obtain ⟨x1, j1, q1, r, rfl, he1⟩ := am_iir_inv he
    clear he
    have he := he1
    clear he1
    obtain ⟨hk1, he1⟩ := am_cond_inv he
    clear he
    have he := he1
    clear he1
    obtain ⟨hin, he1⟩ := am_inb_inv he
    clear he
    have he := he1
    clear he1
    have hk1 := Nat.eq_of_beq_eq_true hk1
    obtain ⟨ao, hao, z1, z2, hws⟩ := am_at (cA := cA) hg (q := q1) (by omega) (by omega)
    have hcv : am_cv ad (.ref q1) = .ref ao := by show va_rf (ad q1) = _; rw [hao]; rfl
    rw [List.map_cons, List.map_cons, List.map_cons, hcv]
    rw [am_ce_20 hk1] at hws
    have hrow := am_up_upd h.1.1 q1 j1.toNatClampNeg x1
    have hws' : am_ws cA ad (am_sI h q1 j1.toNatClampNeg x1) = (am_ws cA ad h).set (q1 - 1) (ao, .inl (cA 0, (am_S h q1).2, .inl (upd (h.1.1 q1) j1.toNatClampNeg x1))) := by
      rw [← hrow, am_ws_upd (h := h) (h' := am_sI h q1 j1.toNatClampNeg x1) z1 hao rfl (fun z hz => am_up_row _ _ hz) (fun _ _ => rfl) (fun _ _ => rfl) (fun _ _ => rfl), am_ce_20 (h := am_sI h q1 j1.toNatClampNeg x1) hk1]
      rfl
    exact va_iast hx hb hK hP hD hS (q1 - 1) 0 hws rfl hin hd (fun H1 locs1 k1 k2 k3 => tw rfl r _ H1 locs1 he ⟨by rw [hws']; exact k1, by rw [hws']; exact k2, k3, am_gd_sI hg (by have := hg.2.2.1; omega)⟩ rfl rfl hst.tl.tl.tl)
  case bastore =>
    have hlen : len = 1 := hlen
    subst hlen
    obtain ⟨x1, j1, q1, r, rfl, he1⟩ := am_iir_inv he
    clear he
    have he := he1
    clear he1
    obtain ⟨hk1, he1⟩ := am_cond_inv he
    clear he
    have he := he1
    clear he1
    obtain ⟨hin, he1⟩ := am_inb_inv he
    clear he
    have he := he1
    clear he1
    have hk1 := Nat.eq_of_beq_eq_true hk1
    obtain ⟨ao, hao, z1, z2, hws⟩ := am_at (cA := cA) hg (q := q1) (by omega) (by omega)
    have hcv : am_cv ad (.ref q1) = .ref ao := by show va_rf (ad q1) = _; rw [hao]; rfl
    rw [List.map_cons, List.map_cons, List.map_cons, hcv]
    rw [am_ce_21 hk1] at hws
    obtain ⟨hbit, he1⟩ := am_cond_inv he
    clear he
    have he := he1
    clear he1
    unfold am_bit at hbit
    simp only [Bool.or_eq_true, decide_eq_true_eq] at hbit
    have hnar : vp_nar .boolean x1 = x1 := by rcases hbit with z | z <;> subst z <;> rfl
    have hrow : am_up h.1.1 q1 j1.toNatClampNeg x1 q1 = upd (h.1.1 q1) j1.toNatClampNeg (vp_nar .boolean x1) := by rw [hnar]; exact am_up_upd h.1.1 q1 j1.toNatClampNeg x1
    have hws' : am_ws cA ad (am_sI h q1 j1.toNatClampNeg x1) = (am_ws cA ad h).set (q1 - 1) (ao, .inl (cA 1, (am_S h q1).2, .inl (upd (h.1.1 q1) j1.toNatClampNeg (vp_nar .boolean x1)))) := by
      rw [← hrow, am_ws_upd (h := h) (h' := am_sI h q1 j1.toNatClampNeg x1) z1 hao rfl (fun z hz => am_up_row _ _ hz) (fun _ _ => rfl) (fun _ _ => rfl) (fun _ _ => rfl), am_ce_21 (h := am_sI h q1 j1.toNatClampNeg x1) hk1]
      rfl
    exact va_zast hx hb hK hP hD hS (q1 - 1) 1 hws rfl hin hd (fun H1 locs1 k1 k2 k3 => tw rfl r _ H1 locs1 he ⟨by rw [hws']; exact k1, by rw [hws']; exact k2, k3, am_gd_sI hg (by have := hg.2.2.1; omega)⟩ rfl rfl hst.tl.tl.tl)
  case lastore =>
    have hlen : len = 1 := hlen
    subst hlen
    obtain ⟨x1, j1, q1, r, rfl, he1⟩ := am_jir_inv he
    clear he
    have he := he1
    clear he1
    obtain ⟨hk1, he1⟩ := am_cond_inv he
    clear he
    have he := he1
    clear he1
    obtain ⟨hin, he1⟩ := am_inb_inv he
    clear he
    have he := he1
    clear he1
    have hk1 := Nat.eq_of_beq_eq_true hk1
    obtain ⟨ao, hao, z1, z2, hws⟩ := am_at (cA := cA) hg (q := q1) (by omega) (by omega)
    have hcv : am_cv ad (.ref q1) = .ref ao := by show va_rf (ad q1) = _; rw [hao]; rfl
    rw [List.map_cons, List.map_cons, List.map_cons, hcv]
    rw [am_ce_22 hk1] at hws
    have hrow := am_up_updL h.1.2.1 q1 j1.toNatClampNeg x1
    have hws' : am_ws cA ad (am_sJ h q1 j1.toNatClampNeg x1) = (am_ws cA ad h).set (q1 - 1) (ao, .inl (cA 2, (am_S h q1).2, .inr (.inl (vp_updL (h.1.2.1 q1) j1.toNatClampNeg x1)))) := by
      rw [← hrow, am_ws_upd (h := h) (h' := am_sJ h q1 j1.toNatClampNeg x1) z1 hao rfl (fun _ _ => rfl) (fun z hz => am_up_row _ _ hz) (fun _ _ => rfl) (fun _ _ => rfl), am_ce_22 (h := am_sJ h q1 j1.toNatClampNeg x1) hk1]
      rfl
    exact va_last hx hb hK hP hD hS (q1 - 1) 2 hws rfl hin hd (fun H1 locs1 k1 k2 k3 => tw rfl r _ H1 locs1 he ⟨by rw [hws']; exact k1, by rw [hws']; exact k2, k3, am_gd_sJ hg⟩ rfl rfl hst.tl.tl.tl)
  case aastore =>
    have hlen : len = 1 := hlen
    subst hlen
    obtain ⟨x1, j1, q1, r, rfl, he1⟩ := am_rir_inv he
    clear he
    have he := he1
    clear he1
    obtain ⟨hk1, he1⟩ := am_cond_inv he
    clear he
    have he := he1
    clear he1
    obtain ⟨hin, he1⟩ := am_inb_inv he
    clear he
    have he := he1
    clear he1
    have hk1 := Nat.eq_of_beq_eq_true hk1
    obtain ⟨ao, hao, z1, z2, hws⟩ := am_at (cA := cA) hg (q := q1) (by omega) (by omega)
    have hcv : am_cv ad (.ref q1) = .ref ao := by show va_rf (ad q1) = _; rw [hao]; rfl
    rw [List.map_cons, List.map_cons, List.map_cons, hcv]
    rw [am_ce_23 hk1] at hws
    obtain ⟨hk3, he1⟩ := am_cond_inv he
    clear he
    have he := he1
    clear he1
    have hk3 := Nat.eq_of_beq_eq_true hk3
    obtain ⟨hS0, hbig⟩ := am_dead hg (q := x1) (by omega)
    have hk0 := hS0 ▸ hk3
    obtain ⟨-, av, y1, y2, -⟩ := hC.1 x1 hk0
    have hxa : ad x1 = some av := by rw [hg.2.2.2.2.2.2.2.1 x1 hbig, y1]
    have hcv2 : am_cv ad (.ref x1) = .ref av := by show va_rf (ad x1) = _; rw [hxa]; rfl
    rw [hcv2]
    have hany : va_Any "ScanChart$Op" s H av := by
      obtain ⟨cell, e1, e2, e3, -⟩ := y2.kept hS.2.1
      obtain ⟨kC, hkC, -⟩ := Vm.findClass_spec e3
      exact ⟨cell, e1, e2, ⟨kC, hkC⟩, fun comp hc => by
        have : comp = cell.cls := Option.some.inj (hc.symm.trans e3)
        rw [this]
        exact va_asg _ _⟩
    have hrow : (fun j => ad (am_up h.1.2.2 q1 j1.toNatClampNeg x1 q1 j)) = va_up (fun j => ad (h.1.2.2 q1 j)) j1.toNatClampNeg (some av) := by
      funext j
      rw [am_up_eq]
      unfold va_up
      by_cases c : j = j1.toNatClampNeg
      · rw [if_pos ⟨rfl, c⟩, if_pos c, hxa]
      · rw [if_neg (fun z => c z.2), if_neg c]
    have hws' : am_ws cA ad (am_sT h q1 j1.toNatClampNeg x1) = (am_ws cA ad h).set (q1 - 1) (ao, .inl (cA 3, (am_S h q1).2, .inr (.inr (.inr (.inr (va_up (fun j => ad (h.1.2.2 q1 j)) j1.toNatClampNeg (some av))))))) := by
      rw [← hrow, am_ws_upd (h := h) (h' := am_sT h q1 j1.toNatClampNeg x1) z1 hao rfl (fun _ _ => rfl) (fun _ _ => rfl) (fun z hz => am_up_row _ _ hz) (fun _ _ => rfl), am_ce_23 (h := am_sT h q1 j1.toNatClampNeg x1) hk1]
      rfl
    exact va_astqM hx hb hK hP hD hS (q1 - 1) 3 hws rfl hany hin hd (fun H1 locs1 k1 k2 k3 => tw rfl r _ H1 locs1 he ⟨by rw [hws']; exact k1, by rw [hws']; exact k2, k3, am_gd_sT hg hk3⟩ rfl rfl hst.tl.tl.tl)
  case new q =>
    have hlen : len = 3 := hlen
    subst hlen
    have hq : (Nat.ble 1 a && Nat.ble a 9 && am_lw w (.classLink (am_own k) q (am_fldD a).1) && Nat.beq b (am_fldD a).2.2) = true := hq
    simp only [Bool.and_eq_true] at hq
    obtain ⟨⟨⟨b1, b9⟩, hl1⟩, hl2⟩ := hq
    have b1 := Nat.le_of_ble_eq_true b1
    have b9 := Nat.le_of_ble_eq_true b9
    have hbN := Nat.eq_of_beq_eq_true hl2
    obtain ⟨hn1, he1⟩ := am_cond_inv he
    clear he
    have he := he1
    clear he1
    have hn1 := Nat.le_of_ble_eq_true hn1
    have hokk : am_okk (a, b) := Or.inl ⟨b1, b9, hbN⟩
    have hMx := am_Mex n _ _ _ _ _ _ _ he
    have hM1 : h.2.2.1 + 1 ≤ hf.2.2.1 := hMx.1
    have hM2 : h.2.2.2 + b ≤ hf.2.2.2 := hMx.2.1
    have nxt : ∀ (q1 : Nat) (H1 : Heap), va_P G vwCl (am_ws cA (am_adN ad (h.2.1.2.2 + 1) q1) (am_new h a (b))) H1 → va_D A (am_ws cA (am_adN ad (h.2.1.2.2 + 1) q1) (am_new h a (b))) → va_S A s.heap H1 locs → W p l e R s m args below meth c H1 locs (h.2.2.1 - c0 + 1) (h.2.2.2 - s0 + (b)) Q (F0 m (pc + 3) Ls (.ref q1 :: st.map (am_cv ad))) := fun q1 H1 k1 k2 k3 => by
      have had : ∀ q, q ≤ h.2.1.2.2 → am_adN ad (h.2.1.2.2 + 1) q1 q = ad q := fun q hq => am_adN_ne (by omega)
      have had2 : ∀ q, 1000 < q → am_adN ad (h.2.1.2.2 + 1) q1 q = ad q := fun q hq => am_adN_ne (by omega)
      have hle : h.2.1.2.2 ≤ (am_new h a (b)).2.1.2.2 := Nat.le_succ _
      have := IH (i + 1) ls (.ref (h.2.1.2.2 + 1) :: st) (am_new h a (b)) (am_adN ad (h.2.1.2.2 + 1) q1) H1 locs Ls he ⟨k1, k2, k3, am_gd_new hg hokk hn1⟩ (hl.ad had had2 hvl) (hvl.le hle) (am_vs.cons (Or.inl (Nat.le_refl _)) (hst.le hle)) (hE ad _ h.2.1.2.2 hn hEad had) (Nat.le_succ_of_le hn) (Nat.le_succ_of_le hc0) (Nat.le_trans hs0 (Nat.le_add_right _ _))
      rw [hnx rfl, List.map_cons, am_cvs_eq had had2 hst, show am_cv (am_adN ad (h.2.1.2.2 + 1) q1) (.ref (h.2.1.2.2 + 1)) = .ref q1 by show va_rf _ = _; rw [am_adN_eq]; rfl] at this
      have e1 : (am_new h a (b)).2.2.1 - c0 = h.2.2.1 - c0 + 1 := by show h.2.2.1 + 1 - c0 = _; omega
      have e2 : (am_new h a (b)).2.2.2 - s0 = h.2.2.2 - s0 + (b) := by show h.2.2.2 + (b) - s0 = _; omega
      rw [e1, e2] at this
      exact this
    
    refine va_new hx hb hts (am_cl_in b1 b9) (am_tyD a) (am_ty_ok b1 b9) hown (hts _ (am_lw_in hl1 rfl)) (hts _ (am_inst_ok b1 b9)) (hts _ (am_init_ok b1 b9)) hK hP hD hS hA (am_cl_at b1 b9) (fs := (List.range b).map fun j => defaultValue (am_tyD a j)) (fun j hj => ?_) (by omega) (by rw [← hbN]; omega) hd (fun q1 H1 k1 k2 k3 => ?_)
    · unfold vp_V
      rw [List.getD_eq_getElem?_getD, List.getElem?_map, List.getElem?_range (by rw [hbN]; exact hj)]
      rfl
    · have hws : am_ws cA (am_adN ad (h.2.1.2.2 + 1) q1) (am_new h a b) = am_ws cA ad h ++ [(q1, .inr (a - 1, (List.range b).map fun j => defaultValue (am_tyD a j)))] := by
        rw [am_ws_new hg hn1, am_ce_obj (b := a) (by rw [am_S_new_eq]) b9, am_S_new_eq, am_fields_new hg b1 b9 (by rw [hbN]; exact Nat.le_refl _)]
      rw [← hbN]
      exact nxt q1 H1 (by rw [hws]; exact k1) (by rw [hws]; exact k2) k3
  case newarray t =>
    have hlen : len = 2 := hlen
    subst hlen
    obtain ⟨x1, r, rfl, he1⟩ := am_i1_inv he
    clear he
    have he := he1
    clear he1
    obtain ⟨hx0, he1⟩ := am_ite_inv he
    clear he
    have he := he1
    clear he1
    obtain ⟨hx2, he1⟩ := am_ite_inv he
    clear he
    have he := he1
    clear he1
    obtain ⟨hn1, he1⟩ := am_cond_inv he
    clear he
    have he := he1
    clear he1
    have hn1 := Nat.le_of_ble_eq_true hn1
    have hokk : am_okk (a, x1.toNatClampNeg) := by
      have hq : am_chx k pc (.newarray t) a b cc w x = true := hq
      unfold am_chx at hq
      dsimp only at hq
      cases t <;> first | exact Or.inr (Or.inl (Nat.eq_of_beq_eq_true hq)) | exact Or.inr (Or.inr (Or.inl (Nat.eq_of_beq_eq_true hq))) | exact Or.inr (Or.inr (Or.inr (Or.inl (Nat.eq_of_beq_eq_true hq)))) | cases hq
    have hMx := am_Mex n _ _ _ _ _ _ _ he
    have hM1 : h.2.2.1 + 1 ≤ hf.2.2.1 := hMx.1
    have hM2 : h.2.2.2 + x1.toNatClampNeg ≤ hf.2.2.2 := hMx.2.1
    have nxt : ∀ (q1 : Nat) (H1 : Heap), va_P G vwCl (am_ws cA (am_adN ad (h.2.1.2.2 + 1) q1) (am_new h a (x1.toNatClampNeg))) H1 → va_D A (am_ws cA (am_adN ad (h.2.1.2.2 + 1) q1) (am_new h a (x1.toNatClampNeg))) → va_S A s.heap H1 locs → W p l e R s m args below meth c H1 locs (h.2.2.1 - c0 + 1) (h.2.2.2 - s0 + (x1.toNatClampNeg)) Q (F0 m (pc + 2) Ls (.ref q1 :: r.map (am_cv ad))) := fun q1 H1 k1 k2 k3 => by
      have had : ∀ q, q ≤ h.2.1.2.2 → am_adN ad (h.2.1.2.2 + 1) q1 q = ad q := fun q hq => am_adN_ne (by omega)
      have had2 : ∀ q, 1000 < q → am_adN ad (h.2.1.2.2 + 1) q1 q = ad q := fun q hq => am_adN_ne (by omega)
      have hle : h.2.1.2.2 ≤ (am_new h a (x1.toNatClampNeg)).2.1.2.2 := Nat.le_succ _
      have := IH (i + 1) ls (.ref (h.2.1.2.2 + 1) :: r) (am_new h a (x1.toNatClampNeg)) (am_adN ad (h.2.1.2.2 + 1) q1) H1 locs Ls he ⟨k1, k2, k3, am_gd_new hg hokk hn1⟩ (hl.ad had had2 hvl) (hvl.le hle) (am_vs.cons (Or.inl (Nat.le_refl _)) (hst.tl.le hle)) (hE ad _ h.2.1.2.2 hn hEad had) (Nat.le_succ_of_le hn) (Nat.le_succ_of_le hc0) (Nat.le_trans hs0 (Nat.le_add_right _ _))
      rw [hnx rfl, List.map_cons, am_cvs_eq had had2 hst.tl, show am_cv (am_adN ad (h.2.1.2.2 + 1) q1) (.ref (h.2.1.2.2 + 1)) = .ref q1 by show va_rf _ = _; rw [am_adN_eq]; rfl] at this
      have e1 : (am_new h a (x1.toNatClampNeg)).2.2.1 - c0 = h.2.2.1 - c0 + 1 := by show h.2.2.1 + 1 - c0 = _; omega
      have e2 : (am_new h a (x1.toNatClampNeg)).2.2.2 - s0 = h.2.2.2 - s0 + (x1.toNatClampNeg) := by show h.2.2.2 + (x1.toNatClampNeg) - s0 = _; omega
      rw [e1, e2] at this
      exact this
    
    rw [List.map_cons]
    have hq : am_chx k pc (.newarray t) a b cc w x = true := hq
    unfold am_chx at hq
    dsimp only at hq
    have fit : ∀ (ty : FieldType) (t0 : Nat) (cA1 : ClassId), (am_tys cA)[t0]? = some (cA t0, ty) → va_K G vwCl (am_tys cA ++ [(cA1, ty)]) s → (∀ C, ty ≠ .object C) → cA1 = cA t0 := fun ty t0 cA1 h1 h2 h3 => by
      have q1 := (h2.2 4 (cA1, ty) rfl).2
      have q2 := (hK.2 t0 _ h1).2
      have e : ∀ {z : ClassId}, va_RA s z ty → s.vm.findClass ("[" ++ ty.toString) = some z := fun {z} hz => by
        cases ty <;> first | exact hz | exact absurd rfl (h3 _)
      exact Option.some.inj ((e q1).symm.trans (e q2))
    cases t <;> first
      | (cases hq; done)
      | skip
    · have ha : a = 21 := Nat.eq_of_beq_eq_true hq
      subst ha
      refine va_newa (atype := .boolean) hx hb (hts _ am_arr_ok.2.1) (ty := .boolean) rfl hK hP hD hS hA (a0 := (x1.toNatClampNeg, .inl (fun _ => 0))) (fun cA1 => rfl) hx0 rfl (by show x1.toNatClampNeg * 1 ≤ 536870912; omega) (by omega) (by omega) hd (fun q1 cA1 H1 k0 k1 k2 k3 => ?_)
      have hcA := fit .boolean 1 cA1 rfl k0 (fun C z => by cases z)
      have hws : am_ws cA (am_adN ad (h.2.1.2.2 + 1) q1) (am_new h 21 x1.toNatClampNeg) = am_ws cA ad h ++ [(q1, .inl (cA1, x1.toNatClampNeg, .inl (fun _ => 0)))] := by
        rw [am_ws_new hg hn1, am_ce_21 (by rw [am_S_new_eq]), am_S_new_eq, hcA, am_newI]
      exact nxt q1 H1 (by rw [hws]; exact k1) (by rw [hws]; exact k2) k3
    · have ha : a = 20 := Nat.eq_of_beq_eq_true hq
      subst ha
      refine va_newa (atype := .int) hx hb (hts _ am_arr_ok.1) (ty := .int) rfl hK hP hD hS hA (a0 := (x1.toNatClampNeg, .inl (fun _ => 0))) (fun cA1 => rfl) hx0 rfl (by show x1.toNatClampNeg * 4 ≤ 536870912; omega) (by omega) (by omega) hd (fun q1 cA1 H1 k0 k1 k2 k3 => ?_)
      have hcA := fit .int 0 cA1 rfl k0 (fun C z => by cases z)
      have hws : am_ws cA (am_adN ad (h.2.1.2.2 + 1) q1) (am_new h 20 x1.toNatClampNeg) = am_ws cA ad h ++ [(q1, .inl (cA1, x1.toNatClampNeg, .inl (fun _ => 0)))] := by
        rw [am_ws_new hg hn1, am_ce_20 (by rw [am_S_new_eq]), am_S_new_eq, hcA, am_newI]
      exact nxt q1 H1 (by rw [hws]; exact k1) (by rw [hws]; exact k2) k3
    · have ha : a = 22 := Nat.eq_of_beq_eq_true hq
      subst ha
      refine va_newa (atype := .long) hx hb (hts _ am_arr_ok.2.2) (ty := .long) rfl hK hP hD hS hA (a0 := (x1.toNatClampNeg, .inr (.inl (fun _ => 0)))) (fun cA1 => rfl) hx0 rfl (by show x1.toNatClampNeg * 8 ≤ 536870912; omega) (by omega) (by omega) hd (fun q1 cA1 H1 k0 k1 k2 k3 => ?_)
      have hcA := fit .long 2 cA1 rfl k0 (fun C z => by cases z)
      have hws : am_ws cA (am_adN ad (h.2.1.2.2 + 1) q1) (am_new h 22 x1.toNatClampNeg) = am_ws cA ad h ++ [(q1, .inl (cA1, x1.toNatClampNeg, .inr (.inl (fun _ => 0))))] := by
        rw [am_ws_new hg hn1, am_ce_22 (by rw [am_S_new_eq]), am_S_new_eq, hcA, am_newJ]
      exact nxt q1 H1 (by rw [hws]; exact k1) (by rw [hws]; exact k2) k3
  case anewarray q =>
    have hlen : len = 3 := hlen
    subst hlen
    have hq : (Nat.beq a 23 && am_lw w (.classLink (am_own k) q "ScanChart$Op")) = true := hq
    simp only [Bool.and_eq_true] at hq
    have ha : a = 23 := Nat.eq_of_beq_eq_true hq.1
    subst ha
    obtain ⟨x1, r, rfl, he1⟩ := am_i1_inv he
    clear he
    have he := he1
    clear he1
    obtain ⟨hx0, he1⟩ := am_ite_inv he
    clear he
    have he := he1
    clear he1
    obtain ⟨hx2, he1⟩ := am_ite_inv he
    clear he
    have he := he1
    clear he1
    obtain ⟨hn1, he1⟩ := am_cond_inv he
    clear he
    have he := he1
    clear he1
    have hn1 := Nat.le_of_ble_eq_true hn1
    have hokk : am_okk (23, x1.toNatClampNeg) := Or.inr (Or.inr (Or.inr (Or.inr rfl)))
    have hMx := am_Mex n _ _ _ _ _ _ _ he
    have hM1 : h.2.2.1 + 1 ≤ hf.2.2.1 := hMx.1
    have hM2 : h.2.2.2 + x1.toNatClampNeg ≤ hf.2.2.2 := hMx.2.1
    have nxt : ∀ (q1 : Nat) (H1 : Heap), va_P G vwCl (am_ws cA (am_adN ad (h.2.1.2.2 + 1) q1) (am_new h 23 (x1.toNatClampNeg))) H1 → va_D A (am_ws cA (am_adN ad (h.2.1.2.2 + 1) q1) (am_new h 23 (x1.toNatClampNeg))) → va_S A s.heap H1 locs → W p l e R s m args below meth c H1 locs (h.2.2.1 - c0 + 1) (h.2.2.2 - s0 + (x1.toNatClampNeg)) Q (F0 m (pc + 3) Ls (.ref q1 :: r.map (am_cv ad))) := fun q1 H1 k1 k2 k3 => by
      have had : ∀ q, q ≤ h.2.1.2.2 → am_adN ad (h.2.1.2.2 + 1) q1 q = ad q := fun q hq => am_adN_ne (by omega)
      have had2 : ∀ q, 1000 < q → am_adN ad (h.2.1.2.2 + 1) q1 q = ad q := fun q hq => am_adN_ne (by omega)
      have hle : h.2.1.2.2 ≤ (am_new h 23 (x1.toNatClampNeg)).2.1.2.2 := Nat.le_succ _
      have := IH (i + 1) ls (.ref (h.2.1.2.2 + 1) :: r) (am_new h 23 (x1.toNatClampNeg)) (am_adN ad (h.2.1.2.2 + 1) q1) H1 locs Ls he ⟨k1, k2, k3, am_gd_new hg hokk hn1⟩ (hl.ad had had2 hvl) (hvl.le hle) (am_vs.cons (Or.inl (Nat.le_refl _)) (hst.tl.le hle)) (hE ad _ h.2.1.2.2 hn hEad had) (Nat.le_succ_of_le hn) (Nat.le_succ_of_le hc0) (Nat.le_trans hs0 (Nat.le_add_right _ _))
      rw [hnx rfl, List.map_cons, am_cvs_eq had had2 hst.tl, show am_cv (am_adN ad (h.2.1.2.2 + 1) q1) (.ref (h.2.1.2.2 + 1)) = .ref q1 by show va_rf _ = _; rw [am_adN_eq]; rfl] at this
      have e1 : (am_new h 23 (x1.toNatClampNeg)).2.2.1 - c0 = h.2.2.1 - c0 + 1 := by show h.2.2.1 + 1 - c0 = _; omega
      have e2 : (am_new h 23 (x1.toNatClampNeg)).2.2.2 - s0 = h.2.2.2 - s0 + (x1.toNatClampNeg) := by show h.2.2.2 + (x1.toNatClampNeg) - s0 = _; omega
      rw [e1, e2] at this
      exact this
    
    rw [List.map_cons]
    refine va_newq hx hb hown (hts _ (am_lw_in hq.2 rfl)) hC.2.2.2.2.2.2.2.2.2.2.2 hK hP hD hS hA hx0 rfl (by omega) (by omega) (by omega) hd (fun q1 cA1 H1 k0 k1 k2 k3 => ?_)
    have hcA : cA1 = cA 3 := by
      obtain ⟨-, _, _, -, -, -, e1⟩ := k0.2 4 (cA1, .object "ScanChart$Op") rfl
      obtain ⟨-, _, _, -, -, -, e2⟩ := hK.2 3 (cA 3, .object "ScanChart$Op") rfl
      exact Option.some.inj (e1.symm.trans e2)
    have hws : am_ws cA (am_adN ad (h.2.1.2.2 + 1) q1) (am_new h 23 x1.toNatClampNeg) = am_ws cA ad h ++ [(q1, .inl (cA1, x1.toNatClampNeg, .inr (.inr (.inr (.inr (fun _ => none))))))] := by
      rw [am_ws_new hg hn1, am_ce_23 (by rw [am_S_new_eq]), am_S_new_eq, hcA, am_newT hg]
    exact nxt q1 H1 (by rw [hws]; exact k1) (by rw [hws]; exact k2) k3
  all_goals cases he
end AMS

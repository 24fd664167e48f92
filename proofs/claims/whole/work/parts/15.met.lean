/-! THE CONTRACT OF EVERY METHOD of the tables. -/
def am_np1 (m i : Nat) : Bool := match am_ins m i with
  | (ir, _, _, c) => match ir with
    | .invokevirtual _ => !(Nat.beq c 97 || Nat.beq c 98)
    | .invokespecial _ => !(Nat.beq c 97 || Nat.beq c 98)
    | .invokestatic _ => !(Nat.beq c 97 || Nat.beq c 98)
    | _ => true
def am_npp (m : Nat) : Bool := (List.range (16 * (am_cc m).length)).all (am_np1 m)
theorem am_np_all : (List.range 179).all am_npp = true := by decide +kernel
theorem am_np {k : Nat} (hk : k < 179) (i : Nat) : am_np1 k i = true := by
  by_cases h : i < 16 * (am_cc k).length
  · exact List.all_eq_true.mp (List.all_eq_true.mp am_np_all k (List.mem_range.mpr hk)) i (List.mem_range.mpr h)
  · have e : am_ins k i = (.nop, 0, 0, 0) := by
      show (((am_cc k).getD (i / 16) []).getD (i % 16) (.nop, 0, 0, 0)) = _
      rw [show (am_cc k).getD (i / 16) [] = [] by rw [List.getD_eq_getElem?_getD, List.getElem?_eq_none (by omega)]; rfl]
      rfl
    unfold am_np1
    rw [e]
theorem am_tcode_1 {t : Option FieldType} (h : am_tcode t = 1) : t = some .int := by
  cases t with
  | none => cases h
  | some z => cases z <;> first | rfl | cases h
theorem am_tcode_2 {t : Option FieldType} (h : am_tcode t = 2) : t = some .long := by
  cases t with
  | none => cases h
  | some z => cases z <;> first | rfl | cases h
theorem am_tcode_3 {t : Option FieldType} (h : am_tcode t = 3) : ∃ z, t = some (.object z) := by
  cases t with
  | none => cases h
  | some z => cases z <;> first | exact ⟨_, rfl⟩ | cases h
theorem am_tcode_4 {t : Option FieldType} (h : am_tcode t = 4) : t = some .boolean := by
  cases t with
  | none => cases h
  | some z => cases z <;> first | rfl | cases h
theorem am_tcode_5 {t : Option FieldType} (h : am_tcode t = 5) : t = some .char := by
  cases t with
  | none => cases h
  | some z => cases z <;> first | rfl | cases h
theorem am_tcode_6 {t : Option FieldType} (h : am_tcode t = 6) : t = some .byte := by
  cases t with
  | none => cases h
  | some z => cases z <;> first | rfl | cases h
theorem am_nar_char {x : Int32} (h0 : ¬ x < 0) (h1 : ¬ 65535 < x) : narrow .char (.int x) = .int x := by
  obtain ⟨j, hj, rfl⟩ := nI_of h0
  have : j < 65536 := by
    by_cases q : j < 65536
    · exact q
    · exact absurd (show nI 65535 < nI j from nI_lt (by omega) hj) h1
  exact (pk_charN this).1
theorem am_pc0_all : (List.range 180).all (fun k => Nat.beq (am_pc k 0) 0) = true := by decide +kernel
theorem am_pc0 {k : Nat} (hk : k < 179) : am_pc k 0 = 0 := Nat.eq_of_beq_eq_true (List.all_eq_true.mp am_pc0_all k (List.mem_range.mpr (by omega)))
set_option maxHeartbeats 4000000 in
theorem am_met_step (l : Launch) (N : Nat) (HS : ∀ n, n < N → am_Met l n) : am_Met l N := by
  intro k as h h1 r hk hr hexp has G cA L xs adc ad sz hg
  obtain ⟨-, -, -, hty, hplain⟩ := am_mok_at hk
  refine va_MetF (y := am_y k) (ws' := am_good) (cc := am_bc k) (maxL := am_nL k) (ret := am_rty k) hplain rfl ?_
  intro p e s m args below meth c s₁ B hml hPc
  obtain ⟨hargs, hsz, hP, hK, hD0, hC⟩ := hPc
  have hret := B.returns
  have hts : ∀ w ∈ am_good, w.before args s = true := fun w hw => atoms_spec (ws := am_wsm k) B.pre w (List.mem_cons_of_mem _ hw)
  have hcx : am_Ctx p s m args meth c k := ⟨B.exec, B.bytes, hml, findClass_of_methodNamed B.named, hts, fun z => by rw [(name_of_methodNamed B.named B.method).1, z]⟩
  have hx := B.exec
  have hb := B.bytes
  subst hsz
  have hfx : am_Fx G cA L xs adc (va_A (am_ws cA ad h) s.heap.size) s := ⟨hK, hC, fun q hq => Or.inr hq⟩
  have hMx := am_Mex N _ _ _ _ _ _ _ hr
  have hM1 : h.2.2.1 ≤ h1.2.2.1 := hMx.1
  have hM2 : h.2.2.2 ≤ h1.2.2.2 := hMx.2.1
  have hend : am_Hend p l e (headSpec (am_wsm k) (am_rm k h h1)).room s m args below meth c (MQ below (am_Qc G cA L xs adc ad h h1 s.heap.size k r) args s (h1.2.2.1 - h.2.2.1) (h1.2.2.2 - h.2.2.2) (va_A (am_ws cA ad h) s.heap.size)) G cA L xs adc (va_A (am_ws cA ad h) s.heap.size) k (fun ad' => ∀ q, q ≤ h.2.1.2.2 → ad' q = ad q) h.2.2.1 h.2.2.2 r h1 := by
    intro ad' H' locs' Ls' pcr hE hw' hvd hfin hd
    obtain ⟨hP', hD', hS', hg'⟩ := hw'
    have hQ : ∀ t : State, t.heap = H' → s.WarmedH t.vm → am_Qc G cA L xs adc ad h h1 s.heap.size k r args s (.returned (am_rv (am_rt k) (am_cv ad' r))) t := fun t ht _ => ⟨⟨ad', rfl, by rw [ht]; exact hP', hD', hg', hE, hvd⟩, hS'.F ht⟩
    by_cases h0 : am_rt k = 0
    · rw [h0] at hQ hd ⊢
      exact W.vret hx hb (hret.trans (am_tcode_0 (hty.trans h0))) hQ hS'.2.2 hd
    · have hf := hfin h0
      unfold am_fin at hf
      split at hf
      · rename_i e1
        rw [e1] at hQ hd ⊢
        exact W.iret hx hb (hret.trans (am_tcode_1 (hty.trans e1))) hQ hS'.2.2 hd
      · rename_i e1
        rw [e1] at hQ hd ⊢
        exact W.lret hx hb (hret.trans (am_tcode_2 (hty.trans e1))) hQ hS'.2.2 hd
      · rename_i x e1
        rw [e1] at hQ hd ⊢
        obtain ⟨z, hz⟩ := am_tcode_3 (hty.trans e1)
        exact W.aret hx hb (hret.trans hz) (Or.inl ⟨z, rfl⟩) (show va_rf (ad' x) = .null ∨ ∃ a, va_rf (ad' x) = .ref a by cases ad' x; exact Or.inl rfl; exact Or.inr ⟨_, rfl⟩) hQ hS'.2.2 hd
      · rename_i x e1
        rw [e1] at hQ hd ⊢
        obtain ⟨hbit, -⟩ := am_cond_inv hf
        unfold am_bit at hbit
        simp only [Bool.or_eq_true, decide_eq_true_eq] at hbit
        exact W.zret hx hb (hret.trans (am_tcode_4 (hty.trans e1))) (by rcases hbit with z | z <;> subst z <;> rfl) hQ hS'.2.2 hd
      · rename_i x e1
        rw [e1] at hQ hd ⊢
        obtain ⟨q0, hf⟩ := am_ite_inv hf
        obtain ⟨q1, hf⟩ := am_ite_inv hf
        exact W.zret hx hb (hret.trans (am_tcode_5 (hty.trans e1))) (am_nar_char q0 q1) hQ hS'.2.2 hd
      · rename_i x e1
        rw [e1] at hQ hd ⊢
        split at hf
        · rename_i z
          subst z
          exact W.zret hx hb (hret.trans (am_tcode_6 (hty.trans e1))) rfl hQ hS'.2.2 hd
        · cases hf
      · cases hf
  have hG : ∀ j, j ≤ N → am_G p l e (headSpec (am_wsm k) (am_rm k h h1)).room s m args below meth c (MQ below (am_Qc G cA L xs adc ad h h1 s.heap.size k r) args s (h1.2.2.1 - h.2.2.1) (h1.2.2.2 - h.2.2.2) (va_A (am_ws cA ad h) s.heap.size)) G cA L xs adc (va_A (am_ws cA ad h) s.heap.size) k (fun ad' => ∀ q, q ≤ h.2.1.2.2 → ad' q = ad q) h.2.1.2.2 h.2.2.1 h.2.2.2 r h1 j := by
    intro j
    induction j with
    | zero => intro _ i ls st h' ad' H locs Ls he; cases he
    | succ j ih =>
      intro hj
      have IH := ih (by omega)
      have hE : ∀ (ad1 ad2 : Nat → Option Nat) (M : Nat), h.2.1.2.2 ≤ M → (∀ q, q ≤ h.2.1.2.2 → ad1 q = ad q) → (∀ q, q ≤ M → ad2 q = ad1 q) → ∀ q, q ≤ h.2.1.2.2 → ad2 q = ad q := fun ad1 ad2 M z1 z2 z3 q hq => (z3 q (Nat.le_trans hq z1)).trans (z2 q hq)
      have hcc : h1.2.2.1 ≤ h.2.2.1 + (headSpec (am_wsm k) (am_rm k h h1)).room.cells := by show _ ≤ h.2.2.1 + (h1.2.2.1 - h.2.2.1); omega
      have hss : h1.2.2.2 ≤ h.2.2.2 + (headSpec (am_wsm k) (am_rm k h h1)).room.slots := by show _ ≤ h.2.2.2 + (h1.2.2.2 - h.2.2.2); omega
      refine am_sound1 (by omega) (HS j hj) IH hcx hfx hcc hss (Nat.le_refl _) (Nat.le_refl _) hE hend ?_ (am_calls (by omega) (HS j hj) IH hcx hfx hcc hss (Nat.le_refl _) (Nat.le_refl _) hE)
      intro i a b cc ir ls st h' ad' H locs Ls hins hinv hs
      exfalso
      have := am_np hk i
      unfold am_np1 at this
      rw [hins] at this
      obtain ⟨z, y | y | y⟩ := hinv <;> subst y <;> dsimp only at this <;> rcases hs with y | y <;> subst y <;> cases this
  have key := hG N (Nat.le_refl _) 0 (am_ent as (am_nL k)) [] h ad s.heap [] _ hr ⟨hP, hD0.self, va_S.rf, hg⟩ (am_Lr.entry has.long hexp) has.ent am_vs.nil (fun q _ => rfl) (Nat.le_refl _) (Nat.le_refl _) (Nat.le_refl _)
  rw [Nat.sub_self, Nat.sub_self] at key
  rw [hargs, lg_entry_eq]
  rw [← hargs]
  have hpc0 : am_pc k 0 = 0 := am_pc0 hk
  rw [hpc0] at key
  exact key
theorem am_met (l : Launch) : ∀ n, am_Met l n := fun n => Nat.strongRecOn n fun n ih => am_met_step l n ih

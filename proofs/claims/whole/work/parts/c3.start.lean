/-! THE SPECIAL CALLS OF THE LAW; the claim. -/
theorem am_i98 : (List.range (16 * (am_cc 179).length)).all (fun i => !Nat.beq (am_ins 179 i).2.2.2 98 || (Nat.beq i 49 || Nat.beq i 142 || Nat.beq i 174 || Nat.beq i 214 || Nat.beq i 254 || Nat.beq i 292 || Nat.beq i 327 || Nat.beq i 367)) = true := by decide +kernel
theorem sp_at98 {i a b : Nat} {ir : Instr} (hins : am_ins 179 i = (ir, a, b, 98)) : (i = 49 ∧ ir = .invokestatic 48 ∧ a = 0 ∧ b = 4) ∨ (i = 142 ∧ ir = .invokestatic 78 ∧ a = 1 ∧ b = 3) ∨ (i = 174 ∧ ir = .invokestatic 82 ∧ a = 2 ∧ b = 3) ∨ (i = 214 ∧ ir = .invokestatic 86 ∧ a = 3 ∧ b = 4) ∨ (i = 254 ∧ ir = .invokestatic 90 ∧ a = 4 ∧ b = 3) ∨ (i = 292 ∧ ir = .invokestatic 93 ∧ a = 5 ∧ b = 3) ∨ (i = 327 ∧ ir = .invokestatic 96 ∧ a = 6 ∧ b = 3) ∨ (i = 367 ∧ ir = .invokestatic 99 ∧ a = 7 ∧ b = 4) := by
  have hlt : i < 16 * (am_cc 179).length := by
    by_cases z : i < 16 * (am_cc 179).length
    · exact z
    · rw [am_ins_big (by omega)] at hins
      exact absurd (congrArg (fun t => t.2.2.2) hins) (show ¬ (0 : Nat) = 98 by decide)
  have h := List.all_eq_true.mp am_i98 i (List.mem_range.mpr hlt)
  rw [hins] at h
  replace h : (!true || (Nat.beq i 49 || Nat.beq i 142 || Nat.beq i 174 || Nat.beq i 214 || Nat.beq i 254 || Nat.beq i 292 || Nat.beq i 327 || Nat.beq i 367)) = true := h
  simp only [Bool.not_true, Bool.false_or, Bool.or_eq_true] at h
  rcases h with (((((((h | h) | h) | h) | h) | h) | h) | h)
  · have hi := Nat.eq_of_beq_eq_true h
    subst hi
    have e : am_ins 179 49 = (.invokestatic 48, 0, 4, 98) := rfl
    rw [e] at hins
    exact Or.inl (⟨rfl, (congrArg (fun t => t.1) hins).symm, (congrArg (fun t => t.2.1) hins).symm, (congrArg (fun t => t.2.2.1) hins).symm⟩)
  · have hi := Nat.eq_of_beq_eq_true h
    subst hi
    have e : am_ins 179 142 = (.invokestatic 78, 1, 3, 98) := rfl
    rw [e] at hins
    exact Or.inr (Or.inl (⟨rfl, (congrArg (fun t => t.1) hins).symm, (congrArg (fun t => t.2.1) hins).symm, (congrArg (fun t => t.2.2.1) hins).symm⟩))
  · have hi := Nat.eq_of_beq_eq_true h
    subst hi
    have e : am_ins 179 174 = (.invokestatic 82, 2, 3, 98) := rfl
    rw [e] at hins
    exact Or.inr (Or.inr (Or.inl (⟨rfl, (congrArg (fun t => t.1) hins).symm, (congrArg (fun t => t.2.1) hins).symm, (congrArg (fun t => t.2.2.1) hins).symm⟩)))
  · have hi := Nat.eq_of_beq_eq_true h
    subst hi
    have e : am_ins 179 214 = (.invokestatic 86, 3, 4, 98) := rfl
    rw [e] at hins
    exact Or.inr (Or.inr (Or.inr (Or.inl (⟨rfl, (congrArg (fun t => t.1) hins).symm, (congrArg (fun t => t.2.1) hins).symm, (congrArg (fun t => t.2.2.1) hins).symm⟩))))
  · have hi := Nat.eq_of_beq_eq_true h
    subst hi
    have e : am_ins 179 254 = (.invokestatic 90, 4, 3, 98) := rfl
    rw [e] at hins
    exact Or.inr (Or.inr (Or.inr (Or.inr (Or.inl (⟨rfl, (congrArg (fun t => t.1) hins).symm, (congrArg (fun t => t.2.1) hins).symm, (congrArg (fun t => t.2.2.1) hins).symm⟩)))))
  · have hi := Nat.eq_of_beq_eq_true h
    subst hi
    have e : am_ins 179 292 = (.invokestatic 93, 5, 3, 98) := rfl
    rw [e] at hins
    exact Or.inr (Or.inr (Or.inr (Or.inr (Or.inr (Or.inl (⟨rfl, (congrArg (fun t => t.1) hins).symm, (congrArg (fun t => t.2.1) hins).symm, (congrArg (fun t => t.2.2.1) hins).symm⟩))))))
  · have hi := Nat.eq_of_beq_eq_true h
    subst hi
    have e : am_ins 179 327 = (.invokestatic 96, 6, 3, 98) := rfl
    rw [e] at hins
    exact Or.inr (Or.inr (Or.inr (Or.inr (Or.inr (Or.inr (Or.inl (⟨rfl, (congrArg (fun t => t.1) hins).symm, (congrArg (fun t => t.2.1) hins).symm, (congrArg (fun t => t.2.2.1) hins).symm⟩)))))))
  · have hi := Nat.eq_of_beq_eq_true h
    subst hi
    have e : am_ins 179 367 = (.invokestatic 99, 7, 4, 98) := rfl
    rw [e] at hins
    exact Or.inr (Or.inr (Or.inr (Or.inr (Or.inr (Or.inr (Or.inr ((⟨rfl, (congrArg (fun t => t.1) hins).symm, (congrArg (fun t => t.2.1) hins).symm, (congrArg (fun t => t.2.2.1) hins).symm⟩))))))))
theorem am_call98 {K : am_K} {m i a b : Nat} {ls st : List Value} {h : am_H} {w : Value × am_H} (he : am_call K m i ls st h a b 98 = some w) : b ≤ st.length ∧ (st.drop b).length ≤ 4 ∧ am_okw a (st.take b).reverse h (am_thr a (st.take b).reverse (K m (i + 1) ls (.int 1 :: st.drop b) (am_bump h)) (K m (i + 1) ls (.int 2 :: st.drop b) (am_bump h)) (am_run K (am_wm a) (am_win a (st.take b).reverse) h fun rh => am_out a (st.take b).reverse rh.1 rh.2 fun h' => K m (i + 1) ls (.int 0 :: st.drop b) h')) = some w := by
  unfold am_call at he
  obtain ⟨hb2, he1⟩ := am_cond_inv he
  simp only [Bool.and_eq_true] at hb2
  exact ⟨Nat.le_of_ble_eq_true hb2.1, Nat.le_of_ble_eq_true hb2.2, he1⟩
theorem sp_w98_feed : decode (am_bc 179) (am_pc 179 49) = .ok (.invokestatic 48, 3) ∧ am_pc 179 (49 + 1) = am_pc 179 49 + 3 := by decide +kernel
theorem sp_w98_input : decode (am_bc 179) (am_pc 179 142) = .ok (.invokestatic 78, 3) ∧ am_pc 179 (142 + 1) = am_pc 179 142 + 3 := by decide +kernel
theorem sp_w98_scan : decode (am_bc 179) (am_pc 179 174) = .ok (.invokestatic 82, 3) ∧ am_pc 179 (174 + 1) = am_pc 179 174 + 3 := by decide +kernel
theorem sp_w98_run : decode (am_bc 179) (am_pc 179 214) = .ok (.invokestatic 86, 3) ∧ am_pc 179 (214 + 1) = am_pc 179 214 + 3 := by decide +kernel
theorem sp_w98_output : decode (am_bc 179) (am_pc 179 254) = .ok (.invokestatic 90, 3) ∧ am_pc 179 (254 + 1) = am_pc 179 254 + 3 := by decide +kernel
theorem sp_w98_bits : decode (am_bc 179) (am_pc 179 292) = .ok (.invokestatic 93, 3) ∧ am_pc 179 (292 + 1) = am_pc 179 292 + 3 := by decide +kernel
theorem sp_w98_word : decode (am_bc 179) (am_pc 179 327) = .ok (.invokestatic 96, 3) ∧ am_pc 179 (327 + 1) = am_pc 179 327 + 3 := by decide +kernel
theorem sp_w98_block : decode (am_bc 179) (am_pc 179 367) = .ok (.invokestatic 99, 3) ∧ am_pc 179 (367 + 1) = am_pc 179 367 + 3 := by decide +kernel
section AMS
variable {p : Program} {l : Launch} {e : Env} {R : Room} {s : State} {m : MethodId} {args : Array Value} {below : List Frame} {meth : Method} {c : Code} {Q : State → Prop}
theorem sp_98 {G : va_G} {cA : Nat → ClassId} {L : Nat} {xs : Nat → Int32} {adc : Nat → Option Nat} {A : Nat → Prop} {rf : Value} {hf : am_H} {n : Nat} (hl0 : l.stackTraces = false) (hT : sp_T A s) (IH : am_G p l e R s m args below meth c Q G cA L xs adc A 179 (fun _ => True) 0 0 0 rf hf n) (hcx : am_Ctx p s m args meth c 179) (hfx : am_Fx G cA L xs adc A s) (hcc : hf.2.2.1 ≤ R.cells) (hss : hf.2.2.2 ≤ R.slots) (hfr : 10 ≤ R.frames) (hlo : 400 ≤ R.locals)
    {i a b : Nat} {ir : Instr} {ls st : List Value} {h : am_H} {ad : Nat → Option Nat} {H : Heap} {locs : List Loc} {Ls : Array Slot} (hins : am_ins 179 i = (ir, a, b, 98)) (he : am_call (am_ex n) 179 i ls st h a b 98 = some (rf, hf)) (hw : am_Wd G cA L xs adc A s ad h H locs) (hl : am_Lr ad (am_nL 179) ls Ls) (hvl : am_vs h.2.1.2.2 ls) (hst : am_vs h.2.1.2.2 st) :
    W p l e R s m args below meth c H locs (h.2.2.1 - 0) (h.2.2.2 - 0) Q (F0 m (am_pc 179 i) Ls (st.map (am_cv ad))) := by
  obtain ⟨hbl, hr4, he⟩ := am_call98 he
  have hrest : am_vs h.2.1.2.2 (st.drop b) := fun v hv => hst v (List.mem_of_mem_drop hv)
  have has : am_vs h.2.1.2.2 (st.take b).reverse := fun v hv => hst v (List.mem_of_mem_take (List.mem_reverse.mp hv))
  have hstk : st.map (am_cv ad) = ((st.take b).reverse.map (am_cv ad)).reverse ++ (st.drop b).map (am_cv ad) := by
    rw [← List.map_reverse, List.reverse_reverse, ← List.map_append, List.take_append_drop]
  rw [hstk]
  rcases sp_at98 hins with ⟨rfl, rfl, rfl, rfl⟩ | ⟨rfl, rfl, rfl, rfl⟩ | ⟨rfl, rfl, rfl, rfl⟩ | ⟨rfl, rfl, rfl, rfl⟩ | ⟨rfl, rfl, rfl, rfl⟩ | ⟨rfl, rfl, rfl, rfl⟩ | ⟨rfl, rfl, rfl, rfl⟩ | ⟨rfl, rfl, rfl, rfl⟩
  · exact sp8_feed hl0 hT IH hcx hfx hcc hss hfr hlo he has hw hl hvl hrest hr4 sp_w98_feed.1 sp_w98_feed.2
  · exact sp8_input hl0 hT IH hcx hfx hcc hss hfr hlo he has hw hl hvl hrest hr4 sp_w98_input.1 sp_w98_input.2
  · exact sp8_scan hl0 hT IH hcx hfx hcc hss hfr hlo he has hw hl hvl hrest hr4 sp_w98_scan.1 sp_w98_scan.2
  · exact sp8_run hl0 hT IH hcx hfx hcc hss hfr hlo he has hw hl hvl hrest hr4 sp_w98_run.1 sp_w98_run.2
  · exact sp8_output hl0 hT IH hcx hfx hcc hss hfr hlo he has hw hl hvl hrest hr4 sp_w98_output.1 sp_w98_output.2
  · exact sp8_bits hl0 hT IH hcx hfx hcc hss hfr hlo he has hw hl hvl hrest hr4 sp_w98_bits.1 sp_w98_bits.2
  · exact sp8_word hl0 hT IH hcx hfx hcc hss hfr hlo he has hw hl hvl hrest hr4 sp_w98_word.1 sp_w98_word.2
  · exact sp8_block hl0 hT IH hcx hfx hcc hss hfr hlo he has hw hl hvl hrest hr4 sp_w98_block.1 sp_w98_block.2
end AMS
theorem st_vk {s : State} {b : Addr} {A : Nat → Prop} (hfl : ∀ (i : Nat) {w : Cond}, st_fw i = w → w.before #[Value.ref b] s = true) (hA : ∀ a : Nat, a < s.heap.size → ¬ A a) {i k : Nat} {tx : String} (hi : i < 55) (e : st_tS i = .string "ScanChart" k) (hw : (Cond.stringRef "ScanChart" k tx).before #[Value.ref b] s = true) : ∃ q, vk_R "ScanChart" k tx q s := by
  obtain ⟨a, t, h1, -⟩ := st_S1 hfl hA hi
  rw [e] at h1
  exact ⟨a, vk_R.of hw h1⟩
theorem st_T {s : State} {b : Addr} (hts : ∀ w ∈ lw_tbl, w.before #[Value.ref b] s = true) (hgv : (Jvm.Cond.and given_1 narrow_1).before #[Value.ref b] s = true) : sp_T (fun q => s.heap.size ≤ q) s := by
  have hA : ∀ a : Nat, a < s.heap.size → ¬ (fun q => s.heap.size ≤ q) a := fun a h => Nat.not_le.mpr h
  have hfl : ∀ (i : Nat) {w : Cond}, st_fw i = w → w.before #[Value.ref b] s = true := fun i w ew => st_flw hgv i ew
  refine ⟨vx_Zqof (hts _ (List.mem_of_getElem? (i := 748) (by decide +kernel))) (hts _ (List.mem_of_getElem? (i := 87) (by decide +kernel))) (hfl 69 (by decide +kernel)) hA, vx_Zqof (hts _ (List.mem_of_getElem? (i := 750) (by decide +kernel))) (hts _ (List.mem_of_getElem? (i := 87) (by decide +kernel))) (hfl 70 (by decide +kernel)) hA, xt_Fof xt_ok1 hts, xt_Fof xt_ok2 hts, fun U hU => va_Nc.moved (u := s) (U := U) hU.alike (va_Nc.of (hfl 340 (by decide +kernel))), st_vk hfl hA (i := 48) (by decide) rfl (hts _ (List.mem_of_getElem? (i := 761) (by decide +kernel))), st_vk hfl hA (i := 49) (by decide) rfl (hts _ (List.mem_of_getElem? (i := 810) (by decide +kernel))), st_vk hfl hA (i := 50) (by decide) rfl (hts _ (List.mem_of_getElem? (i := 828) (by decide +kernel))), st_vk hfl hA (i := 51) (by decide) rfl (hts _ (List.mem_of_getElem? (i := 979) (by decide +kernel))), st_vk hfl hA (i := 52) (by decide) rfl (hts _ (List.mem_of_getElem? (i := 995) (by decide +kernel))), st_vk hfl hA (i := 53) (by decide) rfl (hts _ (List.mem_of_getElem? (i := 1012) (by decide +kernel))), st_vk hfl hA (i := 54) (by decide) rfl (hts _ (List.mem_of_getElem? (i := 1013) (by decide +kernel)))⟩
theorem whole_start {p : Program} {e : Env} {s : State} {m : MethodId} {below : List Frame} {meth : Method} {c : Code} (l : Launch) (hflags : l.flags = flags0) {b L : Nat} {xs : Nat → Int32} (hL : L ≤ 256) (C0 : lw_At p s m meth c b L xs) : W p l e room_1 s m #[Value.ref b] below meth c s.heap [] 0 0 (lw_Z below #[Value.ref b] s) (entryFrame m ([Value.ref b] : List Value).toArray 7) := by
  obtain ⟨hx, hb, hr, hml, hown, hts, hX, hbl, hlocks, hgv⟩ := id C0
  have hl0 : l.stackTraces = false := by
    unfold Launch.stackTraces
    rw [hflags]
    decide +kernel
  have hT := st_T hts hgv
  have hts' : ∀ w ∈ am_good, w.before #[Value.ref b] s = true := fun w h => hts w (List.mem_filter.mp h).1
  have hcx : am_Ctx p s m #[Value.ref b] meth c 179 := ⟨hx, hb, hml, hown, hts', fun z => absurd z (by decide +kernel)⟩
  refine law_walk l hL C0 (fun G cA hf n hcc hss hfx IH => ?_)
  intro i a b' cc ir ls st h ad H locs Ls hins hinv hs he hw hl hvl hst _ _ _ _
  rcases hs with hs | hs
  · subst hs
    exact sp_97 (am_met l n) IH hcx hfx hcc hss (by decide +kernel) (by decide +kernel) hins he hw hl hvl hst
  · subst hs
    exact sp_98 hl0 hT IH hcx hfx hcc hss (by decide +kernel) (by decide +kernel) hins he hw hl hvl hst

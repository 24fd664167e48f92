/-! isSign IN THE MODEL. -/
theorem lN_and (a b : Nat) : lN a &&& lN b = lN (a &&& b) := Int64.toBitVec_inj.mp (by rw [Int64.toBitVec_and]; exact (BitVec.ofNat_and).symm)
theorem cval_take : ∀ (m : Nat) (l : List Nat), (∀ c, c ∈ l → c < 256) → cval l % 256 ^ m = cval (l.take m)
  | 0, l, _ => by rw [Nat.pow_zero, Nat.mod_one, List.take_zero]; rfl
  | m + 1, [], _ => by rw [List.take_nil]; exact Nat.zero_mod _
  | m + 1, c :: r, h => by
    have hc : c < 256 := h c List.mem_cons_self
    have ih := cval_take m r (fun x hx => h x (List.mem_cons_of_mem _ hx))
    rw [List.take_succ_cons]
    show (c + 256 * cval r) % 256 ^ (m + 1) = c + 256 * cval (r.take m)
    rw [Nat.pow_succ, Nat.mul_comm (256 ^ m) 256, Nat.mod_mul, ← ih, Nat.add_mul_mod_self_left, Nat.mod_eq_of_lt hc, Nat.add_mul_div_left _ _ (by decide), Nat.div_eq_of_lt hc, Nat.zero_add]
theorem mask_ok : ∀ m, m < 8 → ((1 : Int64) <<< (Int32.toInt64 (8 * nI m) &&& 63)) - 1 = lN (2 ^ (8 * m) - 1) := by decide +kernel
theorem mk_and {l : List Nat} {m : Nat} (hl : ∀ c, c ∈ l → c < 256) (hm : m < 8) : lN (cval l) &&& (((1 : Int64) <<< (Int32.toInt64 (8 * nI m) &&& 63)) - 1) = lN (cval (l.take m)) := by
  rw [mask_ok m hm, lN_and, Nat.and_two_pow_sub_one_eq_mod, ← cval_take m l hl]
  congr 2
  rw [show (256 : Nat) = 2 ^ 8 from rfl, ← Nat.pow_mul]
def sgx (l : List Nat) : Int32 := if l = wd 6 then 0 else if l = wd 8 then 1 else if l = wd 10 then 2 else if l = wd 12 then 3 else if l = wd 13 then 4 else if l = wd 14 then 5 else if l = wd 15 then 6 else if l = wd 16 then 7 else if l = wd 17 then 8 else if l = wd 18 then 9 else if l = wd 19 then 10 else if l = wd 20 then 11 else if l = wd 21 then 12 else if l = wd 22 then 13 else -1
theorem mo_sgn (I : Nat → Nat → Int32) (J : Nat → Nat → Int64) (T : Nat → Nat → Nat) (L : Nat) (C : Nat × Nat) {l : List Nat} (hl : ∀ c, c ∈ l → 0 < c ∧ c < 256) : am_E 112 0 [.long (lN (cvl l)), .null] [] (am_W I J T L C) = some (.int (sgx l), (am_W I J T L C)) := by
  rw [rg_112_0]
  unfold sgx
  by_cases e6 : l = wd 6
  · rw [if_pos ((ct (W := wd 6) (y := 4476481) (by decide +kernel) hl (by decide +kernel)).mpr e6), if_pos e6]
  rw [if_neg (fun e => e6 ((ct (W := wd 6) (y := 4476481) (by decide +kernel) hl (by decide +kernel)).mp e)), if_neg e6]
  by_cases e8 : l = wd 8
  · rw [if_pos ((ct (W := wd 8) (y := 21071) (by decide +kernel) hl (by decide +kernel)).mpr e8), if_pos e8]
  rw [if_neg (fun e => e8 ((ct (W := wd 8) (y := 21071) (by decide +kernel) hl (by decide +kernel)).mp e)), if_neg e8]
  by_cases e10 : l = wd 10
  · rw [if_pos ((ct (W := wd 10) (y := 5394264) (by decide +kernel) hl (by decide +kernel)).mpr e10), if_pos e10]
  rw [if_neg (fun e => e10 ((ct (W := wd 10) (y := 5394264) (by decide +kernel) hl (by decide +kernel)).mp e)), if_neg e10]
  by_cases e12 : l = wd 12
  · rw [if_pos ((ct (W := wd 12) (y := 4473921) (by decide +kernel) hl (by decide +kernel)).mpr e12), if_pos e12]
  rw [if_neg (fun e => e12 ((ct (W := wd 12) (y := 4473921) (by decide +kernel) hl (by decide +kernel)).mp e)), if_neg e12]
  by_cases e13 : l = wd 13
  · rw [if_pos ((ct (W := wd 13) (y := 4347219) (by decide +kernel) hl (by decide +kernel)).mpr e13), if_pos e13]
  rw [if_neg (fun e => e13 ((ct (W := wd 13) (y := 4347219) (by decide +kernel) hl (by decide +kernel)).mp e)), if_neg e13]
  by_cases e14 : l = wd 14
  · rw [if_pos ((ct (W := wd 14) (y := 5002573) (by decide +kernel) hl (by decide +kernel)).mpr e14), if_pos e14]
  rw [if_neg (fun e => e14 ((ct (W := wd 14) (y := 5002573) (by decide +kernel) hl (by decide +kernel)).mp e)), if_neg e14]
  by_cases e15 : l = wd 15
  · rw [if_pos ((ct (W := wd 15) (y := 5654852) (by decide +kernel) hl (by decide +kernel)).mpr e15), if_pos e15]
  rw [if_neg (fun e => e15 ((ct (W := wd 15) (y := 5654852) (by decide +kernel) hl (by decide +kernel)).mp e)), if_neg e15]
  by_cases e16 : l = wd 16
  · rw [if_pos ((ct (W := wd 16) (y := 4476749) (by decide +kernel) hl (by decide +kernel)).mpr e16), if_pos e16]
  rw [if_neg (fun e => e16 ((ct (W := wd 16) (y := 4476749) (by decide +kernel) hl (by decide +kernel)).mp e)), if_neg e16]
  by_cases e17 : l = wd 17
  · rw [if_pos ((ct (W := wd 17) (y := 21575) (by decide +kernel) hl (by decide +kernel)).mpr e17), if_pos e17]
  rw [if_neg (fun e => e17 ((ct (W := wd 17) (y := 21575) (by decide +kernel) hl (by decide +kernel)).mp e)), if_neg e17]
  by_cases e18 : l = wd 18
  · rw [if_pos ((ct (W := wd 18) (y := 17735) (by decide +kernel) hl (by decide +kernel)).mpr e18), if_pos e18]
  rw [if_neg (fun e => e18 ((ct (W := wd 18) (y := 17735) (by decide +kernel) hl (by decide +kernel)).mp e)), if_neg e18]
  by_cases e19 : l = wd 19
  · rw [if_pos ((ct (W := wd 19) (y := 20805) (by decide +kernel) hl (by decide +kernel)).mpr e19), if_pos e19]
  rw [if_neg (fun e => e19 ((ct (W := wd 19) (y := 20805) (by decide +kernel) hl (by decide +kernel)).mp e)), if_neg e19]
  by_cases e20 : l = wd 20
  · rw [if_pos ((ct (W := wd 20) (y := 17742) (by decide +kernel) hl (by decide +kernel)).mpr e20), if_pos e20]
  rw [if_neg (fun e => e20 ((ct (W := wd 20) (y := 17742) (by decide +kernel) hl (by decide +kernel)).mp e)), if_neg e20]
  by_cases e21 : l = wd 21
  · rw [if_pos ((ct (W := wd 21) (y := 17740) (by decide +kernel) hl (by decide +kernel)).mpr e21), if_pos e21]
  rw [if_neg (fun e => e21 ((ct (W := wd 21) (y := 17740) (by decide +kernel) hl (by decide +kernel)).mp e)), if_neg e21]
  by_cases e22 : l = wd 22
  · rw [if_pos ((ct (W := wd 22) (y := 21580) (by decide +kernel) hl (by decide +kernel)).mpr e22), if_pos e22]
  rw [if_neg (fun e => e22 ((ct (W := wd 22) (y := 21580) (by decide +kernel) hl (by decide +kernel)).mp e)), if_neg e22]
theorem sgx_wd : ∀ a, a < 17 → sgx (wd (6 + a)) = if oh a = 0 then nI (ow a) else -1 := by decide +kernel
theorem sgx_or (l : List Nat) : (∃ a, a < 17 ∧ oh a = 0 ∧ l = wd (6 + a) ∧ sgx l = nI (ow a)) ∨ (sgx l = -1 ∧ ∀ a, a < 17 → oh a = 0 → l ≠ wd (6 + a)) := by
  by_cases h : ∃ a, a < 17 ∧ oh a = 0 ∧ l = wd (6 + a)
  · obtain ⟨a, h1, h2, h3⟩ := h
    refine Or.inl ⟨a, h1, h2, h3, ?_⟩
    rw [h3, sgx_wd a h1, if_pos h2]
  · have n : ∀ a, a < 17 → oh a = 0 → l ≠ wd (6 + a) := fun a h1 h2 h3 => h ⟨a, h1, h2, h3⟩
    refine Or.inr ⟨?_, n⟩
    unfold sgx
    rw [if_neg (n 0 (by decide) (by decide)), if_neg (n 2 (by decide) (by decide)), if_neg (n 4 (by decide) (by decide)), if_neg (n 6 (by decide) (by decide)), if_neg (n 7 (by decide) (by decide)), if_neg (n 8 (by decide) (by decide)), if_neg (n 9 (by decide) (by decide)), if_neg (n 10 (by decide) (by decide)), if_neg (n 11 (by decide) (by decide)), if_neg (n 12 (by decide) (by decide)), if_neg (n 13 (by decide) (by decide)), if_neg (n 14 (by decide) (by decide)), if_neg (n 15 (by decide) (by decide)), if_neg (n 16 (by decide) (by decide))]
theorem wl_sg : ∀ a, a < 17 → 2 ≤ (wd (6 + a)).length ∧ (wd (6 + a)).length ≤ 4 ∧ (oh a = 1 → (wd (6 + a)).getD ((wd (6 + a)).length - 1) 0 = 78 ∧ ow a ≤ 2 ∧ ∃ b, b < 17 ∧ oh b = 0 ∧ ow b = ow a ∧ (wd (6 + a)).take ((wd (6 + a)).length - 1) = wd (6 + b)) ∧ oh a ≤ 1 ∧ ow a ≤ 13 := by
  intro a h
  rcases (show a = 0 ∨ a = 1 ∨ a = 2 ∨ a = 3 ∨ a = 4 ∨ a = 5 ∨ a = 6 ∨ a = 7 ∨ a = 8 ∨ a = 9 ∨ a = 10 ∨ a = 11 ∨ a = 12 ∨ a = 13 ∨ a = 14 ∨ a = 15 ∨ a = 16 by omega) with rfl | rfl | rfl | rfl | rfl | rfl | rfl | rfl | rfl | rfl | rfl | rfl | rfl | rfl | rfl | rfl | rfl
  · exact ⟨by decide, by decide, fun e => absurd e (by decide), by decide, by decide⟩
  · exact ⟨by decide, by decide, fun _ => ⟨by decide, by decide, 0, by decide, by decide, by decide, by decide⟩, by decide, by decide⟩
  · exact ⟨by decide, by decide, fun e => absurd e (by decide), by decide, by decide⟩
  · exact ⟨by decide, by decide, fun _ => ⟨by decide, by decide, 2, by decide, by decide, by decide, by decide⟩, by decide, by decide⟩
  · exact ⟨by decide, by decide, fun e => absurd e (by decide), by decide, by decide⟩
  · exact ⟨by decide, by decide, fun _ => ⟨by decide, by decide, 4, by decide, by decide, by decide, by decide⟩, by decide, by decide⟩
  · exact ⟨by decide, by decide, fun e => absurd e (by decide), by decide, by decide⟩
  · exact ⟨by decide, by decide, fun e => absurd e (by decide), by decide, by decide⟩
  · exact ⟨by decide, by decide, fun e => absurd e (by decide), by decide, by decide⟩
  · exact ⟨by decide, by decide, fun e => absurd e (by decide), by decide, by decide⟩
  · exact ⟨by decide, by decide, fun e => absurd e (by decide), by decide, by decide⟩
  · exact ⟨by decide, by decide, fun e => absurd e (by decide), by decide, by decide⟩
  · exact ⟨by decide, by decide, fun e => absurd e (by decide), by decide, by decide⟩
  · exact ⟨by decide, by decide, fun e => absurd e (by decide), by decide, by decide⟩
  · exact ⟨by decide, by decide, fun e => absurd e (by decide), by decide, by decide⟩
  · exact ⟨by decide, by decide, fun e => absurd e (by decide), by decide, by decide⟩
  · exact ⟨by decide, by decide, fun e => absurd e (by decide), by decide, by decide⟩
theorem take_last {l : List Nat} {W : List Nat} {m : Nat} (hm : l.length = m + 1) (hW : l.take m = W) (hx : l.getD m 0 = 78) : l = W ++ [78] := by
  have e := List.take_append_drop m l
  rw [← e, hW]
  congr 1
  rw [drop_cons (by omega), hx, List.drop_eq_nil_of_le (by omega)]
theorem wd_n : ∀ a, a < 17 → oh a = 0 → ow a ≤ 2 → wd (6 + a) ++ [78] = wd (6 + (a + 1)) ∧ a + 1 < 17 ∧ oh (a + 1) = 1 ∧ ow (a + 1) = ow a := by
  intro a h h1 h2
  rcases (show a = 0 ∨ a = 1 ∨ a = 2 ∨ a = 3 ∨ a = 4 ∨ a = 5 ∨ 6 ≤ a by omega) with rfl | rfl | rfl | rfl | rfl | rfl | e
  · exact ⟨by decide, by decide, by decide, by decide⟩
  · exact absurd h1 (by decide)
  · exact ⟨by decide, by decide, by decide, by decide⟩
  · exact absurd h1 (by decide)
  · exact ⟨by decide, by decide, by decide, by decide⟩
  · exact absurd h1 (by decide)
  · unfold ow at h2; rw [if_neg (by omega)] at h2; omega
theorem nI_ow_ne {a : Nat} (h : a < 17) : ¬ nI (ow a) = -1 := by
  have q : ∀ i, i < 14 → ¬ nI i = -1 := by decide +kernel
  exact q _ (ow_lt h)
/-- isSign: the sign is found -/
theorem is_sign (I : Nat → Nat → Int32) (J : Nat → Nat → Int64) (T : Nat → Nat → Nat) (L : Nat) (C : Nat × Nat) {tx : Nat → Nat} {N f t g : Nat} (h : TX I 50 49 2 tx N) (hf : MK I f t) (hk : TK tx N 2 f t g) : (∃ a x3 x7 y5, a < 17 ∧ sl tx f (bae tx t) = wd (6 + a) ∧ am_E 114 0 [.ref 49, .long (lN (cod tx f t)), .null, .null, .null, .null, .null, .null, .null, .null] [] (am_W I J T L C) = Option.bind (am_E 115 0 [.ref 49] [] (am_W I J T L C)) (fun z1 => am_vI z1.1 fun u1 => am_E 114 104 [.ref 49, .long (lN (cod tx f t)), .null, .int x3, .int (am_b01 (brk tx t)), .long y5, .null, .int x7, .int (nI (ow a)), .int (nI (oh a))] [.int u1] z1.2)) ∨ ((∀ a, a < 17 → sl tx f (bae tx t) ≠ wd (6 + a)) ∧ am_E 114 0 [.ref 49, .long (lN (cod tx f t)), .null, .null, .null, .null, .null, .null, .null, .null] [] (am_W I J T L C) = some (.int 0, (am_W I J T L C))) := by
  have hN := h.2.1
  have htx := TX_lt h
  have hw : f < t ∧ t ≤ N ∧ (∀ j, f ≤ j → j < t → 32 < tx j ∧ tx j ≠ 59) := by
    rcases TK_p hk with e | e | e
    · exact ⟨e.2.1, e.2.2.1, e.2.2.2.1⟩
    · exact absurd hk.2.2.1 (by omega)
    · exact absurd e.1 (by decide)
  have hx := htx (t - 1) (by omega)
  have hlp : ∀ e, e ≤ t → ∀ c, c ∈ sl tx f e → 0 < c ∧ c < 256 := fun e he => sl_pos (fun i h1 h2 => ⟨by have := (hw.2.2 i h1 (by omega)).1; omega, htx i (by omega)⟩)
  have es : nI t - nI f = nI (t - f) := by
    have := nI_subl f (t - f)
    rw [show f + (t - f) = t by omega] at this
    exact this
  have hae : f ≤ bae tx t ∧ bae tx t ≤ t ∧ t - 1 ≤ bae tx t := by unfold bae; split <;> omega
  have m97 : ∀ y1 x3 x4 y5 x7 x9, am_E 114 97 [.ref 49, .long y1, .null, .int x3, .int x4, .long y5, .null, .int x7, .int (-1), .int x9] [] (am_W I J T L C) = some (.int 0, (am_W I J T L C)) := fun y1 x3 x4 y5 x7 x9 => by rw [rg_114_97, if_pos rfl]
  have len : (sl tx f (bae tx t)).length = bae tx t - f := sl_len tx f _
  -- up to the sign
  have start : ∃ y5, (t - f ≤ 8 → y5 = lN (cvl (sl tx f (bae tx t)))) ∧ am_E 114 0 [.ref 49, .long (lN (cod tx f t)), .null, .null, .null, .null, .null, .null, .null, .null] [] (am_W I J T L C) = am_E 114 44 [.ref 49, .long (lN (cod tx f t)), .null, .int (nI (t - f)), .int (am_b01 (brk tx t)), .long y5, .null, .null, .null, .null] [.int (nI (bae tx t - f))] (am_W I J T L C) := by
    rw [rg_114_0, hf.1, hf.2, es, if_neg (nI_nle (by omega) (by omega)), nI_m1 (by omega), am_inb_ok (by omega) (by decide), nI_clamp (by omega), (h.2.2 (t - 1) (by omega)).1]
    unfold brk bae
    by_cases e : tx (t - 1) = 40
    · rw [if_pos (show nI (tx (t - 1)) = 40 by rw [e]; rfl), rg_114_20, if_neg (show ¬ (1 : Int32) = 0 by decide), rg_114_36, if_neg (show ¬ (1 : Int32) = 0 by decide), nI_m1 (by omega), decide_eq_true e, if_pos e, show t - f - 1 = t - 1 - f by omega]
      refine ⟨_, fun h8 => ?_, rfl⟩
      unfold cod
      rw [if_pos h8, mk_and (fun c hc => (hlp t (Nat.le_refl t) c hc).2) (by omega)]
      unfold cvl
      rw [if_pos (by rw [sl_len]; omega)]
      congr 2
      unfold sl
      rw [← List.map_take, List.take_range, show min (t - 1 - f) (t - f) = t - 1 - f by omega]
    · rw [if_neg (show ¬ nI (tx (t - 1)) = 40 from nb_ne (c := tx (t - 1)) (n := 40) hx (by decide) e), rg_114_19, rg_114_20, if_pos (show (0 : Int32) = 0 from rfl), rg_114_36, if_pos (show (0 : Int32) = 0 from rfl), decide_eq_false e, if_neg e]
      refine ⟨_, fun h8 => ?_, rfl⟩
      rw [cod_cvl]
  obtain ⟨y5, hy, hs⟩ := start
  rw [hs, rg_114_44]
  generalize hcod : lN (cod tx f t) = y1
  have long : 4 < bae tx t - f → ∀ a, a < 17 → sl tx f (bae tx t) ≠ wd (6 + a) := by
    intro h4 a ha e
    have := (wl_sg a ha).2.1
    rw [← e, len] at this
    omega
  by_cases h8 : t - f ≤ 8
  · rw [if_pos (show nI (t - f) ≤ 8 from nI_le (a := t - f) (b := 8) h8 (by decide)), hy h8, mo_sgn I J T L C (hlp _ hae.2.1), am_okb, am_vIi, rg_114_52]
    rcases sgx_or (sl tx f (bae tx t)) with ⟨a, a1, a2, a3, a4⟩ | ⟨a1, a2⟩
    · refine Or.inl ⟨a, nI (t - f), nI (bae tx t - f), lN (cvl (sl tx f (bae tx t))), a1, a3, ?_⟩
      rw [a4, if_neg (nI_ow_ne a1), rg_114_97, if_neg (nI_ow_ne a1), a2]
      rfl
    · rw [a1, if_pos rfl, if_neg (show ¬ 8 < nI (t - f) from nI_nlt (a := 8) (b := t - f) h8 (by decide))]
      have miss : (∀ a, a < 17 → oh a = 1 → sl tx f (bae tx t) ≠ wd (6 + a)) → ∀ a, a < 17 → sl tx f (bae tx t) ≠ wd (6 + a) := by
        intro q a ha
        have := (wl_sg a ha).2.2.2.1
        rcases (show oh a = 0 ∨ oh a = 1 by omega) with e | e
        · exact a2 a ha e
        · exact q a ha e
      by_cases hm1 : bae tx t - f ≤ 1
      · refine Or.inr ⟨miss (fun a ha _ e => ?_), ?_⟩
        · have := (wl_sg a ha).1
          rw [← e, len] at this
          omega
        · rw [if_pos (show nI (bae tx t - f) ≤ 1 from nI_le (a := bae tx t - f) (b := 1) hm1 (by decide)), m97]
      · have ei : nI f + nI (bae tx t - f) - 1 = nI (bae tx t - 1) := by
          rw [nI_add, nI_m1 (by omega)]
          congr 1
          omega
        have hget : (sl tx f (bae tx t)).getD (bae tx t - 1 - f) 0 = tx (bae tx t - 1) := by
          rw [sl_get tx (by omega)]
          congr 1
          omega
        have hle : (sl tx f (bae tx t)).length = (bae tx t - 1 - f) + 1 := by rw [len]; omega
        rw [if_neg (show ¬ nI (bae tx t - f) ≤ 1 from nI_ge (a := 1) (b := bae tx t - f) (by omega) (by omega)), hf.1, ei, am_inb_ok (by omega) (by decide), nI_clamp (by omega), (h.2.2 (bae tx t - 1) (by omega)).1]
        by_cases h78 : tx (bae tx t - 1) = 78
        · have em : nI (bae tx t - f) - 1 = nI (bae tx t - 1 - f) := by
            rw [nI_m1 (by omega)]
            congr 1
            omega
          have ecv : cvl (sl tx f (bae tx t)) = cval (sl tx f (bae tx t)) := by unfold cvl; rw [if_pos (by rw [len]; omega)]
          have etk : cval ((sl tx f (bae tx t)).take (bae tx t - 1 - f)) = cvl ((sl tx f (bae tx t)).take (bae tx t - 1 - f)) := by unfold cvl; rw [if_pos (by rw [List.length_take, len]; omega)]
          rw [if_pos (show nI (tx (bae tx t - 1)) = 78 by rw [h78]; rfl), em, ecv, mk_and (fun c hc => (hlp _ hae.2.1 c hc).2) (by omega), etk, mo_sgn I J T L C (fun c hc => hlp _ hae.2.1 c (List.mem_of_mem_take hc)), am_okb, am_vIi, rg_114_87]
          have hno : ∀ b, b < 17 → oh b = 0 → ow b ≤ 2 → (sl tx f (bae tx t)).take (bae tx t - 1 - f) = wd (6 + b) → sl tx f (bae tx t) = wd (6 + (b + 1)) := by
            intro b hb h0 h2 e
            rw [take_last hle e (hget.trans h78)]
            exact (wd_n b hb h0 h2).1
          have miss2 : (∀ b, b < 17 → oh b = 0 → ow b ≤ 2 → (sl tx f (bae tx t)).take (bae tx t - 1 - f) ≠ wd (6 + b)) → ∀ a, a < 17 → sl tx f (bae tx t) ≠ wd (6 + a) := by
            intro q
            refine miss (fun a ha h1 e => ?_)
            obtain ⟨_, w2, b, b1, b2, b3, b4⟩ := (wl_sg a ha).2.2.1 h1
            refine q b b1 b2 (by omega) ?_
            have l2 : (wd (6 + a)).length - 1 = bae tx t - 1 - f := by rw [← e, hle]; rfl
            rw [← b4, l2, e]
          rcases sgx_or ((sl tx f (bae tx t)).take (bae tx t - 1 - f)) with ⟨b, b1, b2, b3, b4⟩ | ⟨b1, b2⟩
          · rw [b4]
            by_cases h2 : ow b ≤ 2
            · obtain ⟨_, w2, w3, w4⟩ := wd_n b b1 b2 h2
              refine Or.inl ⟨b + 1, nI (t - f), nI (bae tx t - f), lN (cval (sl tx f (bae tx t))), w2, hno b b1 b2 h2 b3, ?_⟩
              rw [if_pos (show nI (ow b) ≤ 2 from nI_le (a := ow b) (b := 2) h2 (by decide)), rg_114_96, rg_114_97, if_neg (nI_ow_ne b1), w3, w4]
              rfl
            · refine Or.inr ⟨miss2 (fun c c1 c2 c3 e => ?_), ?_⟩
              · rw [e] at b4
                rw [sgx_wd c c1, if_pos c2] at b4
                have := (nI_eq (by have := ow_lt c1; omega) (by have := ow_lt b1; omega)).mp b4
                omega
              · rw [if_neg (show ¬ nI (ow b) ≤ 2 from nI_ge (a := 2) (b := ow b) (by omega) (by have := ow_lt b1; omega)), rg_114_96, m97]
          · refine Or.inr ⟨miss2 (fun c c1 c2 _ e => b2 c c1 c2 e), ?_⟩
            rw [b1, if_pos (by decide), rg_114_96, m97]
        · refine Or.inr ⟨miss (fun a ha h1 e => ?_), ?_⟩
          · have w := ((wl_sg a ha).2.2.1 h1).1
            have l2 : (wd (6 + a)).length - 1 = bae tx t - 1 - f := by rw [← e, hle]; rfl
            rw [l2, ← e, hget] at w
            exact h78 w
          · rw [if_neg (show ¬ nI (tx (bae tx t - 1)) = 78 from nb_ne (c := tx (bae tx t - 1)) (n := 78) (htx _ (by omega)) (by decide) h78), m97]
  · refine Or.inr ⟨long (by omega), ?_⟩
    rw [if_neg (show ¬ nI (t - f) ≤ 8 from nI_ge (a := 8) (b := t - f) (by omega) (by omega)), rg_114_52, if_pos rfl, if_pos (show 8 < nI (t - f) from nI_lt (a := 8) (b := t - f) (by omega) (by omega)), m97]

/-! THE MODEL'S WORDS THAT ARE MET; a full list. -/
def mts (i : Nat) : Int32 := if i = 23 then 18 else if i = 24 then 19 else if i < 28 then 20 else if i < 31 then 21 else nI (i - 9)
theorem jm_a25 (I : Nat → Nat → Int32) (J : Nat → Nat → Int64) (T : Nat → Nat → Nat) (L : Nat) (C : Nat × Nat) : am_E 117 0 [.ref 49, .long 5262666, .null, .null, .null, .null] [] (am_W I J T L C) = Option.bind (am_E 115 0 [.ref 49] [] (am_W I J T L C)) (fun z1 => am_vI z1.1 fun u1 => am_E 117 37 [.ref 49, .long 5262666, .null, .int 20, .null, .null] [.int u1] z1.2) := by
  refine (rg_117_0 I J T L C 5262666).trans ?_
  show am_E 117 12 [.ref 49, .long 5262666, .null, .null, .null, .null] [] (am_W I J T L C) = _
  rw [rg_117_12]
  refine (rg_117_29 I J T L C 5262666 _ _ _ 20).trans rfl
theorem jm_a26 (I : Nat → Nat → Int32) (J : Nat → Nat → Int64) (T : Nat → Nat → Nat) (L : Nat) (C : Nat × Nat) : am_E 117 0 [.ref 49, .long 1129336138, .null, .null, .null, .null] [] (am_W I J T L C) = Option.bind (am_E 115 0 [.ref 49] [] (am_W I J T L C)) (fun z1 => am_vI z1.1 fun u1 => am_E 117 37 [.ref 49, .long 1129336138, .null, .int 20, .null, .null] [.int u1] z1.2) := by
  refine (rg_117_0 I J T L C 1129336138).trans ?_
  show am_E 117 12 [.ref 49, .long 1129336138, .null, .null, .null, .null] [] (am_W I J T L C) = _
  rw [rg_117_12]
  refine (rg_117_29 I J T L C 1129336138 _ _ _ 20).trans rfl
theorem jm_a27 (I : Nat → Nat → Int32) (J : Nat → Nat → Int64) (T : Nat → Nat → Nat) (L : Nat) (C : Nat × Nat) : am_E 117 0 [.ref 49, .long 336136785226, .null, .null, .null, .null] [] (am_W I J T L C) = Option.bind (am_E 115 0 [.ref 49] [] (am_W I J T L C)) (fun z1 => am_vI z1.1 fun u1 => am_E 117 37 [.ref 49, .long 336136785226, .null, .int 20, .null, .null] [.int u1] z1.2) := by
  refine (rg_117_0 I J T L C 336136785226).trans ?_
  show am_E 117 12 [.ref 49, .long 336136785226, .null, .null, .null, .null] [] (am_W I J T L C) = _
  rw [rg_117_12]
  refine (rg_117_29 I J T L C 336136785226 _ _ _ 20).trans rfl
theorem jm_a28 (I : Nat → Nat → Int32) (J : Nat → Nat → Int64) (T : Nat → Nat → Nat) (L : Nat) (C : Nat × Nat) : am_E 117 0 [.ref 49, .long 5522770, .null, .null, .null, .null] [] (am_W I J T L C) = Option.bind (am_E 115 0 [.ref 49] [] (am_W I J T L C)) (fun z1 => am_vI z1.1 fun u1 => am_E 117 37 [.ref 49, .long 5522770, .null, .int 21, .null, .null] [.int u1] z1.2) := by
  refine (rg_117_0 I J T L C 5522770).trans ?_
  show am_E 117 26 [.ref 49, .long 5522770, .null, .null, .null, .null] [] (am_W I J T L C) = _
  rw [rg_117_26]
  refine (rg_117_29 I J T L C 5522770 _ _ _ 21).trans rfl
theorem jm_a29 (I : Nat → Nat → Int32) (J : Nat → Nat → Int64) (T : Nat → Nat → Nat) (L : Nat) (C : Nat × Nat) : am_E 117 0 [.ref 49, .long 1129596242, .null, .null, .null, .null] [] (am_W I J T L C) = Option.bind (am_E 115 0 [.ref 49] [] (am_W I J T L C)) (fun z1 => am_vI z1.1 fun u1 => am_E 117 37 [.ref 49, .long 1129596242, .null, .int 21, .null, .null] [.int u1] z1.2) := by
  refine (rg_117_0 I J T L C 1129596242).trans ?_
  show am_E 117 26 [.ref 49, .long 1129596242, .null, .null, .null, .null] [] (am_W I J T L C) = _
  rw [rg_117_26]
  refine (rg_117_29 I J T L C 1129596242 _ _ _ 21).trans rfl
theorem jm_a30 (I : Nat → Nat → Int32) (J : Nat → Nat → Int64) (T : Nat → Nat → Nat) (L : Nat) (C : Nat × Nat) : am_E 117 0 [.ref 49, .long 336137045330, .null, .null, .null, .null] [] (am_W I J T L C) = Option.bind (am_E 115 0 [.ref 49] [] (am_W I J T L C)) (fun z1 => am_vI z1.1 fun u1 => am_E 117 37 [.ref 49, .long 336137045330, .null, .int 21, .null, .null] [.int u1] z1.2) := by
  refine (rg_117_0 I J T L C 336137045330).trans ?_
  show am_E 117 26 [.ref 49, .long 336137045330, .null, .null, .null, .null] [] (am_W I J T L C) = _
  rw [rg_117_26]
  refine (rg_117_29 I J T L C 336137045330 _ _ _ 21).trans rfl
theorem jm_hit (I : Nat → Nat → Int32) (J : Nat → Nat → Int64) (T : Nat → Nat → Nat) (L : Nat) (C : Nat × Nat) {i : Nat} (h1 : 25 ≤ i) (h2 : i ≤ 30) : am_E 117 0 [.ref 49, .long (lN (cvl (wd i))), .null, .null, .null, .null] [] (am_W I J T L C) = Option.bind (am_E 115 0 [.ref 49] [] (am_W I J T L C)) (fun z1 => am_vI z1.1 fun u1 => am_E 117 37 [.ref 49, .long (lN (cvl (wd i))), .null, .int (mts i), .null, .null] [.int u1] z1.2) := by
  rcases (show i = 25 ∨ i = 26 ∨ i = 27 ∨ i = 28 ∨ i = 29 ∨ i = 30 by omega) with rfl | rfl | rfl | rfl | rfl | rfl
  · rw [show lN (cvl (wd 25)) = 5262666 by decide +kernel]; exact jm_a25 I J T L C
  · rw [show lN (cvl (wd 26)) = 1129336138 by decide +kernel]; exact jm_a26 I J T L C
  · rw [show lN (cvl (wd 27)) = 336136785226 by decide +kernel]; exact jm_a27 I J T L C
  · rw [show lN (cvl (wd 28)) = 5522770 by decide +kernel]; exact jm_a28 I J T L C
  · rw [show lN (cvl (wd 29)) = 1129596242 by decide +kernel]; exact jm_a29 I J T L C
  · rw [show lN (cvl (wd 30)) = 336137045330 by decide +kernel]; exact jm_a30 I J T L C
theorem bk_a31 (I : Nat → Nat → Int32) (J : Nat → Nat → Int64) (T : Nat → Nat → Nat) (L : Nat) (C : Nat × Nat) : am_E 121 0 [.ref 49, .long 5132116, .null, .null, .null, .null] [] (am_W I J T L C) = Option.bind (am_E 115 0 [.ref 49] [] (am_W I J T L C)) (fun z1 => am_vI z1.1 fun u1 => am_E 121 57 [.ref 49, .long 5132116, .null, .int 22, .null, .null] [.int u1] z1.2) := by
  refine (rg_121_0 I J T L C 5132116).trans ?_
  refine (rg_121_49 I J T L C 5132116 _ _ _ 22).trans rfl
theorem bk_a32 (I : Nat → Nat → Int32) (J : Nat → Nat → Int64) (T : Nat → Nat → Nat) (L : Nat) (C : Nat × Nat) : am_E 121 0 [.ref 49, .long 4607828, .null, .null, .null, .null] [] (am_W I J T L C) = Option.bind (am_E 115 0 [.ref 49] [] (am_W I J T L C)) (fun z1 => am_vI z1.1 fun u1 => am_E 121 57 [.ref 49, .long 4607828, .null, .int 23, .null, .null] [.int u1] z1.2) := by
  refine (rg_121_0 I J T L C 4607828).trans ?_
  refine (rg_121_49 I J T L C 4607828 _ _ _ 23).trans rfl
theorem bk_a33 (I : Nat → Nat → Int32) (J : Nat → Nat → Int64) (T : Nat → Nat → Nat) (L : Nat) (C : Nat × Nat) : am_E 121 0 [.ref 49, .long 20564, .null, .null, .null, .null] [] (am_W I J T L C) = Option.bind (am_E 115 0 [.ref 49] [] (am_W I J T L C)) (fun z1 => am_vI z1.1 fun u1 => am_E 121 57 [.ref 49, .long 20564, .null, .int 24, .null, .null] [.int u1] z1.2) := by
  refine (rg_121_0 I J T L C 20564).trans ?_
  refine (rg_121_49 I J T L C 20564 _ _ _ 24).trans rfl
theorem bk_a34 (I : Nat → Nat → Int32) (J : Nat → Nat → Int64) (T : Nat → Nat → Nat) (L : Nat) (C : Nat × Nat) : am_E 121 0 [.ref 49, .long 5592131, .null, .null, .null, .null] [] (am_W I J T L C) = Option.bind (am_E 115 0 [.ref 49] [] (am_W I J T L C)) (fun z1 => am_vI z1.1 fun u1 => am_E 121 57 [.ref 49, .long 5592131, .null, .int 25, .null, .null] [.int u1] z1.2) := by
  refine (rg_121_0 I J T L C 5592131).trans ?_
  refine (rg_121_49 I J T L C 5592131 _ _ _ 25).trans rfl
theorem bk_a35 (I : Nat → Nat → Int32) (J : Nat → Nat → Int64) (T : Nat → Nat → Nat) (L : Nat) (C : Nat × Nat) : am_E 121 0 [.ref 49, .long 4478019, .null, .null, .null, .null] [] (am_W I J T L C) = Option.bind (am_E 115 0 [.ref 49] [] (am_W I J T L C)) (fun z1 => am_vI z1.1 fun u1 => am_E 121 57 [.ref 49, .long 4478019, .null, .int 26, .null, .null] [.int u1] z1.2) := by
  refine (rg_121_0 I J T L C 4478019).trans ?_
  refine (rg_121_49 I J T L C 4478019 _ _ _ 26).trans rfl
theorem bk_a36 (I : Nat → Nat → Int32) (J : Nat → Nat → Int64) (T : Nat → Nat → Nat) (L : Nat) (C : Nat × Nat) : am_E 121 0 [.ref 49, .long 5393475, .null, .null, .null, .null] [] (am_W I J T L C) = Option.bind (am_E 115 0 [.ref 49] [] (am_W I J T L C)) (fun z1 => am_vI z1.1 fun u1 => am_E 121 57 [.ref 49, .long 5393475, .null, .int 27, .null, .null] [.int u1] z1.2) := by
  refine (rg_121_0 I J T L C 5393475).trans ?_
  refine (rg_121_49 I J T L C 5393475 _ _ _ 27).trans rfl
theorem bk_a37 (I : Nat → Nat → Int32) (J : Nat → Nat → Int64) (T : Nat → Nat → Nat) (L : Nat) (C : Nat × Nat) : am_E 121 0 [.ref 49, .long 1163086162, .null, .null, .null, .null] [] (am_W I J T L C) = Option.bind (am_E 115 0 [.ref 49] [] (am_W I J T L C)) (fun z1 => am_vI z1.1 fun u1 => am_E 121 57 [.ref 49, .long 1163086162, .null, .int 28, .null, .null] [.int u1] z1.2) := by
  refine (rg_121_0 I J T L C 1163086162).trans ?_
  refine (rg_121_49 I J T L C 1163086162 _ _ _ 28).trans rfl
theorem bk_a38 (I : Nat → Nat → Int32) (J : Nat → Nat → Int64) (T : Nat → Nat → Nat) (L : Nat) (C : Nat × Nat) : am_E 121 0 [.ref 49, .long 1280065862, .null, .null, .null, .null] [] (am_W I J T L C) = Option.bind (am_E 115 0 [.ref 49] [] (am_W I J T L C)) (fun z1 => am_vI z1.1 fun u1 => am_E 121 57 [.ref 49, .long 1280065862, .null, .int 29, .null, .null] [.int u1] z1.2) := by
  refine (rg_121_0 I J T L C 1280065862).trans ?_
  refine (rg_121_49 I J T L C 1280065862 _ _ _ 29).trans rfl
theorem bk_hit (I : Nat → Nat → Int32) (J : Nat → Nat → Int64) (T : Nat → Nat → Nat) (L : Nat) (C : Nat × Nat) {i : Nat} (h1 : 31 ≤ i) (h2 : i ≤ 38) : am_E 121 0 [.ref 49, .long (lN (cvl (wd i))), .null, .null, .null, .null] [] (am_W I J T L C) = Option.bind (am_E 115 0 [.ref 49] [] (am_W I J T L C)) (fun z1 => am_vI z1.1 fun u1 => am_E 121 57 [.ref 49, .long (lN (cvl (wd i))), .null, .int (mts i), .null, .null] [.int u1] z1.2) := by
  rcases (show i = 31 ∨ i = 32 ∨ i = 33 ∨ i = 34 ∨ i = 35 ∨ i = 36 ∨ i = 37 ∨ i = 38 by omega) with rfl | rfl | rfl | rfl | rfl | rfl | rfl | rfl
  · rw [show lN (cvl (wd 31)) = 5132116 by decide +kernel]; exact bk_a31 I J T L C
  · rw [show lN (cvl (wd 32)) = 4607828 by decide +kernel]; exact bk_a32 I J T L C
  · rw [show lN (cvl (wd 33)) = 20564 by decide +kernel]; exact bk_a33 I J T L C
  · rw [show lN (cvl (wd 34)) = 5592131 by decide +kernel]; exact bk_a34 I J T L C
  · rw [show lN (cvl (wd 35)) = 4478019 by decide +kernel]; exact bk_a35 I J T L C
  · rw [show lN (cvl (wd 36)) = 5393475 by decide +kernel]; exact bk_a36 I J T L C
  · rw [show lN (cvl (wd 37)) = 1163086162 by decide +kernel]; exact bk_a37 I J T L C
  · rw [show lN (cvl (wd 38)) = 1280065862 by decide +kernel]; exact bk_a38 I J T L C
theorem al_a23 (I : Nat → Nat → Int32) (J : Nat → Nat → Int64) (T : Nat → Nat → Nat) (L : Nat) (C : Nat × Nat) : am_E 122 0 [.ref 49, .long 41, .null, .null] [] (am_W I J T L C) = Option.bind (am_E 115 0 [.ref 49] [] (am_W I J T L C)) (fun z1 => am_vI z1.1 fun u1 => am_E 122 21 [.ref 49, .long 41, .null, .int 18] [.int u1] z1.2) := by
  refine (rg_122_0 I J T L C 41).trans ?_
  refine (rg_122_13 I J T L C 41 _ 18).trans rfl
theorem al_a24 (I : Nat → Nat → Int32) (J : Nat → Nat → Int64) (T : Nat → Nat → Nat) (L : Nat) (C : Nat × Nat) : am_E 122 0 [.ref 49, .long 5525326, .null, .null] [] (am_W I J T L C) = Option.bind (am_E 115 0 [.ref 49] [] (am_W I J T L C)) (fun z1 => am_vI z1.1 fun u1 => am_E 122 21 [.ref 49, .long 5525326, .null, .int 19] [.int u1] z1.2) := by
  refine (rg_122_0 I J T L C 5525326).trans ?_
  refine (rg_122_13 I J T L C 5525326 _ 19).trans rfl
theorem al_hit (I : Nat → Nat → Int32) (J : Nat → Nat → Int64) (T : Nat → Nat → Nat) (L : Nat) (C : Nat × Nat) {i : Nat} (h1 : 23 ≤ i) (h2 : i ≤ 24) : am_E 122 0 [.ref 49, .long (lN (cvl (wd i))), .null, .null] [] (am_W I J T L C) = Option.bind (am_E 115 0 [.ref 49] [] (am_W I J T L C)) (fun z1 => am_vI z1.1 fun u1 => am_E 122 21 [.ref 49, .long (lN (cvl (wd i))), .null, .int (mts i)] [.int u1] z1.2) := by
  rcases (show i = 23 ∨ i = 24 by omega) with rfl | rfl
  · rw [show lN (cvl (wd 23)) = 41 by decide +kernel]; exact al_a23 I J T L C
  · rw [show lN (cvl (wd 24)) = 5525326 by decide +kernel]; exact al_a24 I J T L C
theorem wd_inj : ∀ i, i < 41 → ∀ j, j < 41 → i ≠ j → wd i ≠ wd j := by decide +kernel
theorem wd_40 : ∀ i, i < 41 → wd i ≠ [] ∧ (wd i).getD ((wd i).length - 1) 0 ≠ 40 := by decide +kernel
theorem sl_ne_wd {tx : Nat → Nat} {f t : Nat} (hft : f < t) (e : tx (t - 1) = 40) : ∀ j, j < 41 → sl tx f t ≠ wd j := by
  intro j hj h
  have w := (wd_40 j hj).2
  rw [← h, sl_len, sl_get tx (by omega), show f + (t - f - 1) = t - 1 by omega] at w
  exact w e
theorem wd_last {tx : Nat → Nat} {f t i : Nat} (hi : i < 41) (hft : f < t) (e : sl tx f t = wd i) : tx (t - 1) ≠ 40 := fun c => sl_ne_wd hft c i hi e
theorem bae_w {tx : Nat → Nat} {t : Nat} (e : tx (t - 1) ≠ 40) : bae tx t = t ∧ brk tx t = false := by
  unfold bae brk
  rw [if_neg e, decide_eq_false e]
  exact ⟨rfl, rfl⟩
theorem is_signm (I : Nat → Nat → Int32) (J : Nat → Nat → Int64) (T : Nat → Nat → Nat) (L : Nat) (C : Nat × Nat) {tx : Nat → Nat} {N f t g : Nat} (h : TX I 50 49 2 tx N) (hf : MK I f t) (hk : TK tx N 2 f t g) (hn : ∀ a, a < 17 → sl tx f (bae tx t) ≠ wd (6 + a)) : am_E 114 0 [.ref 49, .long (lN (cvl (sl tx f t))), .null, .null, .null, .null, .null, .null, .null, .null] [] (am_W I J T L C) = some (.int 0, (am_W I J T L C)) := by
  have r := is_sign I J T L C h hf hk
  rw [cod_cvl] at r
  rcases r with ⟨a, x3, x7, y5, a1, a2, _⟩ | ⟨_, r⟩
  · exact absurd a2 (hn a a1)
  · exact r
theorem is_signh (I : Nat → Nat → Int32) (J : Nat → Nat → Int64) (T : Nat → Nat → Nat) (L : Nat) (C : Nat × Nat) {tx : Nat → Nat} {N f t g a : Nat} (h : TX I 50 49 2 tx N) (hf : MK I f t) (hk : TK tx N 2 f t g) (ha : a < 17) (hn : sl tx f (bae tx t) = wd (6 + a)) : ∃ x3 x7 y5, am_E 114 0 [.ref 49, .long (lN (cvl (sl tx f t))), .null, .null, .null, .null, .null, .null, .null, .null] [] (am_W I J T L C) = Option.bind (am_E 115 0 [.ref 49] [] (am_W I J T L C)) (fun z1 => am_vI z1.1 fun u1 => am_E 114 104 [.ref 49, .long (lN (cvl (sl tx f t))), .null, .int x3, .int (am_b01 (brk tx t)), .long y5, .null, .int x7, .int (nI (ow a)), .int (nI (oh a))] [.int u1] z1.2) := by
  have r := is_sign I J T L C h hf hk
  rw [cod_cvl] at r
  rcases r with ⟨b, x3, x7, y5, a1, a2, r⟩ | ⟨r, _⟩
  · have e : b = a := by
      rcases Nat.lt_trichotomy b a with c | c | c
      · exact absurd (a2.symm.trans hn) (wd_inj _ (by omega) _ (by omega) (by omega))
      · exact c
      · exact absurd (a2.symm.trans hn) (wd_inj _ (by omega) _ (by omega) (by omega))
    rw [e] at r
    exact ⟨x3, x7, y5, r⟩
  · exact absurd hn (r a ha)
theorem TK_wl {tx : Nat → Nat} {N f t g : Nat} (hx : ∀ i, i < 700 → tx i < 256) (hN : N ≤ 700) (hk : TK tx N 2 f t g) : f < t ∧ t ≤ N ∧ (∀ c, c ∈ sl tx f t → 0 < c ∧ c < 256) := by
  rcases TK_p hk with e | e | e
  · exact ⟨e.2.1, e.2.2.1, sl_pos (fun i h1 h2 => ⟨by have := (e.2.2.2.1 i h1 h2).1; omega, hx i (by omega)⟩)⟩
  · exact absurd hk.2.2.1 (by omega)
  · exact absurd e.1 (by decide)
/-- the list is full: in the model -/
theorem m_full (I : Nat → Nat → Int32) (J : Nat → Nat → Int64) (T : Nat → Nat → Nat) (L : Nat) (C : Nat × Nat) {tx : Nat → Nat} {N h f t g i : Nat} (x1 : Int32) (v2 v3 : Value) (hm : MT tx N h I) (hf : MK I f t) (hk : TK tx N 2 f t g) (h3 : I 49 3 = 0) (h56 : I 56 h = nI 80) (hw : (sl tx f t = wd i ∧ i < 39) ∨ (tx (t - 1) = 40 ∧ sl tx f (bae tx t) = wd i ∧ 6 ≤ i ∧ i ≤ 22)) : am_E 127 75 [.ref 49, .int x1, v2, v3] [.long (lN (cod tx f t))] (am_W I J T L C) = am_E 127 110 [.ref 49, .int x1, .long (lN (cvl (sl tx f t))), .null] [] (am_W (mfl I (nI 3) (nI f)) J T L C) := by
  have hN := hm.1.2.1
  obtain ⟨hft, htN, hl⟩ := TK_wl (TX_lt hm.1) hN hk
  have may : am_E 115 0 [.ref 49] [] (am_W I J T L C) = some (.int 0, am_W (mfl I (nI 3) (nI f)) J T L C) := by
    rcases mo_may I J T L C hm.2.1 (Nat.le_refl 80) hm.2.2 h56 hf.1 h3 with ⟨_, e⟩ | ⟨e, _⟩
    · exact e
    · exact absurd e (by decide)
  rw [cod_cvl]
  have sign : ∀ a, a < 17 → sl tx f (bae tx t) = wd (6 + a) → am_E 114 0 [.ref 49, .long (lN (cvl (sl tx f t))), .null, .null, .null, .null, .null, .null, .null, .null] [] (am_W I J T L C) = some (.int 1, am_W (mfl I (nI 3) (nI f)) J T L C) := by
    intro a ha e
    obtain ⟨x3, x7, y5, r⟩ := is_signh I J T L C hm.1 hf hk ha e
    rw [r, may, am_okb, am_vIi, rg_114_104, if_pos rfl]
  rcases hw with ⟨e, hi⟩ | ⟨e, e2, h6, h22⟩
  · have hl40 := wd_last (by omega : i < 41) hft e
    have hb := (bae_w hl40).1
    have ne : ∀ j, j < 41 → j ≠ i → sl tx f t ≠ wd j := fun j hj hne => by rw [e]; exact wd_inj i (by omega) j hj (Ne.symm hne)
    by_cases c1 : i < 6
    · have r : am_E 116 0 [.ref 49, .long (lN (cvl (sl tx f t))), .null, .null] [] (am_W I J T L C) = some (.int 1, am_W (mfl I (nI 3) (nI f)) J T L C) := by
        rw [e]
        rcases mv_hit I J T L C c1 hm hf hk h3 (Nat.le_refl 80) h56 with ⟨_, r⟩ | ⟨r, _⟩
        · exact r
        · exact absurd r (by decide)
      exact ds_1 I J T L C x1 v2 v3 hl (ne 39 (by decide) (by omega)) (ne 40 (by decide) (by omega)) r
    · have n6 : ∀ j, j < 6 → sl tx f t ≠ wd j := fun j hj => ne j (by omega) (by omega)
      by_cases c2 : i < 23
      · exact ds_2 I J T L C x1 v2 v3 hl (ne 39 (by decide) (by omega)) (ne 40 (by decide) (by omega)) n6 (sign (i - 6) (by omega) (by rw [hb, e]; congr 1; omega))
      · have sm := is_signm I J T L C hm.1 hf hk (fun a ha => by rw [hb]; exact ne (6 + a) (by omega) (by omega))
        by_cases c3 : i < 25
        · refine ds_5 I J T L C x1 v2 v3 hl (ne 39 (by decide) (by omega)) (ne 40 (by decide) (by omega)) n6 sm (fun j hj h1 h2 => ne j hj (by omega)) (fun j hj h1 h2 => ne j hj (by omega)) ?_
          rw [e, al_hit I J T L C (by omega) (by omega), may, am_okb, am_vIi, rg_122_21, if_pos rfl, rg_122_52]
        · by_cases c4 : i < 31
          · refine ds_3 I J T L C x1 v2 v3 hl (ne 39 (by decide) (by omega)) (ne 40 (by decide) (by omega)) n6 sm ?_
            rw [e, jm_hit I J T L C (by omega) (by omega), may, am_okb, am_vIi, rg_117_37, if_pos rfl]
          · refine ds_4 I J T L C x1 v2 v3 hl (ne 39 (by decide) (by omega)) (ne 40 (by decide) (by omega)) n6 sm (fun j hj h1 h2 => ne j hj (by omega)) ?_
            rw [e, bk_hit I J T L C (by omega) (by omega), may, am_okb, am_vIi, rg_121_57, if_pos rfl]
  · have nw := sl_ne_wd hft e
    exact ds_2 I J T L C x1 v2 v3 hl (nw 39 (by decide)) (nw 40 (by decide)) (fun j hj => nw j (by omega)) (sign (i - 6) (by omega) (by rw [e2]; congr 1; omega))

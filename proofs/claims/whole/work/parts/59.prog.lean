/-! THE RELATION OF THE TWO PROGRAMS; an instruction in both. -/
def jh (b : Nat) : Nat := [0, 4, 5].getD b 0
/-- an instruction in both rows that neither jumps nor returns; D: how many brackets are open ahead of it -/
def PA (D : Nat → Nat) (o : Nat) (I : Nat → Nat → Int32) (T : Nat → Nat → Nat) (I' : Nat → Nat → Int32) (p : Nat) : Prop :=
  (∃ b ck, b < 2 ∧ T 44 p = 1001 + b ∧ I' 51 (80 * o + p) = 14 ∧ I' 52 (80 * o + p) = nI b ∧ I 45 p = nI ck ∧ op_ok ck (I 46 p) ∧ I' 53 (80 * o + p) = nI (cmk ck) ∧ I' 54 (80 * o + p) = I 46 p ∧ D (p + 1) = D p)
  ∨ (∃ a ck, a < 17 ∧ T 44 p = 1007 + a ∧ I' 51 (80 * o + p) = nI (ow a) ∧ I' 52 (80 * o + p) = nI (oh a) ∧ I 45 p = nI ck ∧ op_ok ck (I 46 p) ∧ I' 53 (80 * o + p) = nI (cmk ck) ∧ I' 54 (80 * o + p) = I 46 p ∧ D (p + 1) = D p)
  ∨ (∃ a, a < 17 ∧ T 44 p = 1007 + a ∧ I' 51 (80 * o + p) = nI (ow a) ∧ I' 52 (80 * o + p) = nI (oh a + 2) ∧ I 45 p = 12 ∧ D p < 8 ∧ D (p + 1) = D p + 1)
  ∨ (∃ b ck j, b < 2 ∧ T 44 p = 1003 + b ∧ I' 51 (80 * o + p) = 15 ∧ I' 52 (80 * o + p) = nI b ∧ I 45 p = nI ck ∧ (ck = 1 ∨ ck = 2 ∨ ck = 6) ∧ I 46 p = nI j ∧ j < 32 ∧ I' 53 (80 * o + p) = nI (cmk ck) ∧ I' 54 (80 * o + p) = nI j ∧ D (p + 1) = D p)
  ∨ (∃ b ck j, b < 2 ∧ T 44 p = 1005 + b ∧ I' 51 (80 * o + p) = nI (16 + b) ∧ I 45 p = nI ck ∧ (ck = 1 ∨ ck = 2) ∧ I 46 p = nI j ∧ j < 32 ∧ I' 53 (80 * o + p) = nI (cmk ck) ∧ I' 54 (80 * o + p) = nI j ∧ D (p + 1) = D p)
  ∨ (∃ d, T 44 p = 1024 ∧ I' 51 (80 * o + p) = 18 ∧ D p = d + 1 ∧ D (p + 1) = d)
  ∨ (T 44 p = 1025 ∧ I' 51 (80 * o + p) = 19 ∧ D (p + 1) = D p)
  ∨ (∃ b j, b < 3 ∧ T 44 p = 1032 + b ∧ I' 51 (80 * o + p) = nI (22 + b) ∧ I 46 p = nI j ∧ j < 8 ∧ I' 54 (80 * o + p) = nI j ∧ I' 55 (80 * o + p) = I 47 p ∧ D (p + 1) = D p)
  ∨ (∃ b j, b < 2 ∧ T 44 p = 1035 + b ∧ I' 51 (80 * o + p) = nI (25 + b) ∧ I 46 p = nI j ∧ j < 8 ∧ I' 54 (80 * o + p) = nI j ∧ I' 55 (80 * o + p) = I 47 p ∧ D (p + 1) = D p)
  ∨ (∃ j, T 44 p = 1037 ∧ I' 51 (80 * o + p) = 27 ∧ I 46 p = nI j ∧ j < 8 ∧ I' 54 (80 * o + p) = nI j ∧ D (p + 1) = D p)
  ∨ (∃ b j, b < 2 ∧ T 44 p = 1038 + b ∧ I' 51 (80 * o + p) = nI (28 + b) ∧ I 46 p = nI j ∧ j < 16 ∧ I' 54 (80 * o + p) = nI j ∧ D (p + 1) = D p)
def PJ (D : Nat → Nat) (n o : Nat) (I : Nat → Nat → Int32) (T : Nat → Nat → Nat) (I' : Nat → Nat → Int32) (p : Nat) : Prop := ∃ b l t, b < 3 ∧ T 44 p = 1026 + b ∧ I' 51 (80 * o + p) = 20 ∧ I' 52 (80 * o + p) = nI (jh b) ∧ I 46 p = nI l ∧ l < 32 ∧ I' 54 (80 * o + p) = nI l ∧ I 48 l = nI t ∧ I' 57 (32 * o + l) = nI t ∧ t ≤ n ∧ D t = 0 ∧ D p = 0 ∧ D (p + 1) = 0
def PE (D : Nat → Nat) (o : Nat) (T : Nat → Nat → Nat) (I' : Nat → Nat → Int32) (p : Nat) : Prop := ∃ b, b < 3 ∧ T 44 p = 1029 + b ∧ I' 51 (80 * o + p) = 21 ∧ I' 52 (80 * o + p) = nI (jh b) ∧ D p = 0 ∧ D (p + 1) = 0
def PR (D : Nat → Nat) (n o : Nat) (I : Nat → Nat → Int32) (T : Nat → Nat → Nat) (I' : Nat → Nat → Int32) : Prop := ∀ p, p < n → PA D o I T I' p ∨ PJ D n o I T I' p ∨ (PE D o T I' p ∧ D n = 0)
theorem PR_keep {D : Nat → Nat} {n o : Nat} {I I1 : Nat → Nat → Int32} {T T1 : Nat → Nat → Nat} {I' I2 : Nat → Nat → Int32} (hI : ∀ q k, 33 ≤ q → q ≤ 48 → I1 q k = I q k) (hT : ∀ k, T1 44 k = T 44 k) (hI' : ∀ q k, 50 ≤ q → q ≤ 70 → I2 q k = I' q k) (h : PR D n o I T I') : PR D n o I1 T1 I2 := by
  have a45 : ∀ k, I1 45 k = I 45 k := fun k => hI 45 k (by decide) (by decide)
  have a46 : ∀ k, I1 46 k = I 46 k := fun k => hI 46 k (by decide) (by decide)
  have a47 : ∀ k, I1 47 k = I 47 k := fun k => hI 47 k (by decide) (by decide)
  have a48 : ∀ k, I1 48 k = I 48 k := fun k => hI 48 k (by decide) (by decide)
  have b51 : ∀ k, I2 51 k = I' 51 k := fun k => hI' 51 k (by decide) (by decide)
  have b52 : ∀ k, I2 52 k = I' 52 k := fun k => hI' 52 k (by decide) (by decide)
  have b53 : ∀ k, I2 53 k = I' 53 k := fun k => hI' 53 k (by decide) (by decide)
  have b54 : ∀ k, I2 54 k = I' 54 k := fun k => hI' 54 k (by decide) (by decide)
  have b55 : ∀ k, I2 55 k = I' 55 k := fun k => hI' 55 k (by decide) (by decide)
  have b57 : ∀ k, I2 57 k = I' 57 k := fun k => hI' 57 k (by decide) (by decide)
  intro p hp
  have h1 := h p hp
  unfold PA PJ PE at h1 ⊢
  simp only [a45, a46, a47, a48, hT, b51, b52, b53, b54, b55, b57]
  exact h1
theorem so_all {L : Nat} {C : Nat × Nat} {Lm : Nat} {Cm : Nat × Nat} {Tm : Nat → Nat → Nat} {I : Nat → Nat → Int32} {J : Nat → Nat → Int64} {T : Nat → Nat → Nat} {I' : Nat → Nat → Int32} {J' : Nat → Nat → Int64} {D : Nat → Nat} {o p : Nat} (hp : p < 80) (ho : o < 2) (h : PA D o I T I' p) (R : R_run I J I' J') (s0 : I 22 3 = 0) (rl : R_list I T I' (D p)) : SO L C Lm Cm Tm p (80 * o + p) (D (p + 1)) I J T I' J' := by
  have hi : (80 * o + p) < 160 := by omega
  rcases h with ⟨b, ck, hb, hT, e51, e52, hk, hv, e53, e54, hD⟩ | ⟨a, ck, ha, hT, e51, e52, hk, hv, e53, e54, hD⟩ | ⟨a, ha, hT, e51, e52, hk, hd, hD⟩ | ⟨b, ck, j, hb, hT, e51, e52, hk, hck, hn, hj, e53, e54, hD⟩ | ⟨b, ck, j, hb, hT, e51, hk, hck, hn, hj, e53, e54, hD⟩ | ⟨d, hT, e51, hd, hD⟩ | ⟨hT, e51, hD⟩ | ⟨b, j, hb, hT, e51, hn, hj, e54, e55, hD⟩ | ⟨b, j, hb, hT, e51, hn, hj, e54, e55, hD⟩ | ⟨j, hT, e51, hn, hj, e54, hD⟩ | ⟨b, j, hb, hT, e51, hn, hj, e54, hD⟩
  · rw [hD]; exact so_ld hp hi hb hT e51 e52 hk hv e53 e54 R s0 rl
  · rw [hD]; exact so_sign hp hi ha hT e51 e52 hk hv e53 e54 R s0 rl
  · rw [hD]; exact so_open hp hi ha hT e51 e52 hk hd R s0 rl
  · rw [hD]; exact so_st hp hi hb hT e51 e52 hk hck hn hj e53 e54 R s0 rl
  · rw [hD]; exact so_sr hp hi hb hT e51 hk hck hn hj e53 e54 R s0 rl
  · rw [hD]; rw [hd] at rl; exact so_close hp hi hT e51 R s0 rl
  · rw [hD]; exact so_not hp hi hT e51 R s0 rl
  · rw [hD]
    rcases (show b = 0 ∨ b = 1 ∨ b = 2 by omega) with rfl | rfl | rfl
    · exact so_ton hp hi hT e51 hn hj e54 e55 R s0 rl
    · exact so_tof hp hi hT e51 hn hj e54 e55 R s0 rl
    · exact so_tp hp hi hT e51 hn hj e54 e55 R s0 rl
  · rw [hD]
    rcases (show b = 0 ∨ b = 1 by omega) with rfl | rfl
    · exact so_ctu hp hi hT e51 hn hj e54 e55 R s0 rl
    · exact so_ctd hp hi hT e51 hn hj e54 e55 R s0 rl
  · rw [hD]; exact so_clr hp hi hT e51 hn hj e54 R s0 rl
  · rw [hD]
    rcases (show b = 0 ∨ b = 1 by omega) with rfl | rfl
    · exact so_rise hp hi hT e51 hn hj e54 R s0 rl
    · exact so_fall hp hi hT e51 hn hj e54 R s0 rl
theorem PA_w {D : Nat → Nat} {o : Nat} {I : Nat → Nat → Int32} {T : Nat → Nat → Nat} {I' : Nat → Nat → Int32} {p : Nat} (h : PA D o I T I' p) : I' 51 (80 * o + p) ≠ 20 ∧ I' 51 (80 * o + p) ≠ 21 := by
  have q : ∀ w : Nat, w < 30 → w ≠ 20 → w ≠ 21 → nI w ≠ 20 ∧ nI w ≠ 21 := by decide +kernel
  rcases h with ⟨b, ck, hb, hT, e51, _⟩ | ⟨a, ck, ha, hT, e51, _⟩ | ⟨a, ha, hT, e51, _⟩ | ⟨b, ck, j, hb, hT, e51, _⟩ | ⟨b, ck, j, hb, hT, e51, _⟩ | ⟨d, hT, e51, _⟩ | ⟨hT, e51, _⟩ | ⟨b, j, hb, hT, e51, _⟩ | ⟨b, j, hb, hT, e51, _⟩ | ⟨j, hT, e51, _⟩ | ⟨b, j, hb, hT, e51, _⟩
  · rw [e51]; exact q 14 (by decide) (by decide) (by decide)
  · rw [e51]; have := ow_lt ha; exact q _ (by omega) (by omega) (by omega)
  · rw [e51]; have := ow_lt ha; exact q _ (by omega) (by omega) (by omega)
  · rw [e51]; exact q 15 (by decide) (by decide) (by decide)
  · rw [e51]; exact q _ (by omega) (by omega) (by omega)
  · rw [e51]; exact q 18 (by decide) (by decide) (by decide)
  · rw [e51]; exact q 19 (by decide) (by decide) (by decide)
  · rw [e51]; exact q _ (by omega) (by omega) (by omega)
  · rw [e51]; exact q _ (by omega) (by omega) (by omega)
  · rw [e51]; exact q 27 (by decide) (by decide) (by decide)
  · rw [e51]; exact q _ (by omega) (by omega) (by omega)
theorem in_jmp {L : Nat} {C : Nat × Nat} {I : Nat → Nat → Int32} {J : Nat → Nat → Int64} {T : Nat → Nat → Nat} {p b l : Nat} (hp : p < 80) (hb : b < 3) (hT : T 44 p = 1026 + b) (hl : I 46 p = nI l) (hl32 : l < 32) : in_cl L C (T 44 p) p (am_up I 22 8 (nI (p + 1))) J T (cond (mo_so (nI (jh b)) (I 22 7)) (am_up (am_up I 22 8 (nI (p + 1))) 22 8 (I 48 l)) (am_up I 22 8 (nI (p + 1)))) J T := by
  rw [hT]
  rcases (show b = 0 ∨ b = 1 ∨ b = 2 by omega) with rfl | rfl | rfl
  · exact in_perf rfl (by decide) (op_blk_25 _ J T L C) (pf_25 (am_up I 22 8 (nI (p + 1))) J T L C hp hl hl32)
  · exact in_perf rfl (by decide) (op_blk_26 _ J T L C) (pf_26 (am_up I 22 8 (nI (p + 1))) J T L C hp hl hl32)
  · exact in_perf rfl (by decide) (op_blk_27 _ J T L C) (pf_27 (am_up I 22 8 (nI (p + 1))) J T L C hp hl hl32)
theorem in_ret {L : Nat} {C : Nat × Nat} {I : Nat → Nat → Int32} {J : Nat → Nat → Int64} {T : Nat → Nat → Nat} {p b : Nat} (hp : p < 80) (hb : b < 3) (hT : T 44 p = 1029 + b) : in_cl L C (T 44 p) p (am_up I 22 8 (nI (p + 1))) J T (cond (mo_so (nI (jh b)) (I 22 7)) (am_up (am_up I 22 8 (nI (p + 1))) 22 8 (I 34 6)) (am_up I 22 8 (nI (p + 1)))) J T := by
  rw [hT]
  rcases (show b = 0 ∨ b = 1 ∨ b = 2 by omega) with rfl | rfl | rfl
  · exact in_perf rfl (by decide) (op_blk_28 _ J T L C) (pf_28 (am_up I 22 8 (nI (p + 1))) J T L C hp)
  · exact in_perf rfl (by decide) (op_blk_29 _ J T L C) (pf_29 (am_up I 22 8 (nI (p + 1))) J T L C hp)
  · exact in_perf rfl (by decide) (op_blk_30 _ J T L C) (pf_30 (am_up I 22 8 (nI (p + 1))) J T L C hp)

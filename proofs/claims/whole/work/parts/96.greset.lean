/-! ALL BEGINS AGAIN, in both. -/
def mr5 (q : Nat) : Prop := (71 ≤ q ∧ q ≤ 74) ∨ q = 80
theorem mr_2 (J : Nat → Nat → Int64) (T : Nat → Nat → Nat) (L : Nat) (C : Nat × Nat) : ∀ (d k : Nat) (I : Nat → Nat → Int32), k + d = 32 → ∃ I1, am_E 132 2 [.ref 49, .int (nI k)] [] (am_W I J T L C) = am_E 132 34 [.ref 49, .int (nI 0)] [] (am_W I1 J T L C) ∧ (∀ q j, mr5 q → k ≤ j → j < 32 → I1 q j = 0) ∧ (∀ q j, ¬ (mr5 q ∧ k ≤ j ∧ j < 32) → I1 q j = I q j)
  | 0, k, I, hd => by
    have e : k = 32 := by omega
    subst e
    refine ⟨I, ?_, fun q j _ h1 h2 => absurd h2 (by omega), fun _ _ _ => rfl⟩
    rw [rg_132_2, if_pos (show (32 : Int32) ≤ nI 32 by decide)]
    rfl
  | d + 1, k, I, hd => by
    obtain ⟨I1, e1, e2, e3⟩ := mr_2 J T L C d (k + 1) (am_up (am_up (am_up (am_up (am_up I 71 k 0) 72 k 0) 73 k 0) 74 k 0) 80 k 0) (by omega)
    refine ⟨I1, ?_, ?_, ?_⟩
    · rw [rg_132_2, if_neg (show ¬ (32 : Int32) ≤ nI k from nI_ge (a := k) (b := 32) (by omega) (by decide)), am_inb_ok (by omega) (by decide), am_inb_ok (by omega) (by decide), am_inb_ok (by omega) (by decide), am_inb_ok (by omega) (by decide), am_inb_ok (by omega) (by decide), nI_clamp (by omega), nI_1]
      exact e1
    · intro q j hq h1 h2
      by_cases c : j = k
      · rw [e3 q j (by omega), c]
        unfold mr5 at hq
        rcases (show q = 71 ∨ q = 72 ∨ q = 73 ∨ q = 74 ∨ q = 80 by omega) with rfl | rfl | rfl | rfl | rfl
        · rw [am_up_ne (by omega), am_up_ne (by omega), am_up_ne (by omega), am_up_ne (by omega), am_up_here]
        · rw [am_up_ne (by omega), am_up_ne (by omega), am_up_ne (by omega), am_up_here]
        · rw [am_up_ne (by omega), am_up_ne (by omega), am_up_here]
        · rw [am_up_ne (by omega), am_up_here]
        · rw [am_up_here]
      · exact e2 q j hq (by omega) h2
    · intro q j hq
      unfold mr5 at hq e3
      rw [e3 q j (by omega), am_up_ne (by omega), am_up_ne (by omega), am_up_ne (by omega), am_up_ne (by omega), am_up_ne (by omega)]
def mr8 (q : Nat) : Prop := (75 ≤ q ∧ q ≤ 78) ∨ q = 82 ∨ (85 ≤ q ∧ q ≤ 87)
def mj8 (q : Nat) : Prop := q = 81 ∨ q = 83 ∨ q = 84
theorem mr_34 (T : Nat → Nat → Nat) (L : Nat) (C : Nat × Nat) : ∀ (d k : Nat) (I : Nat → Nat → Int32) (J : Nat → Nat → Int64), k + d = 8 → ∃ I1 J1, am_E 132 34 [.ref 49, .int (nI k)] [] (am_W I J T L C) = am_E 132 96 [.ref 49, .int (nI 0)] [] (am_W I1 J1 T L C) ∧ (∀ q j, mr8 q → k ≤ j → j < 8 → I1 q j = 0) ∧ (∀ q j, ¬ (mr8 q ∧ k ≤ j ∧ j < 8) → I1 q j = I q j) ∧ (∀ q j, mj8 q → k ≤ j → j < 8 → J1 q j = -1) ∧ (∀ q j, ¬ (mj8 q ∧ k ≤ j ∧ j < 8) → J1 q j = J q j)
  | 0, k, I, J, hd => by
    have e : k = 8 := by omega
    subst e
    refine ⟨I, J, ?_, fun q j _ h1 h2 => absurd h2 (by omega), fun _ _ _ => rfl, fun q j _ h1 h2 => absurd h2 (by omega), fun _ _ _ => rfl⟩
    rw [rg_132_34, if_pos (show (8 : Int32) ≤ nI 8 by decide)]
    rfl
  | d + 1, k, I, J, hd => by
    obtain ⟨I1, J1, e1, e2, e3, e4, e5⟩ := mr_34 T L C d (k + 1) (am_up (am_up (am_up (am_up (am_up (am_up (am_up (am_up I 75 k 0) 76 k 0) 77 k 0) 78 k 0) 82 k 0) 85 k 0) 86 k 0) 87 k 0) (am_up (am_up (am_up J 81 k (-1)) 83 k (-1)) 84 k (-1)) (by omega)
    refine ⟨I1, J1, ?_, ?_, ?_, ?_, ?_⟩
    · rw [rg_132_34, if_neg (show ¬ (8 : Int32) ≤ nI k from nI_ge (a := k) (b := 8) (by omega) (by decide)), am_inb_ok (by omega) (by decide), am_inb_ok (by omega) (by decide), am_inb_ok (by omega) (by decide), am_inb_ok (by omega) (by decide), am_inb_ok (by omega) (by decide), am_inb_ok (by omega) (by decide), am_inb_ok (by omega) (by decide), am_inb_ok (by omega) (by decide), am_inb_ok (by omega) (by decide), am_inb_ok (by omega) (by decide), am_inb_ok (by omega) (by decide), nI_clamp (by omega), nI_1]
      exact e1
    · intro q j hq h1 h2
      by_cases c : j = k
      · rw [e3 q j (by omega), c]
        unfold mr8 at hq
        rcases (show q = 75 ∨ q = 76 ∨ q = 77 ∨ q = 78 ∨ q = 82 ∨ q = 85 ∨ q = 86 ∨ q = 87 by omega) with rfl | rfl | rfl | rfl | rfl | rfl | rfl | rfl
        · rw [am_up_ne (by omega), am_up_ne (by omega), am_up_ne (by omega), am_up_ne (by omega), am_up_ne (by omega), am_up_ne (by omega), am_up_ne (by omega), am_up_here]
        · rw [am_up_ne (by omega), am_up_ne (by omega), am_up_ne (by omega), am_up_ne (by omega), am_up_ne (by omega), am_up_ne (by omega), am_up_here]
        · rw [am_up_ne (by omega), am_up_ne (by omega), am_up_ne (by omega), am_up_ne (by omega), am_up_ne (by omega), am_up_here]
        · rw [am_up_ne (by omega), am_up_ne (by omega), am_up_ne (by omega), am_up_ne (by omega), am_up_here]
        · rw [am_up_ne (by omega), am_up_ne (by omega), am_up_ne (by omega), am_up_here]
        · rw [am_up_ne (by omega), am_up_ne (by omega), am_up_here]
        · rw [am_up_ne (by omega), am_up_here]
        · rw [am_up_here]
      · exact e2 q j hq (by omega) h2
    · intro q j hq
      unfold mr8 at hq e3
      rw [e3 q j (by omega), am_up_ne (by omega), am_up_ne (by omega), am_up_ne (by omega), am_up_ne (by omega), am_up_ne (by omega), am_up_ne (by omega), am_up_ne (by omega), am_up_ne (by omega)]
    · intro q j hq h1 h2
      by_cases c : j = k
      · rw [e5 q j (by omega), c]
        unfold mj8 at hq
        rcases hq with rfl | rfl | rfl
        · rw [am_up_ne (by omega), am_up_ne (by omega), am_up_here]
        · rw [am_up_ne (by omega), am_up_here]
        · rw [am_up_here]
      · exact e4 q j hq (by omega) h2
    · intro q j hq
      unfold mj8 at hq e5
      rw [e5 q j (by omega), am_up_ne (by omega), am_up_ne (by omega), am_up_ne (by omega)]
def mr16 (q : Nat) : Prop := q = 79 ∨ q = 88 ∨ q = 89
theorem mr_96 (J : Nat → Nat → Int64) (T : Nat → Nat → Nat) (L : Nat) (C : Nat × Nat) : ∀ (d k : Nat) (I : Nat → Nat → Int32), k + d = 16 → ∃ I1, am_E 132 96 [.ref 49, .int (nI k)] [] (am_W I J T L C) = some (.null, am_W I1 (am_up J 49 44 0) T L C) ∧ (∀ q j, mr16 q → k ≤ j → j < 16 → I1 q j = if q = 79 ∧ j = 0 then 1 else 0) ∧ I1 49 45 = 0 ∧ I1 49 46 = 0 ∧ I1 49 47 = 0 ∧ (∀ q j, ¬ (mr16 q ∧ k ≤ j ∧ j < 16) → ¬ (q = 49 ∧ 45 ≤ j ∧ j ≤ 47) → I1 q j = I q j)
  | 0, k, I, hd => by
    have e : k = 16 := by omega
    subst e
    refine ⟨am_up (am_up (am_up I 49 45 0) 49 46 0) 49 47 0, ?_, fun q j _ h1 h2 => absurd h2 (by omega), rfl, rfl, rfl, fun q j _ h2 => ?_⟩
    · rw [rg_132_96, if_pos (show (16 : Int32) ≤ nI 16 by decide)]
    · rw [am_up_ne (by omega), am_up_ne (by omega), am_up_ne (by omega)]
  | d + 1, k, I, hd => by
    obtain ⟨I1, e1, e2, f1, f2, f3, e3⟩ := mr_96 J T L C d (k + 1) (am_up (am_up (am_up I 79 k (if k = 0 then 1 else 0)) 88 k 0) 89 k 0) (by omega)
    refine ⟨I1, ?_, ?_, f1, f2, f3, ?_⟩
    · have r : ∀ v : Int32, v = (if k = 0 then 1 else 0) → am_E 132 107 [.ref 49, .int (nI k)] [.int v, .int (nI k), .ref 79] (am_W I J T L C) = some (.null, am_W I1 (am_up J 49 44 0) T L C) := by
        intro v hv
        rw [rg_132_107, am_inb_ok (by omega) (by decide), am_inb_ok (by omega) (by decide), am_inb_ok (by omega) (by decide), nI_clamp (by omega), nI_1, hv]
        exact e1
      rw [rg_132_96, if_neg (show ¬ (16 : Int32) ≤ nI k from nI_ge (a := k) (b := 16) (by omega) (by decide))]
      by_cases c : k = 0
      · rw [if_pos (show nI k = 0 by rw [c]; rfl), r 1 (by rw [if_pos c])]
      · rw [if_neg (show ¬ nI k = 0 from nI_ne0 (by omega) (by omega)), r 0 (by rw [if_neg c])]
    · intro q j hq h1 h2
      by_cases c : j = k
      · unfold mr16 at hq
        rw [e3 q j (by omega) (by omega), c]
        rcases hq with rfl | rfl | rfl
        · rw [am_up_ne (by omega), am_up_ne (by omega), am_up_here]
          by_cases z : k = 0
          · rw [if_pos z, if_pos ⟨rfl, z⟩]
          · rw [if_neg z, if_neg (fun h => z h.2)]
        · rw [am_up_ne (by omega), am_up_here, if_neg (by omega)]
        · rw [am_up_here, if_neg (by omega)]
      · exact e2 q j hq (by omega) h2
    · intro q j hq h2
      unfold mr16 at hq e3
      rw [e3 q j (by omega) h2, am_up_ne (by omega), am_up_ne (by omega), am_up_ne (by omega)]
/-- what resetAll leaves -/
def MR (I I1 : Nat → Nat → Int32) (J J1 : Nat → Nat → Int64) : Prop := (∀ q j, mr5 q → j < 32 → I1 q j = 0) ∧ (∀ q j, mr8 q → j < 8 → I1 q j = 0) ∧ (∀ q j, mj8 q → j < 8 → J1 q j = -1) ∧ (∀ q j, mr16 q → j < 16 → I1 q j = if q = 79 ∧ j = 0 then 1 else 0) ∧ I1 49 45 = 0 ∧ I1 49 46 = 0 ∧ I1 49 47 = 0 ∧ J1 49 44 = 0 ∧ (∀ q j, (q < 49 ∨ (q = 49 ∧ j < 45) ∨ (50 ≤ q ∧ q ≤ 70) ∨ 92 ≤ q) → I1 q j = I q j) ∧ (∀ q j, (q < 49 ∨ 92 ≤ q) → J1 q j = J q j)
theorem mr_all (I : Nat → Nat → Int32) (J : Nat → Nat → Int64) (T : Nat → Nat → Nat) (L : Nat) (C : Nat × Nat) : ∃ I1 J1, am_E 132 0 [.ref 49, .null] [] (am_W I J T L C) = some (.null, am_W I1 J1 T L C) ∧ MR I I1 J J1 := by
  obtain ⟨I1, a1, a2, a3⟩ := mr_2 J T L C 32 0 I rfl
  obtain ⟨I2, J2, b1, b2, b3, b4, b5⟩ := mr_34 T L C 8 0 I1 J rfl
  obtain ⟨I3, c1, c2, d1, d2, d3, c3⟩ := mr_96 J2 T L C 16 0 I2 rfl
  unfold mr5 at a2 a3
  unfold mr8 at b2 b3
  unfold mj8 at b4 b5
  unfold mr16 at c2 c3
  refine ⟨I3, am_up J2 49 44 0, ?_, ?_, ?_, ?_, ?_, d1, d2, d3, rfl, ?_, ?_⟩
  · rw [rg_132_0]
    exact a1.trans (b1.trans c1)
  · intro q j hq hj
    unfold mr5 at hq
    rw [c3 q j (by omega) (by omega), b3 q j (by omega)]
    exact a2 q j hq (Nat.zero_le j) hj
  · intro q j hq hj
    unfold mr8 at hq
    rw [c3 q j (by omega) (by omega)]
    exact b2 q j hq (Nat.zero_le j) hj
  · intro q j hq hj
    unfold mj8 at hq
    rw [am_up_ne (by omega)]
    exact b4 q j hq (Nat.zero_le j) hj
  · intro q j hq hj
    exact c2 q j hq (Nat.zero_le j) hj
  · intro q j hq
    rw [c3 q j (by omega) (by omega), b3 q j (by omega), a3 q j (by omega)]
  · intro q j hq
    rw [am_up_ne (by omega), b5 q j (by omega)]
theorem cl_clr_v (I : Nat → Nat → Int32) : (∀ j, j < 6 → cl_clr I 24 j = if j = 3 then 1 else 0) ∧ (∀ j, j < 32 → cl_clr I 25 j = 0) ∧ (∀ j, j < 8 → cl_clr I 26 j = 0) ∧ (∀ j, j < 8 → cl_clr I 27 j = 0) ∧ (∀ q j, ¬ (24 ≤ q ∧ q ≤ 27) → cl_clr I q j = I q j) := by
  unfold cl_clr
  refine ⟨fun j hj => ?_, fun j hj => ?_, fun j hj => ?_, fun j hj => ?_, fun q j hq => ?_⟩
  · by_cases c : j = 3
    · rw [c, am_up_here]; rfl
    · rw [am_up_ne (by omega), am_fl_out (by omega), am_fl_out (by omega), am_fl_out (by omega), am_fl_in (Nat.zero_le j) hj, if_neg c]
  · rw [am_up_ne (by omega), am_fl_out (by omega), am_fl_out (by omega), am_fl_in (Nat.zero_le j) hj]
  · rw [am_up_ne (by omega), am_fl_out (by omega), am_fl_in (Nat.zero_le j) hj]
  · rw [am_up_ne (by omega), am_fl_in (Nat.zero_le j) hj]
  · rw [am_up_ne (by omega), am_fl_out (by omega), am_fl_out (by omega), am_fl_out (by omega), am_fl_out (by omega)]
/-- what startAgain leaves -/
theorem ma_v (I : Nat → Nat → Int32) : (∀ j, j < 6 → ma_clrI I 24 j = if j = 3 then 1 else 0) ∧ (∀ j, j < 32 → ma_clrI I 25 j = 0) ∧ (∀ j, j < 8 → ma_clrI I 26 j = 0) ∧ (∀ j, j < 8 → ma_clrI I 27 j = 0) ∧ (ma_clrI I 28 0 = 0 ∧ ma_clrI I 28 2 = 0 ∧ ma_clrI I 28 3 = 0 ∧ ma_clrI I 28 5 = 0 ∧ ma_clrI I 28 7 = 0 ∧ ma_clrI I 28 8 = 0 ∧ ma_clrI I 28 9 = 0 ∧ ma_clrI I 28 10 = 0) ∧ (ma_clrI I 22 2 = 0 ∧ ma_clrI I 22 3 = 0 ∧ ma_clrI I 22 4 = 0 ∧ ma_clrI I 22 5 = 0) ∧ (∀ q j, q < 22 ∨ 28 < q → ma_clrI I q j = I q j) := by
  obtain ⟨a1, a2, a3, a4, a5⟩ := cl_clr_v I
  have r : ∀ q j, q ≠ 22 → q ≠ 28 → ma_clrI I q j = cl_clr I q j := fun q j h1 h2 => by
    unfold ma_clrI pa_clr
    rw [am_up_ne (by omega), am_up_ne (by omega), am_up_ne (by omega), am_up_ne (by omega), am_up_ne (by omega), am_up_ne (by omega), am_up_ne (by omega), am_up_ne (by omega), am_up_ne (by omega), am_up_ne (by omega), am_up_ne (by omega), am_up_ne (by omega)]
  refine ⟨fun j hj => (r 24 j (by decide) (by decide)).trans (a1 j hj), fun j hj => (r 25 j (by decide) (by decide)).trans (a2 j hj), fun j hj => (r 26 j (by decide) (by decide)).trans (a3 j hj), fun j hj => (r 27 j (by decide) (by decide)).trans (a4 j hj), ⟨rfl, rfl, rfl, rfl, rfl, rfl, rfl, rfl⟩, ⟨rfl, rfl, rfl, rfl⟩, fun q j hq => (r q j (by omega) (by omega)).trans (a5 q j (by omega))⟩
theorem bt_lit : (∀ j, j < 32 → am_bt 1 j = decide (j = 0)) ∧ (∀ j, j < 32 → am_bt 0 j = false) := ⟨bt_1, fun j hj => bt_0 j hj⟩
/-- the values of the class behind its startAgain -/
def MAv (I1 : Nat → Nat → Int32) : Prop := (∀ j, j < 6 → I1 24 j = if j = 3 then 1 else 0) ∧ (∀ j, j < 32 → I1 25 j = 0) ∧ (∀ j, j < 8 → I1 26 j = 0) ∧ (∀ j, j < 8 → I1 27 j = 0) ∧ (I1 28 0 = 0 ∧ I1 28 2 = 0 ∧ I1 28 3 = 0 ∧ I1 28 5 = 0 ∧ I1 28 7 = 0 ∧ I1 28 8 = 0 ∧ I1 28 9 = 0 ∧ I1 28 10 = 0) ∧ (I1 22 2 = 0 ∧ I1 22 3 = 0 ∧ I1 22 4 = 0 ∧ I1 22 5 = 0)
/-- both begin again: the relation of the runs -/
theorem again_rel {I1 : Nat → Nat → Int32} {J1 : Nat → Nat → Int64} {I' I2 : Nat → Nat → Int32} {J' J2 : Nat → Nat → Int64} (a : MAv I1) (aj : J1 22 1 = 0) (m : MR I' I2 J' J2) (hg : R_b (I1 1 3) (I' 70) 32) : Rel_s I1 J1 I2 J2 := by
  obtain ⟨a1, a2, a3, a4, ⟨p0, p2, p3, p5, p7, p8, p9, p10⟩, ⟨q2, q3, q4, q5⟩⟩ := a
  obtain ⟨m1, m2, m3, m4, m5, m6, m7, m8, m9, m10⟩ := m
  have z : ∀ (f : Nat → Int32) n, n ≤ 32 → (∀ j, j < n → f j = 0) → R_b 0 f n := fun f n hn hf j hj => by rw [hf j hj, bt_0 j (by omega)]; rfl
  have z5 : ∀ q, mr5 q → ∀ j, j < 32 → I2 q j = 0 := fun q hq j hj => m1 q j hq hj
  have z8 : ∀ q, mr8 q → ∀ j, j < 8 → I2 q j = 0 := fun q hq j hj => m2 q j hq hj
  have hi1 : R_hi 1 := fun j h1 h2 => by rw [bt_1 j h2]; exact decide_eq_false (by omega)
  have rt : ∀ (b s : Nat → Int64), (∀ j, j < 8 → s j = -1) → R_t 0 b s := fun b s hs j hj => Or.inr ⟨bt_0 j (by omega), hs j hj⟩
  refine ⟨⟨⟨?_, ?_, ?_, ?_, ?_, ?_, ?_, ?_, ?_, ?_⟩, ⟨?_, ?_, ?_, ?_, ?_, ?_, ?_, ?_, ?_⟩, ?_, ?_⟩, ?_, ?_, ?_, ?_, ?_, ?_⟩
  · rw [a1 0 (by decide)]; exact z _ _ (by decide) (z5 71 (Or.inl ⟨by decide, by decide⟩))
  · rw [a1 1 (by decide)]; exact z _ _ (by decide) (z5 72 (Or.inl ⟨by decide, by decide⟩))
  · rw [a1 2 (by decide)]; exact z _ _ (by decide) (z5 73 (Or.inl ⟨by decide, by decide⟩))
  · rw [a1 3 (by decide)]
    intro j hj
    show I2 79 j = am_b01 (am_bt 1 j)
    rw [m4 79 j (Or.inl rfl) hj, bt_1 j (by omega)]
    by_cases c : j = 0
    · rw [if_pos ⟨rfl, c⟩, decide_eq_true c]; rfl
    · rw [if_neg (fun h => c h.2), decide_eq_false c]; rfl
  · rw [a1 4 (by decide)]; exact z _ _ (by decide) (z8 76 (Or.inl ⟨by decide, by decide⟩))
  · rw [a1 5 (by decide)]; exact z _ _ (by decide) (z8 78 (Or.inl ⟨by decide, by decide⟩))
  · intro j hj; rw [a2 j hj]; exact z5 74 (Or.inl ⟨by decide, by decide⟩) j hj
  · intro j hj; rw [a3 j hj]; exact z8 75 (Or.inl ⟨by decide, by decide⟩) j hj
  · intro j hj; rw [a4 j hj]; exact z8 77 (Or.inl ⟨by decide, by decide⟩) j hj
  · rw [a1 3 (by decide)]; exact hi1
  · rw [p0]; exact rt _ _ (fun j hj => m3 81 j (Or.inl rfl) hj)
  · rw [p2]; exact z _ _ (by decide) (z8 82 (Or.inr (Or.inl rfl)))
  · rw [p3]; exact rt _ _ (fun j hj => m3 83 j (Or.inr (Or.inl rfl)) hj)
  · rw [p5]; exact rt _ _ (fun j hj => m3 84 j (Or.inr (Or.inr rfl)) hj)
  · rw [p5]
    exact fun j hj => Or.inr ⟨bt_0 j (by omega), z8 85 (Or.inr (Or.inr ⟨by decide, by decide⟩)) j hj⟩
  · rw [p7]; exact z _ _ (by decide) (z8 86 (Or.inr (Or.inr ⟨by decide, by decide⟩)))
  · rw [p8]; exact z _ _ (by decide) (z8 87 (Or.inr (Or.inr ⟨by decide, by decide⟩)))
  · rw [p9]
    exact z _ _ (by decide) (fun j hj => by rw [m4 88 j (Or.inr (Or.inl rfl)) hj, if_neg (by omega)])
  · rw [p10]
    exact z _ _ (by decide) (fun j hj => by rw [m4 89 j (Or.inr (Or.inr rfl)) hj, if_neg (by omega)])
  · rw [m8, aj]
  · rw [aj]; decide
  · have e : I2 70 = I' 70 := funext fun j => m9 70 j (by omega)
    rw [e]; exact hg
  · rw [q2]; exact z _ _ (by decide) (z5 80 (Or.inr rfl))
  · rw [m5, q3]
  · exact Or.inl q3
  · rw [m6, q4]
  · rw [m7, q5]
theorem MAv_clr (I : Nat → Nat → Int32) : MAv (ma_clrI I) := by
  obtain ⟨a1, a2, a3, a4, a5, a6, a7⟩ := ma_v I
  exact ⟨a1, a2, a3, a4, a5, a6⟩

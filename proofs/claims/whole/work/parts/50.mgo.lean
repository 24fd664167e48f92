/-! THE MODEL'S CHART: the go loop, the chart whole. -/
def mg_ok (I : Nat → Nat → Int32) (g : Nat) : Prop := I 64 g = 0 ∨ ∃ k, I 65 g = nI k ∧ mcvok k (I 66 g)
def mg_open (I : Nat → Nat → Int32) (g : Nat) : Bool := decide (I 64 g = 0) || (decide (mcv I (I 65 g).toNatClampNeg (I 66 g) ≠ 0) == decide (I 64 g = 1))
def mg_take (s : Int32 × Int32 × (Nat → Nat → Int32)) (g : Nat) : Int32 × Int32 × (Nat → Nat → Int32) := (s.1 ||| s.2.2 63 g, s.2.1 ||| s.2.2 62 g, am_flf (am_up s.2.2 49 47 (s.2.2 49 47 + 1)) 79 0 16 (fun k => cond (am_bt (s.2.2 62 g) k) 0 (s.2.2 79 k)))
def mg_may (was : Int32) (s : Int32 × Int32 × (Nat → Nat → Int32)) (g : Nat) : Bool := decide (s.2.2 62 g &&& (was ^^^ (-1)) = 0) && decide (s.2.2 62 g &&& s.2.1 = 0)
def mg_step (was : Int32) (s : Int32 × Int32 × (Nat → Nat → Int32)) (g : Nat) : Int32 × Int32 × (Nat → Nat → Int32) := cond (mg_may was s g && mg_open s.2.2 g) (mg_take s g) s
def mg_run (was : Int32) : Nat → Nat → Int32 × Int32 × (Nat → Nat → Int32) → Int32 × Int32 × (Nat → Nat → Int32)
  | 0, _, s => s
  | d + 1, g, s => mg_run was d (g + 1) (mg_step was s g)
theorem mcvok_lt {k : Nat} {x : Int32} (h : mcvok k x) : k < 10 := by
  rcases h with h | ⟨j, _, h⟩ <;> omega
theorem mg_102 (I : Nat → Nat → Int32) (J : Nat → Nat → Int64) (T : Nat → Nat → Nat) (L : Nat) (C : Nat × Nat) {g : Nat} (hg : g < 32) (x1 x2 x3 x5 x6 : Int32) (v7 : Value) (b : Bool) : ∃ v5' v6' v7', am_E 148 102 [.ref 49, .int x1, .int x2, .int x3, .int (nI g), .int x5, .int x6, v7] [.int (am_b01 b)] (am_W I J T L C) = am_E 148 27 [.ref 49, .int x1, .int (cond b (mg_take (x2, x3, I) g) (x2, x3, I)).1, .int (cond b (mg_take (x2, x3, I) g) (x2, x3, I)).2.1, .int (nI (g + 1)), v5', v6', v7'] [] (am_W (cond b (mg_take (x2, x3, I) g) (x2, x3, I)).2.2 J T L C) := by
  rw [rg_148_102]
  cases b with
  | false =>
    refine ⟨.int (am_b01 false), .int x6, v7, ?_⟩
    rw [if_pos (show am_b01 false = 0 from rfl), nI_1]
    rfl
  | true =>
    refine ⟨.int (am_b01 true), .int x6, .int (nI 16), ?_⟩
    rw [if_neg (show ¬ am_b01 true = 0 by decide), am_inb_ok hg (by decide), am_inb_ok hg (by decide), nI_clamp (by omega)]
    exact mc_left J T L C hg x1 _ _ _ _ (fun k => cond (am_bt (I 62 g) k) 0 (I 79 k)) (I 62 g) 16 0 _ rfl (by rw [am_up_at, if_neg (by omega)]) (fun k _ => by rw [am_up_at, if_neg (by omega)])
theorem mg_58 (I : Nat → Nat → Int32) (J : Nat → Nat → Int64) (T : Nat → Nat → Nat) (L : Nat) (C : Nat × Nat) {g : Nat} (hg : g < 32) (ok : mg_ok I g) (x1 x2 x3 : Int32) (v5 v6 v7 : Value) (a : Bool) : ∃ v5' v6' v7', am_E 148 58 [.ref 49, .int x1, .int x2, .int x3, .int (nI g), v5, v6, v7] [.int (am_b01 a)] (am_W I J T L C) = am_E 148 27 [.ref 49, .int x1, .int (cond (a && mg_open I g) (mg_take (x2, x3, I) g) (x2, x3, I)).1, .int (cond (a && mg_open I g) (mg_take (x2, x3, I) g) (x2, x3, I)).2.1, .int (nI (g + 1)), v5', v6', v7'] [] (am_W (cond (a && mg_open I g) (mg_take (x2, x3, I) g) (x2, x3, I)).2.2 J T L C) := by
  have t102 : ∀ x5 x6 b, b = (a && mg_open I g) → ∃ v5' v6' v7', am_E 148 102 [.ref 49, .int x1, .int x2, .int x3, .int (nI g), .int x5, .int x6, v7] [.int (am_b01 b)] (am_W I J T L C) = am_E 148 27 [.ref 49, .int x1, .int (cond (a && mg_open I g) (mg_take (x2, x3, I) g) (x2, x3, I)).1, .int (cond (a && mg_open I g) (mg_take (x2, x3, I) g) (x2, x3, I)).2.1, .int (nI (g + 1)), v5', v6', v7'] [] (am_W (cond (a && mg_open I g) (mg_take (x2, x3, I) g) (x2, x3, I)).2.2 J T L C) := by
    intro x5 x6 b hb
    rw [← hb]
    exact mg_102 I J T L C hg x1 x2 x3 x5 x6 v7 b
  rw [rg_148_58, am_inb_ok hg (by decide), nI_clamp (by omega)]
  by_cases h0 : I 64 g = 0
  · rw [if_pos h0, rg_148_76, am_inb_ok hg (by decide), nI_clamp (by omega)]
    cases a with
    | false =>
      rw [if_pos (show am_b01 false = 0 from rfl), rg_148_101]
      exact t102 _ _ false rfl
    | true =>
      rw [if_neg (show ¬ am_b01 true = 0 by decide), if_pos h0, rg_148_99]
      exact t102 _ _ true (by unfold mg_open; rw [decide_eq_true h0]; rfl)
  · obtain ⟨k, hk, hok⟩ := ok.resolve_left h0
    have hk10 := mcvok_lt hok
    have hop : mg_open I g = (decide (mcv I k (I 66 g) ≠ 0) == decide (I 64 g = 1)) := by
      unfold mg_open
      rw [decide_eq_false h0, hk, nI_clamp (by omega)]
      rfl
    rw [if_neg h0, am_inb_ok hg (by decide), am_inb_ok hg (by decide), hk, mo_cell _ _ _ _ _ hok, am_okb, am_vIi, rg_148_76, am_inb_ok hg (by decide), nI_clamp (by omega), if_neg h0]
    cases a with
    | false =>
      rw [if_pos (show am_b01 false = 0 from rfl), rg_148_101]
      exact t102 _ _ false rfl
    | true =>
      rw [if_neg (show ¬ am_b01 true = 0 by decide)]
      have t89 : ∀ c : Bool, c = decide (mcv I k (I 66 g) ≠ 0) → ∃ v5' v6' v7', am_E 148 89 [.ref 49, .int x1, .int x2, .int x3, .int (nI g), .int (am_b01 true), .int (mcv I k (I 66 g)), v7] [.int (am_b01 c)] (am_W I J T L C) = am_E 148 27 [.ref 49, .int x1, .int (cond (true && mg_open I g) (mg_take (x2, x3, I) g) (x2, x3, I)).1, .int (cond (true && mg_open I g) (mg_take (x2, x3, I) g) (x2, x3, I)).2.1, .int (nI (g + 1)), v5', v6', v7'] [] (am_W (cond (true && mg_open I g) (mg_take (x2, x3, I) g) (x2, x3, I)).2.2 J T L C) := by
        intro c hc
        have t98 : ∀ e : Bool, e = decide (I 64 g = 1) → ∃ v5' v6' v7', am_E 148 98 [.ref 49, .int x1, .int x2, .int x3, .int (nI g), .int (am_b01 true), .int (mcv I k (I 66 g)), v7] [.int (am_b01 e), .int (am_b01 c)] (am_W I J T L C) = am_E 148 27 [.ref 49, .int x1, .int (cond (true && mg_open I g) (mg_take (x2, x3, I) g) (x2, x3, I)).1, .int (cond (true && mg_open I g) (mg_take (x2, x3, I) g) (x2, x3, I)).2.1, .int (nI (g + 1)), v5', v6', v7'] [] (am_W (cond (true && mg_open I g) (mg_take (x2, x3, I) g) (x2, x3, I)).2.2 J T L C) := by
          intro e he
          rw [rg_148_98]
          by_cases hce : c = e
          · rw [if_pos (by rw [hce]), rg_148_99]
            exact t102 _ _ true (by rw [hop, ← hc, ← he, hce]; cases e <;> rfl)
          · rw [if_neg (fun h => hce ((am_b01_eq c e).mp h)), rg_148_101]
            exact t102 _ _ false (by rw [hop, ← hc, ← he]; cases c <;> cases e <;> first | rfl | exact absurd rfl hce)
        rw [rg_148_89, am_inb_ok hg (by decide), nI_clamp (by omega)]
        by_cases h1 : I 64 g = 1
        · rw [if_pos h1]; exact t98 true (decide_eq_true h1).symm
        · rw [if_neg h1]; exact t98 false (decide_eq_false h1).symm
      by_cases hv : mcv I k (I 66 g) = 0
      · rw [if_pos hv]; exact t89 false (by rw [hv]; rfl)
      · rw [if_neg hv]; exact t89 true (decide_eq_true hv).symm
theorem mo_own16 {o : Nat} (ho : o < 2) : 16 * nI o = nI (16 * o) := by
  have h : ∀ o, o < 2 → 16 * nI o = nI (16 * o) := by decide +kernel
  exact h o ho
theorem mg_turn (I : Nat → Nat → Int32) (J : Nat → Nat → Int64) (T : Nat → Nat → Nat) (L : Nat) (C : Nat × Nat) {o g n : Nat} (ho : o < 2) (hn : n ≤ 16) (hO : I 49 22 = nI o) (hN : I 67 o = nI n) (h1 : 16 * o ≤ g) (h2 : g < 16 * o + n) (ok : mg_ok I g) (x1 x2 x3 : Int32) (v5 v6 v7 : Value) : ∃ v5' v6' v7', am_E 148 27 [.ref 49, .int x1, .int x2, .int x3, .int (nI g), v5, v6, v7] [] (am_W I J T L C) = am_E 148 27 [.ref 49, .int x1, .int (mg_step x1 (x2, x3, I) g).1, .int (mg_step x1 (x2, x3, I) g).2.1, .int (nI (g + 1)), v5', v6', v7'] [] (am_W (mg_step x1 (x2, x3, I) g).2.2 J T L C) := by
  have hg : g < 32 := by omega
  have t58 := fun a => mg_58 I J T L C hg ok x1 x2 x3 v5 v6 v7 a
  rw [rg_148_27, hO, am_inb_ok ho (by decide), nI_clamp (by omega), hN, mo_own16 ho, nI_add, if_neg (nI_ge h2 (by omega)), am_inb_ok hg (by decide), nI_clamp (by omega), am_inb_ok hg (by decide), rg_148_57]
  show ∃ v5' v6' v7', _ = am_E 148 27 [.ref 49, .int x1, .int (cond (mg_may x1 (x2, x3, I) g && mg_open I g) (mg_take (x2, x3, I) g) (x2, x3, I)).1, .int (cond (mg_may x1 (x2, x3, I) g && mg_open I g) (mg_take (x2, x3, I) g) (x2, x3, I)).2.1, .int (nI (g + 1)), v5', v6', v7'] [] (am_W (cond (mg_may x1 (x2, x3, I) g && mg_open I g) (mg_take (x2, x3, I) g) (x2, x3, I)).2.2 J T L C)
  have hm : mg_may x1 (x2, x3, I) g = (decide (I 62 g &&& (x1 ^^^ (-1)) = 0) && decide (I 62 g &&& x3 = 0)) := rfl
  rw [hm]
  by_cases c1 : I 62 g &&& (x1 ^^^ (-1)) = 0
  · rw [if_pos c1, decide_eq_true c1]
    by_cases c2 : I 62 g &&& x3 = 0
    · rw [if_pos c2, decide_eq_true c2]; exact t58 true
    · rw [if_neg c2, decide_eq_false c2]; exact t58 false
  · rw [if_neg c1, decide_eq_false c1]; exact t58 false
theorem mg_step_keep (was : Int32) (s : Int32 × Int32 × (Nat → Nat → Int32)) (g q k : Nat) (h1 : ¬ (q = 49 ∧ k = 47)) (h2 : q ≠ 79) : (mg_step was s g).2.2 q k = s.2.2 q k := by
  unfold mg_step
  cases (mg_may was s g && mg_open s.2.2 g) with
  | false => rfl
  | true =>
    show am_flf (am_up s.2.2 49 47 (s.2.2 49 47 + 1)) 79 0 16 (fun k => cond (am_bt (s.2.2 62 g) k) 0 (s.2.2 79 k)) q k = s.2.2 q k
    unfold am_flf
    rw [if_neg (by omega), am_up_at, if_neg (by omega)]
theorem mg_run_keep (was : Int32) : ∀ (d g : Nat) (s : Int32 × Int32 × (Nat → Nat → Int32)) (q k : Nat), ¬ (q = 49 ∧ k = 47) → q ≠ 79 → (mg_run was d g s).2.2 q k = s.2.2 q k := by
  intro d
  induction d with
  | zero => intros; rfl
  | succ d ih =>
    intro g s q k h1 h2
    show (mg_run was d (g + 1) (mg_step was s g)).2.2 q k = _
    rw [ih _ _ _ _ h1 h2, mg_step_keep _ _ _ _ _ h1 h2]
theorem mg_ok_keep {I I' : Nat → Nat → Int32} {g : Nat} (h : ∀ q k, ¬ (q = 49 ∧ k = 47) → q ≠ 79 → I' q k = I q k) (ok : mg_ok I g) : mg_ok I' g := by
  unfold mg_ok
  rw [h 64 g (by omega) (by decide), h 65 g (by omega) (by decide), h 66 g (by omega) (by decide)]
  exact ok
theorem mg_loop (J : Nat → Nat → Int64) (T : Nat → Nat → Nat) (L : Nat) (C : Nat × Nat) {o n : Nat} (x1 : Int32) (ho : o < 2) (hn : n ≤ 16) : ∀ (d g : Nat) (s : Int32 × Int32 × (Nat → Nat → Int32)) (v5 v6 v7 : Value), 16 * o ≤ g → g + d = 16 * o + n → s.2.2 49 22 = nI o → s.2.2 67 o = nI n → (∀ g, 16 * o ≤ g → g < 16 * o + n → mg_ok s.2.2 g) → ∃ v5' v6' v7', am_E 148 27 [.ref 49, .int x1, .int s.1, .int s.2.1, .int (nI g), v5, v6, v7] [] (am_W s.2.2 J T L C) = am_E 148 156 [.ref 49, .int x1, .int (mg_run x1 d g s).1, .int (mg_run x1 d g s).2.1, .int 0, v5', v6', v7'] [] (am_W (mg_run x1 d g s).2.2 J T L C) := by
  intro d
  induction d with
  | zero =>
    intro g s v5 v6 v7 h1 h2 hO hN ok
    refine ⟨v5, v6, v7, ?_⟩
    have e : g = 16 * o + n := by omega
    subst e
    rw [rg_148_27, hO, am_inb_ok ho (by decide), nI_clamp (by omega), hN, mo_own16 ho, nI_add, if_pos (nI_le (Nat.le_refl _) (by omega))]
    rfl
  | succ d ih =>
    intro g s v5 v6 v7 h1 h2 hO hN ok
    have kp := mg_step_keep x1 s g
    obtain ⟨a5, a6, a7, e1⟩ := mg_turn s.2.2 J T L C ho hn hO hN h1 (by omega) (ok g h1 (by omega)) x1 s.1 s.2.1 v5 v6 v7
    obtain ⟨b5, b6, b7, e2⟩ := ih (g + 1) (mg_step x1 s g) a5 a6 a7 (by omega) (by omega) (by rw [kp _ _ (by omega) (by decide)]; exact hO) (by rw [kp _ _ (by omega) (by decide)]; exact hN) (fun g' ha hb => mg_ok_keep kp (ok g' ha hb))
    exact ⟨b5, b6, b7, e1.trans e2⟩
def mc_mid (o n : Nat) (I : Nat → Nat → Int32) : Nat → Nat → Int32 := am_flf (mg_run (mc_was (I 79) 16 0 0) n (16 * o) (0, 0, I)).2.2 79 0 16 (fun k => cond (am_bt (mg_run (mc_was (I 79) 16 0 0) n (16 * o) (0, 0, I)).1 k) 1 ((mg_run (mc_was (I 79) 16 0 0) n (16 * o) (0, 0, I)).2.2 79 k))
def mc_all (o n : Nat) (I : Nat → Nat → Int32) : Nat → Nat → Int32 := mc_acts o (mc_mid o n I)
theorem mc_mid_keep (o n : Nat) (I : Nat → Nat → Int32) (q k : Nat) (h1 : ¬ (q = 49 ∧ k = 47)) (h2 : q ≠ 79) : mc_mid o n I q k = I q k := by
  unfold mc_mid am_flf
  rw [if_neg (by omega), mg_run_keep _ _ _ _ _ _ h1 h2]
theorem mc_chart (I : Nat → Nat → Int32) (J : Nat → Nat → Int64) (T : Nat → Nat → Nat) (L : Nat) (C : Nat × Nat) {o n : Nat} (ho : o < 2) (hn : n ≤ 16) (hO : I 49 22 = nI o) (hN : I 67 o = nI n) (ok : ∀ g, 16 * o ≤ g → g < 16 * o + n → mg_ok I g) (oka : ∀ g, g < 48 → ma_ok I (48 * o + g)) : am_E 148 0 [.ref 49, .null, .null, .null, .null, .null, .null, .null] [] (am_W I J T L C) = some (.null, am_W (mc_all o n I) J T L C) := by
  rw [rg_148_0]
  have e0 := mc_was1 I J T L C 0 .null .null .null .null 16 0 0 rfl
  refine (show am_E 148 6 _ _ _ = _ from e0).trans ?_
  rw [hO, mo_own16 ho]
  obtain ⟨v5, v6, v7, e1⟩ := mg_loop J T L C (o := o) (n := n) (mc_was (I 79) 16 0 0) ho hn n (16 * o) (0, 0, I) .null .null .null (Nat.le_refl _) rfl hO hN ok
  refine e1.trans ?_
  have e2 := mc_enter J T L C (mc_was (I 79) 16 0 0) (mg_run (mc_was (I 79) 16 0 0) n (16 * o) (0, 0, I)).1 (mg_run (mc_was (I 79) 16 0 0) n (16 * o) (0, 0, I)).2.1 v5 v6 v7 (fun k => cond (am_bt (mg_run (mc_was (I 79) 16 0 0) n (16 * o) (0, 0, I)).1 k) 1 ((mg_run (mc_was (I 79) 16 0 0) n (16 * o) (0, 0, I)).2.2 79 k)) 16 0 (mg_run (mc_was (I 79) 16 0 0) n (16 * o) (0, 0, I)).2.2 rfl (fun k _ => rfl)
  refine (show am_E 148 156 _ _ _ = _ from e2).trans ?_
  have km := mc_mid_keep o n I
  exact mc_3 (mc_mid o n I) J T L C _ _ _ v5 v6 v7 ho (by rw [km _ _ (by omega) (by decide)]; exact hO) (fun g hg => by
    rcases oka g hg with h | ⟨k, m, a, b, c⟩
    · exact Or.inl (by rw [km _ _ (by omega) (by decide)]; exact h)
    · exact Or.inr ⟨k, m, by rw [km _ _ (by omega) (by decide)]; exact a, by rw [km _ _ (by omega) (by decide)]; exact b, c⟩)

/-! THE CHART'S GO's in both. -/
theorem bt_and (x y : Int32) (k : Nat) : am_bt (x &&& y) k = (am_bt x k && am_bt y k) := by
  unfold am_bt
  rw [Int32.toBitVec_and, BitVec.getLsbD_and]
theorem bt_or (x y : Int32) (k : Nat) : am_bt (x ||| y) k = (am_bt x k || am_bt y k) := by
  unfold am_bt
  rw [Int32.toBitVec_or, BitVec.getLsbD_or]
theorem bt_not (x : Int32) {k : Nat} (hk : k < 32) : am_bt (x ^^^ (-1)) k = !am_bt x k := by
  unfold am_bt
  rw [Int32.toBitVec_xor, bt_m1, BitVec.getLsbD_xor, BitVec.getLsbD_allOnes, decide_eq_true hk, Bool.xor_true]
theorem bt_0 : ∀ k, k < 32 → am_bt 0 k = false := by decide +kernel
theorem bt_zero (x : Int32) : x = 0 ↔ ∀ k, k < 32 → am_bt x k = false := by
  constructor
  · intro h k hk; rw [h]; exact bt_0 k hk
  · intro h; exact bt_ext fun k hk => by rw [h k hk, bt_0 k hk]
theorem bt_sub (a b : Int32) : a &&& b = b ↔ ∀ k, k < 32 → am_bt b k = true → am_bt a k = true := by
  constructor
  · intro h k hk hb
    have e := bt_and a b k
    rw [h, hb, Bool.and_true] at e
    exact e.symm
  · intro h
    refine bt_ext fun k hk => ?_
    rw [bt_and]
    cases hb : am_bt b k with
    | false => rw [Bool.and_false]
    | true => rw [h k hk hb]; rfl
theorem am_flf_row (I : Nat → Nat → Int32) (q a b : Nat) (f : Nat → Int32) {r : Nat} (h : r ≠ q) : am_flf I q a b f r = I r := by
  funext k
  unfold am_flf
  rw [if_neg (fun e => h e.1)]
theorem am_flf_in (I : Nat → Nat → Int32) (q a b : Nat) (f : Nat → Int32) {k : Nat} (h : a ≤ k) (h2 : k < b) : am_flf I q a b f q k = f k := by
  unfold am_flf
  rw [if_pos ⟨rfl, h, h2⟩]
def PG (o : Nat) (I I' : Nat → Nat → Int32) (g : Nat) : Prop := I' 62 (16 * o + g) = I 36 g ∧ I' 63 (16 * o + g) = I 37 g ∧ I' 64 (16 * o + g) = I 38 g ∧ (I 38 g = 0 ∨ ∃ ck, I 39 g = nI ck ∧ op_ok ck (I 40 g) ∧ I' 65 (16 * o + g) = nI (cmk ck) ∧ I' 66 (16 * o + g) = I 40 g) ∧ R_hi (I 37 g)
theorem PG_keep {o g : Nat} {I I1 I' I2 : Nat → Nat → Int32} (h : ∀ q k, 33 ≤ q → q ≤ 48 → I1 q k = I q k) (h' : ∀ q k, 50 ≤ q → q ≤ 70 → I2 q k = I' q k) (p : PG o I I' g) : PG o I1 I2 g := by
  unfold PG
  rw [h 36 g (by decide) (by decide), h 37 g (by decide) (by decide), h 38 g (by decide) (by decide), h 39 g (by decide) (by decide), h 40 g (by decide) (by decide), h' 62 _ (by decide) (by decide), h' 63 _ (by decide) (by decide), h' 64 _ (by decide) (by decide), h' 65 _ (by decide) (by decide), h' 66 _ (by decide) (by decide)]
  exact p
theorem PG_go {o g : Nat} {I I' : Nat → Nat → Int32} (p : PG o I I' g) : go_ok I g := by
  obtain ⟨_, _, _, h | ⟨ck, h1, h2, _⟩, _⟩ := p
  · exact Or.inl h
  · exact Or.inr ⟨ck, h1, op_ok_cvok h2⟩
theorem PG_mg {o g : Nat} {I I' : Nat → Nat → Int32} (p : PG o I I' g) : mg_ok I' (16 * o + g) := by
  obtain ⟨_, _, e, h | ⟨ck, h1, h2, h3, h4⟩, _⟩ := p
  · exact Or.inl (by rw [e]; exact h)
  · exact Or.inr ⟨cmk ck, h3, by rw [h4]; exact op_ok_mcvok h2⟩
theorem cmk_lt {k : Nat} (h : k < 12) : cmk k < 11 := by
  have q : ∀ k, k < 12 → cmk k < 11 := by decide
  exact q k h
theorem op_ok_lt {k : Nat} {x : Int32} (h : op_ok k x) : k < 12 := cvok_lt (op_ok_cvok h)
theorem PG_open {o g : Nat} {I I' : Nat → Nat → Int32} (R : R_cells I I') (p : PG o I I' g) : mg_open I' (16 * o + g) = go_open I g := by
  obtain ⟨_, _, e, h | ⟨ck, h1, h2, h3, h4⟩, _⟩ := p
  · unfold mg_open go_open
    rw [e, h, decide_eq_true rfl, Bool.true_or, Bool.true_or]
  · unfold mg_open go_open
    have k1 := op_ok_lt h2
    have k2 := cmk_lt k1
    rw [e, h1, h3, h4, nI_clamp (n := ck) (by omega), nI_clamp (n := cmk ck) (by omega), cv_mcv R h2]
    congr 1
    cases decide (I 38 g = 1) <;> cases decide (cv I ck (I 40 g) ≠ 0) <;> rfl
/-- the go's halfway: what the class holds and what the model holds -/
def GS (was : Int32) (s : Int32 × (Nat → Nat → Int32)) (t : Int32 × Int32 × (Nat → Nat → Int32)) : Prop := s.1 = t.1 ∧ R_hi s.1 ∧ (∀ k, k < 32 → am_bt (s.2 24 3) k = (am_bt was k && !am_bt t.2.1 k)) ∧ R_cells s.2 t.2.2 ∧ t.2.2 49 47 = s.2 22 5
theorem GS_may {was : Int32} {s : Int32 × (Nat → Nat → Int32)} {t : Int32 × Int32 × (Nat → Nat → Int32)} {o g : Nat} (h : GS was s t) (p : PG o s.2 t.2.2 g) : mg_may was t (16 * o + g) = decide (s.2 24 3 &&& s.2 36 g = s.2 36 g) := by
  obtain ⟨h1, h2, h3, h4, h5⟩ := h
  unfold mg_may
  rw [p.1]
  generalize s.2 36 g = b at *
  generalize s.2 24 3 = a at *
  generalize t.2.1 = l at *
  by_cases hs : a &&& b = b
  · rw [decide_eq_true hs]
    have hs' := (bt_sub a b).mp hs
    have z1 : b &&& (was ^^^ (-1)) = 0 := (bt_zero _).mpr fun k hk => by
      rw [bt_and, bt_not _ hk]
      cases hb : am_bt b k with
      | false => rfl
      | true =>
        have ha := hs' k hk hb
        rw [h3 k hk] at ha
        cases hw : am_bt was k with
        | true => rfl
        | false => rw [hw, Bool.false_and] at ha; exact absurd ha (by decide)
    have z2 : b &&& l = 0 := (bt_zero _).mpr fun k hk => by
      rw [bt_and]
      cases hb : am_bt b k with
      | false => rfl
      | true =>
        have ha := hs' k hk hb
        rw [h3 k hk] at ha
        cases hw : am_bt l k with
        | false => rfl
        | true => rw [hw, Bool.not_true, Bool.and_false] at ha; exact absurd ha (by decide)
    rw [decide_eq_true z1, decide_eq_true z2]
    rfl
  · rw [decide_eq_false hs]
    by_cases z1 : b &&& (was ^^^ (-1)) = 0
    · by_cases z2 : b &&& l = 0
      · exfalso
        apply hs
        refine (bt_sub a b).mpr fun k hk hb => ?_
        have y1 := (bt_zero _).mp z1 k hk
        have y2 := (bt_zero _).mp z2 k hk
        rw [bt_and, bt_not _ hk, hb, Bool.true_and] at y1
        rw [bt_and, hb, Bool.true_and] at y2
        rw [h3 k hk, y2]
        cases hw : am_bt was k with
        | true => rfl
        | false => rw [hw] at y1; exact absurd y1 (by decide)
      · rw [decide_eq_false z2, Bool.and_false]
    · rw [decide_eq_false z1, Bool.false_and]
theorem GS_step {was : Int32} {s : Int32 × (Nat → Nat → Int32)} {t : Int32 × Int32 × (Nat → Nat → Int32)} {o g : Nat} (h : GS was s t) (p : PG o s.2 t.2.2 g) : GS was (go_step s g) (mg_step was t (16 * o + g)) := by
  have hm := GS_may h p
  have ho := PG_open h.2.2.2.1 p
  unfold mg_step go_step
  rw [hm, ho]
  by_cases c : s.2 24 3 &&& s.2 36 g = s.2 36 g ∧ go_open s.2 g = true
  · rw [if_pos c, decide_eq_true c.1, c.2]
    obtain ⟨h1, h2, h3, ⟨c0, c1, c2, c3, c4, c5, c6, c7, c8, c9⟩, h5⟩ := h
    obtain ⟨p1, p2, p3, p4, p5⟩ := p
    have hr : ∀ r, r ≠ 79 → r ≠ 49 → (mg_take t (16 * o + g)).2.2 r = t.2.2 r := by
      intro r hr h49
      show am_flf (am_up t.2.2 49 47 (t.2.2 49 47 + 1)) 79 0 16 _ r = _
      rw [am_flf_row _ _ _ _ _ hr]
      funext k
      rw [am_up_ne (fun e => h49 e.1)]
    show GS was (s.1 ||| s.2 37 g, am_up (am_up s.2 24 3 (s.2 24 3 &&& (s.2 36 g ^^^ (-1)))) 22 5 (s.2 22 5 + 1)) (mg_take t (16 * o + g))
    refine ⟨?_, ?_, ?_, ⟨?_, ?_, ?_, ?_, ?_, ?_, ?_, ?_, ?_, ?_⟩, ?_⟩
    · show s.1 ||| s.2 37 g = t.1 ||| t.2.2 63 (16 * o + g)
      rw [h1, p2]
    · intro k hk hk2
      show am_bt (s.1 ||| s.2 37 g) k = false
      rw [bt_or, h2 k hk hk2, p5 k hk hk2]; rfl
    · intro k hk
      show am_bt (s.2 24 3 &&& (s.2 36 g ^^^ (-1))) k = (am_bt was k && !am_bt (t.2.1 ||| t.2.2 62 (16 * o + g)) k)
      rw [bt_and, bt_not _ hk, h3 k hk, bt_or, p1]
      cases am_bt was k <;> cases am_bt t.2.1 k <;> cases am_bt (s.2 36 g) k <;> rfl
    · rw [hr 71 (by decide) (by decide)]; exact c0
    · rw [hr 72 (by decide) (by decide)]; exact c1
    · rw [hr 73 (by decide) (by decide)]; exact c2
    · intro j hj
      show am_flf _ 79 0 16 (fun k => cond (am_bt (t.2.2 62 (16 * o + g)) k) 0 (t.2.2 79 k)) 79 j = am_b01 (am_bt (s.2 24 3 &&& (s.2 36 g ^^^ (-1))) j)
      rw [am_flf_in _ _ _ _ _ (Nat.zero_le j) hj, bt_and, bt_not _ (by omega), p1, c3 j hj]
      cases am_bt (s.2 36 g) j <;> cases am_bt (s.2 24 3) j <;> rfl
    · rw [hr 76 (by decide) (by decide)]; exact c4
    · rw [hr 78 (by decide) (by decide)]; exact c5
    · rw [hr 74 (by decide) (by decide)]; exact c6
    · rw [hr 75 (by decide) (by decide)]; exact c7
    · rw [hr 77 (by decide) (by decide)]; exact c8
    · intro k hk hk2
      show am_bt (s.2 24 3 &&& (s.2 36 g ^^^ (-1))) k = false
      rw [bt_and, c9 k hk hk2]; rfl
    · show am_flf (am_up t.2.2 49 47 (t.2.2 49 47 + 1)) 79 0 16 (fun k => cond (am_bt (t.2.2 62 (16 * o + g)) k) 0 (t.2.2 79 k)) 49 47 = s.2 22 5 + 1
      rw [am_flf_row _ _ _ _ _ (by decide), am_up_here, h5]
  · rw [if_neg c]
    by_cases c1 : s.2 24 3 &&& s.2 36 g = s.2 36 g
    · have c2 : go_open s.2 g = false := by
        cases h : go_open s.2 g with
        | false => rfl
        | true => exact absurd ⟨c1, h⟩ c
      rw [c2, Bool.and_false]
      exact h
    · rw [decide_eq_false c1, Bool.false_and]
      exact h
theorem GS_run {was : Int32} {o : Nat} : ∀ (d g : Nat) (s : Int32 × (Nat → Nat → Int32)) (t : Int32 × Int32 × (Nat → Nat → Int32)), GS was s t → (∀ x, x < g + d → PG o s.2 t.2.2 x) → GS was (go_run d g s) (mg_run was d (16 * o + g) t) := by
  intro d
  induction d with
  | zero => intro g s t h _; exact h
  | succ d ih =>
    intro g s t h p
    exact ih (g + 1) _ _ (GS_step h (p g (by omega))) (fun x hx => PG_keep (fun q k h1 h2 => go_step_keep s g q k (by omega) (by omega)) (fun q k h1 h2 => mg_step_keep was t _ q k (by omega) (by omega)) (p x (by omega)))
theorem go_run_keep : ∀ (d g : Nat) (s : Int32 × (Nat → Nat → Int32)) (q k : Nat), q ≠ 24 → q ≠ 22 → (go_run d g s).2 q k = s.2 q k := by
  intro d
  induction d with
  | zero => intros; rfl
  | succ d ih =>
    intro g s q k h1 h2
    show (go_run d (g + 1) (go_step s g)).2 q k = _
    rw [ih _ _ _ _ h1 h2, go_step_keep _ _ _ _ h1 h2]
theorem go_step_22 (s : Int32 × (Nat → Nat → Int32)) (g k : Nat) (h : k ≠ 5) : (go_step s g).2 22 k = s.2 22 k := by
  unfold go_step
  split
  · show am_up _ 22 5 _ 22 k = _
    rw [am_up_ne (by omega), am_up_ne (by omega)]
  · rfl
theorem go_run_22 : ∀ (d g : Nat) (s : Int32 × (Nat → Nat → Int32)) (k : Nat), k ≠ 5 → (go_run d g s).2 22 k = s.2 22 k := by
  intro d
  induction d with
  | zero => intros; rfl
  | succ d ih =>
    intro g s k h
    show (go_run d (g + 1) (go_step s g)).2 22 k = _
    rw [ih _ _ _ h, go_step_22 _ _ _ h]
theorem bt_shl0 : ∀ i, i < 32 → ((0 : Int32) <<< (nI i &&& 31)) = 0 := by decide +kernel
theorem mc_was_bt (m : Int32) (f : Nat → Int32) (hf : R_b m f 16) : ∀ (d i : Nat) (w : Int32) (k : Nat), i + d = 16 → k < 32 → am_bt (mc_was f d i w) k = (am_bt w k || (decide (i ≤ k) && decide (k < 16) && am_bt m k)) := by
  intro d
  induction d with
  | zero =>
    intro i w k hi hk
    have e : (decide (i ≤ k) && decide (k < 16)) = false := by
      by_cases h : i ≤ k
      · rw [decide_eq_false (by omega : ¬ k < 16), Bool.and_false]
      · rw [decide_eq_false h, Bool.false_and]
    rw [e, Bool.false_and, Bool.or_false]
    rfl
  | succ d ih =>
    intro i w k hi hk
    show am_bt (mc_was f d (i + 1) (w ||| (f i <<< (nI i &&& 31)))) k = _
    rw [ih (i + 1) _ k (by omega) hk, bt_or, hf i (by omega)]
    have e : am_bt (am_b01 (am_bt m i) <<< (nI i &&& 31)) k = (decide (i = k) && am_bt m i) := by
      cases am_bt m i with
      | false =>
        show am_bt ((0 : Int32) <<< (nI i &&& 31)) k = _
        rw [bt_shl0 i (by omega), bt_0 k hk, Bool.and_false]
      | true =>
        show ((1 : Int32) <<< (nI i &&& 31)).toBitVec.getLsbD k = _
        rw [bt_one i (by omega), BitVec.getLsbD_twoPow, decide_eq_true (by omega : i < 32), Bool.true_and, Bool.and_true]
    rw [e]
    by_cases h : i = k
    · subst h
      rw [decide_eq_true rfl, decide_eq_false (by omega : ¬ i + 1 ≤ i), decide_eq_true (Nat.le_refl i), decide_eq_true (by omega : i < 16)]
      cases am_bt w i <;> cases am_bt m i <;> rfl
    · rw [decide_eq_false h, Bool.false_and, Bool.or_false]
      by_cases h2 : i ≤ k
      · rw [decide_eq_true h2, decide_eq_true (by omega : i + 1 ≤ k)]
      · rw [decide_eq_false h2, decide_eq_false (by omega : ¬ i + 1 ≤ k)]
theorem mc_was_eq {m : Int32} {f : Nat → Int32} (hf : R_b m f 16) (hh : R_hi m) : mc_was f 16 0 0 = m := by
  refine bt_ext fun k hk => ?_
  rw [mc_was_bt m f hf 16 0 0 k rfl hk, bt_0 k hk, decide_eq_true (Nat.zero_le k), Bool.false_or, Bool.true_and]
  by_cases h : k < 16
  · rw [decide_eq_true h, Bool.true_and]
  · rw [decide_eq_false h, hh k (by omega) hk]; rfl
/-- the go's whole -/
theorem GS_all {o n : Nat} {I I' : Nat → Nat → Int32} (R : R_cells I I') (h47 : I' 49 47 = I 22 5) (p : ∀ x, x < n → PG o I I' x) : R_cells (go_end (go_run n 0 (0, I))) (mc_mid o n I') ∧ mc_mid o n I' 49 47 = go_end (go_run n 0 (0, I)) 22 5 := by
  have hw : mc_was (I' 79) 16 0 0 = I 24 3 := mc_was_eq R.2.2.2.1 R.2.2.2.2.2.2.2.2.2
  have g0 : GS (I 24 3) (0, I) (0, 0, I') := by
    refine ⟨rfl, fun k _ hk => bt_0 k hk, fun k hk => ?_, R, h47⟩
    rw [bt_0 k hk, Bool.not_false, Bool.and_true]
  have g1 := GS_run (o := o) n 0 _ _ g0 (fun x hx => p x (by omega))
  unfold mc_mid
  rw [hw]
  show R_cells (am_up _ 24 3 _) _ ∧ am_flf _ 79 0 16 _ 49 47 = am_up _ 24 3 _ 22 5
  have e16 : 16 * o + 0 = 16 * o := rfl
  rw [e16] at g1
  generalize go_run n 0 (0, I) = s at *
  generalize mg_run (I 24 3) n (16 * o) (0, 0, I') = t at *
  obtain ⟨h1, h2, h3, ⟨c0, c1, c2, c3, c4, c5, c6, c7, c8, c9⟩, h5⟩ := g1
  refine ⟨⟨?_, ?_, ?_, ?_, ?_, ?_, ?_, ?_, ?_, ?_⟩, ?_⟩
  · rw [am_flf_row _ _ _ _ _ (by decide)]; exact c0
  · rw [am_flf_row _ _ _ _ _ (by decide)]; exact c1
  · rw [am_flf_row _ _ _ _ _ (by decide)]; exact c2
  · intro j hj
    show am_flf _ 79 0 16 _ 79 j = am_b01 (am_bt (s.2 24 3 ||| s.1) j)
    rw [am_flf_in _ _ _ _ _ (Nat.zero_le j) hj, bt_or, h1, c3 j hj]
    cases am_bt t.1 j <;> cases am_bt (s.2 24 3) j <;> rfl
  · rw [am_flf_row _ _ _ _ _ (by decide)]; exact c4
  · rw [am_flf_row _ _ _ _ _ (by decide)]; exact c5
  · rw [am_flf_row _ _ _ _ _ (by decide)]; exact c6
  · rw [am_flf_row _ _ _ _ _ (by decide)]; exact c7
  · rw [am_flf_row _ _ _ _ _ (by decide)]; exact c8
  · intro k hk hk2
    show am_bt (s.2 24 3 ||| s.1) k = false
    rw [bt_or, c9 k hk hk2, h2 k hk hk2]; rfl
  · rw [am_flf_row _ _ _ _ _ (by decide)]; exact h5

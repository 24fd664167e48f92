/-! THE CHART'S ACTIONS in both. -/
def PC (o : Nat) (I I' : Nat → Nat → Int32) (x : Nat) : Prop := I' 59 (48 * o + x) = I 41 x ∧ (I 41 x = 0 ∨ ((I 41 x = 1 ∨ I 41 x = 2 ∨ I 41 x = 3) ∧ ∃ ck j, (ck = 1 ∨ ck = 2) ∧ I 42 x = nI ck ∧ I 43 x = nI j ∧ j < 32 ∧ I' 60 (48 * o + x) = nI (ck + 1) ∧ I' 61 (48 * o + x) = nI j))
theorem PC_keep {o x : Nat} {I I1 I' I2 : Nat → Nat → Int32} (h : ∀ q k, 33 ≤ q → q ≤ 48 → I1 q k = I q k) (h' : ∀ q k, 50 ≤ q → q ≤ 70 → I2 q k = I' q k) (p : PC o I I' x) : PC o I1 I2 x := by
  unfold PC
  rw [h 41 x (by decide) (by decide), h 42 x (by decide) (by decide), h 43 x (by decide) (by decide), h' 59 _ (by decide) (by decide), h' 60 _ (by decide) (by decide), h' 61 _ (by decide) (by decide)]
  exact p
theorem PC_ac {o x : Nat} {I I' : Nat → Nat → Int32} (p : PC o I I' x) : ac_ok I x := by
  obtain ⟨_, h | ⟨_, ck, j, h1, h2, h3, h4, _⟩⟩ := p
  · exact Or.inl h
  · exact Or.inr ⟨ck, j, h2, h3, by omega, h4⟩
theorem PC_ma {o x : Nat} {I I' : Nat → Nat → Int32} (p : PC o I I' x) : ma_ok I' (48 * o + x) := by
  obtain ⟨e, h | ⟨_, ck, j, h1, h2, h3, h4, h5, h6⟩⟩ := p
  · exact Or.inl (by rw [e]; exact h)
  · exact Or.inr ⟨ck + 1, j, h5, h6, by omega, h4⟩
def AS (m : Int32) (I I' : Nat → Nat → Int32) : Prop := R_cells I I' ∧ I 24 3 = m
theorem AS_set {m : Int32} {o x : Nat} {I I' : Nat → Nat → Int32} (h : AS m I I') (p : PC o I I' x) (h0 : ¬ I 41 x = 0) (b : Bool) : AS m (ac_set I x b) (ma_put I' (48 * o + x) (am_b01 b)) := by
  obtain ⟨⟨c0, c1, c2, c3, c4, c5, c6, c7, c8, c9⟩, hm⟩ := h
  obtain ⟨_, ck, j, h1, h2, h3, h4, h5, h6⟩ := p.2.resolve_left h0
  unfold ac_set ma_put
  rw [h2, h3, h5, h6, nI_clamp (n := j) (by omega)]
  rcases h1 with rfl | rfl
  · rw [nI_clamp (n := 1) (by decide), nI_clamp (n := 1 + 1) (by decide)]
    exact ⟨⟨c0, R_b_set c1 (by decide) h4, c2, c3, c4, c5, c6, c7, c8, c9⟩, hm⟩
  · rw [nI_clamp (n := 2) (by decide), nI_clamp (n := 2 + 1) (by decide)]
    exact ⟨⟨c0, c1, R_b_set c2 (by decide) h4, c3, c4, c5, c6, c7, c8, c9⟩, hm⟩
theorem AS_79 {m : Int32} {I I' : Nat → Nat → Int32} {x : Nat} (h : AS m I I') (hx : x < 48) : I' 79 (x / 3) = 1 ↔ am_bt m (x / 3) = true := by
  rw [h.1.2.2.2.1 (x / 3) (by omega), h.2, am_b01_is1]
theorem bt_full : ∀ x, x < 48 → am_bt 65535 (x / 3) = true := by decide +kernel
theorem AS_0 {m : Int32} {o x : Nat} {I I' : Nat → Nat → Int32} (h : AS m I I') (p : PC o I I' x) (hx : x < 48) : AS m (ac_as 1 65535 false I x) (mc_one o 0 x I') := by
  unfold ac_as mc_one
  rw [p.1]
  by_cases h1 : I 41 x = 1
  · rw [if_pos ⟨h1, bt_full x hx⟩, if_pos h1, if_pos (Or.inl rfl)]
    exact AS_set h p (by rw [h1]; decide +kernel) false
  · rw [if_neg (fun e => h1 e.1), if_neg h1, if_neg (fun e => absurd e.2.1 (by decide))]
    exact h
theorem AS_1 {m : Int32} {o x : Nat} {I I' : Nat → Nat → Int32} (h : AS m I I') (p : PC o I I' x) (hx : x < 48) : AS m (ac_as 1 m true I x) (mc_one o 1 x I') := by
  unfold ac_as mc_one
  rw [p.1]
  by_cases h1 : I 41 x = 1
  · rw [if_pos h1]
    by_cases h2 : am_bt m (x / 3) = true
    · rw [if_pos ⟨h1, h2⟩, if_pos (Or.inr ⟨rfl, (AS_79 h hx).mpr h2⟩)]
      exact AS_set h p (by rw [h1]; decide +kernel) true
    · rw [if_neg (fun e => h2 e.2), if_neg (fun e => by rcases e with e | e; exact absurd e (by decide); exact h2 ((AS_79 h hx).mp e.2))]
      exact h
  · rw [if_neg (fun e => h1 e.1), if_neg h1, if_neg (fun e => absurd e.2.1 (by decide))]
    exact h
theorem AS_2 {m : Int32} {o x : Nat} {I I' : Nat → Nat → Int32} (h : AS m I I') (p : PC o I I' x) (hx : x < 48) : AS m (ac_sr m I x) (mc_one o 2 x I') := by
  unfold ac_sr mc_one
  rw [p.1]
  have n1 : ¬ (2 = 0 ∨ (2 = 1 ∧ I' 79 (x / 3) = 1)) := fun e => by rcases e with e | e; exact absurd e (by decide); exact absurd e.1 (by decide)
  rcases p.2 with h0 | ⟨hv, _⟩
  · rw [if_neg (fun e => by rw [h0] at e; exact absurd e.1 (by decide +kernel)), if_neg (by rw [h0]; decide +kernel), if_neg (fun e => by rw [h0] at e; exact absurd e.1 (by decide +kernel))]
    exact h
  · by_cases h1 : I 41 x = 1
    · rw [if_neg (fun e => by rw [h1] at e; exact absurd e.1 (by decide +kernel)), if_pos h1, if_neg n1]
      exact h
    · have h23 : I 41 x = 2 ∨ I 41 x = 3 := hv.resolve_left h1
      have h0 : ¬ I 41 x = 0 := by rcases h23 with e | e <;> rw [e] <;> decide +kernel
      have hlt : (1 : Int32) < I 41 x := by rcases h23 with e | e <;> rw [e] <;> decide +kernel
      rw [if_neg h1]
      by_cases h2 : am_bt m (x / 3) = true
      · rw [if_pos ⟨h23, h2⟩, if_pos ⟨hlt, rfl, (AS_79 h hx).mpr h2⟩]
        exact AS_set h p h0 _
      · rw [if_neg (fun e => h2 e.2), if_neg (fun e => h2 ((AS_79 h hx).mp e.2.2))]
        exact h
theorem AS_run {m : Int32} {o p : Nat} {f : (Nat → Nat → Int32) → Nat → (Nat → Nat → Int32)} (hk : ∀ I i q k, q ≠ 24 → f I i q k = I q k) (hs : ∀ x I I', x < 48 → AS m I I' → PC o I I' x → AS m (f I x) (mc_one o p x I')) : ∀ (d i : Nat) (I I' : Nat → Nat → Int32), i + d ≤ 48 → AS m I I' → (∀ x, x < 48 → PC o I I' x) → AS m (ac_run f d i I) (mc_run o p d i I') := by
  intro d
  induction d with
  | zero => intro i I I' _ h _; exact h
  | succ d ih =>
    intro i I I' hi h hp
    have k2 := mc_one_keep (p := p) (PC_ma (hp i (by omega)))
    exact ih (i + 1) _ _ (by omega) (hs i I I' (by omega) h (hp i (by omega))) (fun x hx => PC_keep (fun q k h1 _ => hk I i q k (by omega)) (fun q k _ h2 => k2 q k (by omega) (by omega)) (hp x hx))
/-- the actions whole -/
theorem AS_all {o : Nat} {I I' : Nat → Nat → Int32} (R : R_cells I I') (hp : ∀ x, x < 48 → PC o I I' x) : R_cells (ac_all I) (mc_acts o I') := by
  have h0 : AS (I 24 3) I I' := ⟨R, rfl⟩
  have s0 : ∀ (x : Nat) (A A' : Nat → Nat → Int32), x < 48 → AS (I 24 3) A A' → PC o A A' x → AS (I 24 3) (ac_as 1 65535 false A x) (mc_one o 0 x A') := fun x A A' hx h p => AS_0 h p hx
  have s1 : ∀ (x : Nat) (A A' : Nat → Nat → Int32), x < 48 → AS (I 24 3) A A' → PC o A A' x → AS (I 24 3) (ac_as 1 (I 24 3) true A x) (mc_one o 1 x A') := fun x A A' hx h p => AS_1 h p hx
  have s2 : ∀ (x : Nat) (A A' : Nat → Nat → Int32), x < 48 → AS (I 24 3) A A' → PC o A A' x → AS (I 24 3) (ac_sr (I 24 3) A x) (mc_one o 2 x A') := fun x A A' hx h p => AS_2 h p hx
  have kp : ∀ p (A A' : Nat → Nat → Int32) (f : (Nat → Nat → Int32) → Nat → (Nat → Nat → Int32)), (∀ I i q k, q ≠ 24 → f I i q k = I q k) → (∀ x, x < 48 → PC o A A' x) → ∀ x, x < 48 → PC o (ac_run f 48 0 A) (mc_run o p 48 0 A') x := by
    intro p A A' f hk hp x hx
    refine PC_keep (fun q k h1 _ => ac_run_keep hk 48 0 A q k (by omega)) (fun q k _ h2 => mc_run_keep 48 0 A' (by decide) (fun g hg => PC_ma (hp g hg)) q k (by omega) (by omega)) (hp x hx)
  have k0 := fun I i q k h => ac_as_keep 1 65535 false I i q k h
  have k1 := fun J i q k h => ac_as_keep 1 (I 24 3) true J i q k h
  have r0 := AS_run k0 s0 48 0 I I' (by decide) h0 hp
  have p0 := kp 0 I I' _ k0 hp
  have r1 := AS_run k1 s1 48 0 _ _ (by decide) r0 p0
  have p1 := kp 1 _ _ _ k1 p0
  exact (AS_run (fun J i q k h => ac_sr_keep (I 24 3) J i q k h) s2 48 0 _ _ (by decide) r1 p1).1
theorem ac_all_keep (I : Nat → Nat → Int32) (q k : Nat) (h : q ≠ 24) : ac_all I q k = I q k := by
  unfold ac_all
  rw [ac_run_keep (fun J i q k h => ac_sr_keep (I 24 3) J i q k h) _ _ _ _ _ h, ac_run_keep (fun J i q k h => ac_as_keep 1 (I 24 3) true J i q k h) _ _ _ _ _ h, ac_run_keep (fun J i q k h => ac_as_keep 1 65535 false J i q k h) _ _ _ _ _ h]
theorem mc_acts_keep {o : Nat} {I : Nat → Nat → Int32} (ok : ∀ g, g < 48 → ma_ok I (48 * o + g)) (q k : Nat) (h1 : q ≠ 72) (h2 : q ≠ 73) : mc_acts o I q k = I q k := by
  have kr := fun p I ok => mc_run_keep (o := o) (p := p) 48 0 I (by decide) ok
  have ok1 : ∀ g, g < 48 → ma_ok (mc_run o 0 48 0 I) (48 * o + g) := fun g hg => ma_ok_keep (kr 0 I ok) (ok g hg)
  have ok2 : ∀ g, g < 48 → ma_ok (mc_run o 1 48 0 (mc_run o 0 48 0 I)) (48 * o + g) := fun g hg => ma_ok_keep (kr 1 _ ok1) (ok1 g hg)
  unfold mc_acts
  rw [kr 2 _ ok2 q k h1 h2, kr 1 _ ok1 q k h1 h2, kr 0 _ ok q k h1 h2]

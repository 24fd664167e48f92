/-! THE RELATION OF THE TWO READERS. -/
def rI (I : Nat → Nat → Int32) : Nat → Nat → Int32 := fun q k => I (am_sig q) k
def rT (T : Nat → Nat → Nat) : Nat → Nat → Nat := fun q k => T (am_sig q) k
def PJ0 (D : Nat → Nat) (o : Nat) (I : Nat → Nat → Int32) (T : Nat → Nat → Nat) (I' : Nat → Nat → Int32) (p : Nat) : Prop := ∃ b l, b < 3 ∧ T 15 p = 1026 + b ∧ I' 51 (80 * o + p) = 20 ∧ I' 52 (80 * o + p) = nI (jh b) ∧ I 17 p = nI l ∧ l < 32 ∧ I' 54 (80 * o + p) = nI l ∧ D p = 0 ∧ D (p + 1) = 0 ∧ I 20 l ≠ -1
def V_f (I I' : Nat → Nat → Int32) : Prop := I 2 2 = 0 ∧ I 2 3 = -1 ∧ I' 49 3 = 0 ∧ I' 49 4 = -1
def V_c (h n ng d : Nat) (I I' : Nat → Nat → Int32) : Prop := h < 2 ∧ I' 49 23 = nI h ∧ n ≤ 80 ∧ I 5 6 = nI n ∧ I' 56 h = nI n ∧ ng ≤ 16 ∧ I 6 5 = nI ng ∧ I' 67 h = nI ng ∧ d ≤ 8 ∧ I 2 9 = nI d ∧ I' 49 27 = nI d
def V_i (D : Nat → Nat) (h n : Nat) (I : Nat → Nat → Int32) (T : Nat → Nat → Nat) (I' : Nat → Nat → Int32) : Prop := D 0 = 0 ∧ ∀ p, p < n → PA D h (rI I) (rT T) I' p ∨ PJ0 D h I T I' p ∨ PE D h (rT T) I' p
def V_l (D : Nat → Nat) (h n : Nat) (I I' : Nat → Nat → Int32) : Prop := ∀ l, l < 32 → I' 57 (32 * h + l) = I 19 l ∧ (I 19 l = -1 ∨ ∃ t, t ≤ n ∧ I 19 l = nI t ∧ D t = 0)
def V_s (h : Nat) (I I' : Nat → Nat → Int32) : Prop := ∀ s, s < 16 → I' 58 (16 * h + s) = am_b01 (am_bt (I 6 9) s)
def V_a (h : Nat) (I I' : Nat → Nat → Int32) : Prop := ∀ x, x < 48 → PC h (rI I) I' x
def V_g (h ng : Nat) (I I' : Nat → Nat → Int32) : Prop := ∀ g, g < ng → PG h (rI I) I' g
def NF (nc : Nat) (nm at' : Nat → Nat) (id : Nat) (x : Int32) : Prop := (x = -1 ∧ ∀ k, k < nc → nm k ≠ id) ∨ ∃ k, k < nc ∧ nm k = id ∧ x = nI (at' k) ∧ ∀ j, j < k → nm j ≠ id
def V_n (nc f : Nat) (I I' : Nat → Nat → Int32) : Prop := I' 49 32 = nI nc ∧ ∃ nm at' : Nat → Nat, (∀ k, k < nc → I' 68 k = nI (nm k) ∧ I' 69 k = nI (at' k) ∧ (nm k < 32 ∨ (100 ≤ nm k ∧ nm k < 116)) ∧ at' k < f) ∧ (∀ j k, j < k → k < nc → at' j < at' k) ∧ (∀ l, l < 32 → NF nc nm at' l (I 20 l)) ∧ (∀ s, s < 16 → NF nc nm at' (100 + s) (I 21 s))
/-- all of it, but for the brackets behind the last instruction -/
def LV (D : Nat → Nat) (tx : Nat → Nat) (N h n ng d nc f : Nat) (I : Nat → Nat → Int32) (T : Nat → Nat → Nat) (I' : Nat → Nat → Int32) : Prop := TX I 4 3 1 tx N ∧ TX I' 50 49 2 tx N ∧ V_f I I' ∧ V_c h n ng d I I' ∧ V_i D h n I T I' ∧ V_l D h n I I' ∧ V_s h I I' ∧ V_a h I I' ∧ V_g h ng I I' ∧ V_n nc f I I'
def CV (q k : Nat) : Prop := 2 ≤ q ∧ q ≤ 21 ∧ ¬ (q = 2 ∧ ((4 ≤ k ∧ k ≤ 8) ∨ k = 10 ∨ k = 11))
def MV (q k : Nat) : Prop := 49 ≤ q ∧ q ≤ 69 ∧ ¬ (q = 49 ∧ ((24 ≤ k ∧ k ≤ 26) ∨ k = 28 ∨ k = 29))
theorem LV_keep {D : Nat → Nat} {tx : Nat → Nat} {N h n ng d nc f : Nat} {I I1 : Nat → Nat → Int32} {T T1 : Nat → Nat → Nat} {I' I2 : Nat → Nat → Int32} (hI : ∀ q k, CV q k → I1 q k = I q k) (hT : ∀ k, T1 15 k = T 15 k) (hI' : ∀ q k, MV q k → I2 q k = I' q k) (v : LV D tx N h n ng d nc f I T I') : LV D tx N h n ng d nc f I1 T1 I2 := by
  obtain ⟨⟨a1, a2, a3⟩, ⟨b1, b2, b3⟩, v1, v2, ⟨v3z, v3⟩, v4, v5, v6, v7, v8⟩ := v
  have r : ∀ q, 3 ≤ q → q ≤ 21 → ∀ k, I1 q k = I q k := fun q x y k => hI q k ⟨by omega, y, by omega⟩
  have r' : ∀ q, 50 ≤ q → q ≤ 69 → ∀ k, I2 q k = I' q k := fun q x y k => hI' q k ⟨by omega, y, by omega⟩
  have m : ∀ k, ¬ ((24 ≤ k ∧ k ≤ 26) ∨ k = 28 ∨ k = 29) → I2 49 k = I' 49 k := fun k x => hI' 49 k ⟨by omega, by omega, by omega⟩
  have e7 := r 7 (by decide) (by decide)
  have e8 := r 8 (by decide) (by decide)
  have e9 := r 9 (by decide) (by decide)
  have e10 := r 10 (by decide) (by decide)
  have e11 := r 11 (by decide) (by decide)
  have e12 := r 12 (by decide) (by decide)
  have e13 := r 13 (by decide) (by decide)
  have e14 := r 14 (by decide) (by decide)
  have e16 := r 16 (by decide) (by decide)
  have e17 := r 17 (by decide) (by decide)
  have e18 := r 18 (by decide) (by decide)
  have e19 := r 19 (by decide) (by decide)
  have e20 := r 20 (by decide) (by decide)
  have e21 := r 21 (by decide) (by decide)
  refine ⟨⟨?_, a2, ?_⟩, ⟨?_, b2, ?_⟩, ?_, ?_, ⟨v3z, ?_⟩, ?_, ?_, ?_, ?_, ?_⟩
  · rw [r 3 (by decide) (by decide)]; exact a1
  · intro i hi; rw [r 4 (by decide) (by decide)]; exact a3 i hi
  · rw [m 2 (by omega)]; exact b1
  · intro i hi; rw [r' 50 (by decide) (by decide)]; exact b3 i hi
  · unfold V_f
    rw [hI 2 2 ⟨by decide, by decide, by omega⟩, hI 2 3 ⟨by decide, by decide, by omega⟩, m 3 (by omega), m 4 (by omega)]
    exact v1
  · unfold V_c
    rw [m 23 (by omega), r 5 (by decide) (by decide), r' 56 (by decide) (by decide), r 6 (by decide) (by decide), r' 67 (by decide) (by decide), hI 2 9 ⟨by decide, by decide, by omega⟩, m 27 (by omega)]
    exact v2
  · intro p hp
    have h3 := v3 p hp
    unfold PA PJ0 PE rI rT at h3 ⊢
    have s44 : am_sig 44 = 15 := rfl
    have s45 : am_sig 45 = 16 := rfl
    have s46 : am_sig 46 = 17 := rfl
    have s47 : am_sig 47 = 18 := rfl
    simp only [s44, s45, s46, s47] at h3 ⊢
    simp only [e16, e17, e18, e20, hT, r' 51 (by decide) (by decide), r' 52 (by decide) (by decide), r' 53 (by decide) (by decide), r' 54 (by decide) (by decide), r' 55 (by decide) (by decide)]
    exact h3
  · intro l hl
    rw [r' 57 (by decide) (by decide), e19]
    exact v4 l hl
  · intro s hs
    rw [r' 58 (by decide) (by decide), r 6 (by decide) (by decide)]
    exact v5 s hs
  · intro x hx
    have h3 := v6 x hx
    unfold PC rI at h3 ⊢
    have s41 : am_sig 41 = 12 := rfl
    have s42 : am_sig 42 = 13 := rfl
    have s43 : am_sig 43 = 14 := rfl
    simp only [s41, s42, s43] at h3 ⊢
    simp only [e12, e13, e14, r' 59 (by decide) (by decide), r' 60 (by decide) (by decide), r' 61 (by decide) (by decide)]
    exact h3
  · intro g hg
    have h3 := v7 g hg
    unfold PG rI at h3 ⊢
    have s36 : am_sig 36 = 7 := rfl
    have s37 : am_sig 37 = 8 := rfl
    have s38 : am_sig 38 = 9 := rfl
    have s39 : am_sig 39 = 10 := rfl
    have s40 : am_sig 40 = 11 := rfl
    simp only [s36, s37, s38, s39, s40] at h3 ⊢
    simp only [e7, e8, e9, e10, e11, r' 62 (by decide) (by decide), r' 63 (by decide) (by decide), r' 64 (by decide) (by decide), r' 65 (by decide) (by decide), r' 66 (by decide) (by decide)]
    exact h3
  · unfold V_n at v8 ⊢
    simp only [m 32 (by omega), r' 68 (by decide) (by decide), r' 69 (by decide) (by decide), e20, e21]
    exact v8
/-- the place goes on -/
theorem LV_f {D : Nat → Nat} {tx : Nat → Nat} {N h n ng d nc f f' : Nat} {I : Nat → Nat → Int32} {T : Nat → Nat → Nat} {I' : Nat → Nat → Int32} (hf : f ≤ f') (v : LV D tx N h n ng d nc f I T I') : LV D tx N h n ng d nc f' I T I' := by
  obtain ⟨a, b, v1, v2, v3, v4, v5, v6, v7, ⟨n1, nm, at', n2, n3⟩⟩ := v
  refine ⟨a, b, v1, v2, v3, v4, v5, v6, v7, n1, nm, at', fun k hk => ?_, n3⟩
  obtain ⟨x1, x2, x3, x4⟩ := n2 k hk
  exact ⟨x1, x2, x3, by omega⟩
/-- an instruction in its place stays what it is -/
theorem PA_D {D D' : Nat → Nat} {o : Nat} {I : Nat → Nat → Int32} {T : Nat → Nat → Nat} {I' : Nat → Nat → Int32} {p : Nat} (h : D' p = D p) (h1 : D' (p + 1) = D (p + 1)) : PA D' o I T I' p = PA D o I T I' p := by
  unfold PA
  rw [h, h1]
/-- one instruction more -/
theorem LV_add {D : Nat → Nat} {tx : Nat → Nat} {N h n ng d nc f q : Nat} {I : Nat → Nat → Int32} {T : Nat → Nat → Nat} {I' : Nat → Nat → Int32} {c16 c17 c18 m51 m52 m53 m54 m55 : Int32} (hn : n < 80) (v : LV D tx N h n ng d nc f I T I') (hnew : PA (fun x => if x = n + 1 then d else D x) h (rI (am_up (am_up (am_up (am_up I 16 n c16) 17 n c17) 18 n c18) 5 6 (nI (n + 1)))) (rT (am_up T 15 n q)) (am_up (am_up (am_up (am_up (am_up (am_up I' 51 (80 * h + n) m51) 52 (80 * h + n) m52) 53 (80 * h + n) m53) 54 (80 * h + n) m54) 55 (80 * h + n) m55) 56 h (nI (n + 1))) n ∨ PJ0 (fun x => if x = n + 1 then d else D x) h (am_up (am_up (am_up (am_up I 16 n c16) 17 n c17) 18 n c18) 5 6 (nI (n + 1))) (am_up T 15 n q) (am_up (am_up (am_up (am_up (am_up (am_up I' 51 (80 * h + n) m51) 52 (80 * h + n) m52) 53 (80 * h + n) m53) 54 (80 * h + n) m54) 55 (80 * h + n) m55) 56 h (nI (n + 1))) n ∨ PE (fun x => if x = n + 1 then d else D x) h (rT (am_up T 15 n q)) (am_up (am_up (am_up (am_up (am_up (am_up I' 51 (80 * h + n) m51) 52 (80 * h + n) m52) 53 (80 * h + n) m53) 54 (80 * h + n) m54) 55 (80 * h + n) m55) 56 h (nI (n + 1))) n) : LV (fun x => if x = n + 1 then d else D x) tx N h (n + 1) ng d nc f (am_up (am_up (am_up (am_up I 16 n c16) 17 n c17) 18 n c18) 5 6 (nI (n + 1))) (am_up T 15 n q) (am_up (am_up (am_up (am_up (am_up (am_up I' 51 (80 * h + n) m51) 52 (80 * h + n) m52) 53 (80 * h + n) m53) 54 (80 * h + n) m54) 55 (80 * h + n) m55) 56 h (nI (n + 1))) := by
  obtain ⟨a, b, v1, ⟨w1, w2, w3, w4, w5, w6, w7, w8, w9, w10, w11⟩, ⟨v3z, v3⟩, v4, v5, v6, v7, v8⟩ := v
  have hD : ∀ x, x ≤ n → (fun x => if x = n + 1 then d else D x) x = D x := fun x hx => if_neg (by omega)
  refine ⟨a, b, v1, ⟨w1, w2, by omega, rfl, am_up_here _ _ _ _, w6, w7, w8, w9, w10, w11⟩, ⟨?_, ?_⟩, ?_, v5, v6, v7, v8⟩
  · rw [hD 0 (Nat.zero_le n)]; exact v3z
  · intro p hp
    by_cases e : p = n
    · rw [e]; exact hnew
    · have h3 := v3 p (by omega)
      have x16 : am_up (am_up (am_up (am_up I 16 n c16) 17 n c17) 18 n c18) 5 6 (nI (n + 1)) 16 p = I 16 p := by
        rw [am_up_ne (by omega), am_up_ne (by omega), am_up_ne (by omega), am_up_ne (by omega)]
      have x17 : am_up (am_up (am_up (am_up I 16 n c16) 17 n c17) 18 n c18) 5 6 (nI (n + 1)) 17 p = I 17 p := by
        rw [am_up_ne (by omega), am_up_ne (by omega), am_up_ne (by omega), am_up_ne (by omega)]
      have x18 : am_up (am_up (am_up (am_up I 16 n c16) 17 n c17) 18 n c18) 5 6 (nI (n + 1)) 18 p = I 18 p := by
        rw [am_up_ne (by omega), am_up_ne (by omega), am_up_ne (by omega), am_up_ne (by omega)]
      have x20 : ∀ l, am_up (am_up (am_up (am_up I 16 n c16) 17 n c17) 18 n c18) 5 6 (nI (n + 1)) 20 l = I 20 l := fun _ => rfl
      have y15 : am_up T 15 n q 15 p = T 15 p := am_up_ne (by omega)
      have z : ∀ r, 51 ≤ r → r ≤ 55 → (am_up (am_up (am_up (am_up (am_up (am_up I' 51 (80 * h + n) m51) 52 (80 * h + n) m52) 53 (80 * h + n) m53) 54 (80 * h + n) m54) 55 (80 * h + n) m55) 56 h (nI (n + 1))) r (80 * h + p) = I' r (80 * h + p) := by
        intro r h1 h2
        rw [am_up_ne (by omega), am_up_ne (by omega), am_up_ne (by omega), am_up_ne (by omega), am_up_ne (by omega), am_up_ne (by omega)]
      rw [PA_D (hD p (by omega)) (hD (p + 1) (by omega))]
      unfold PA PJ0 PE rI rT at h3 ⊢
      have s44 : am_sig 44 = 15 := rfl
      have s45 : am_sig 45 = 16 := rfl
      have s46 : am_sig 46 = 17 := rfl
      have s47 : am_sig 47 = 18 := rfl
      simp only [s44, s45, s46, s47] at h3 ⊢
      have d1 := hD p (by omega)
      have d2 := hD (p + 1) (by omega)
      simp only at d1 d2
      simp only [x16, x17, x18, x20, y15, z 51 (by decide) (by decide), z 52 (by decide) (by decide), z 53 (by decide) (by decide), z 54 (by decide) (by decide), z 55 (by decide) (by decide), d1, d2]
      exact h3
  · intro l hl
    obtain ⟨x, y⟩ := v4 l hl
    refine ⟨x, ?_⟩
    rcases y with y | ⟨t, t1, t2, t3⟩
    · exact Or.inl y
    · exact Or.inr ⟨t, by omega, t2, by rw [hD t t1]; exact t3⟩

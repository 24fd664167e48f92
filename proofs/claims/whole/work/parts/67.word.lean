/-! WORDS: the code of a word, the op of a word. -/
theorem cval_inj : ∀ (a b : List Nat), (∀ c, c ∈ a → 0 < c ∧ c < 256) → (∀ c, c ∈ b → 0 < c ∧ c < 256) → cval a = cval b → a = b := by
  intro a
  induction a with
  | nil =>
    intro b _ hb h
    cases b with
    | nil => rfl
    | cons c r =>
      have h1 := (hb c List.mem_cons_self).1
      have h2 : 0 = c + 256 * cval r := h
      omega
  | cons c r ih =>
    intro b ha hb h
    cases b with
    | nil =>
      have h1 := (ha c List.mem_cons_self).1
      have h2 : c + 256 * cval r = 0 := h
      omega
    | cons d s =>
      have h1 := ha c List.mem_cons_self
      have h2 := hb d List.mem_cons_self
      have h3 : c + 256 * cval r = d + 256 * cval s := h
      have e1 : c = d := by omega
      have e2 : cval r = cval s := by omega
      rw [e1, ih s (fun x hx => ha x (List.mem_cons_of_mem _ hx)) (fun x hx => hb x (List.mem_cons_of_mem _ hx)) e2]
/-- a word to be met: one byte at least, eight at most, none of them 0 -/
def gwd (W : List Nat) : Bool := decide (0 < W.length) && decide (W.length ≤ 8) && W.all (fun c => decide (0 < c) && decide (c < 256))
theorem gwd_p {W : List Nat} (h : gwd W = true) : 0 < W.length ∧ W.length ≤ 8 ∧ ∀ c, c ∈ W → 0 < c ∧ c < 256 := by
  unfold gwd at h
  have h1 := (Bool.and_eq_true _ _).mp h
  have h2 := (Bool.and_eq_true _ _).mp h1.1
  refine ⟨of_decide_eq_true h2.1, of_decide_eq_true h2.2, fun c hc => ?_⟩
  have h3 := List.all_eq_true.mp h1.2 c hc
  have h4 := (Bool.and_eq_true _ _).mp h3
  exact ⟨of_decide_eq_true h4.1, of_decide_eq_true h4.2⟩
def cvl (l : List Nat) : Nat := if l.length ≤ 8 then cval l else 0
theorem cod_cvl (tx : Nat → Nat) (f t : Nat) : cod tx f t = cvl (sl tx f t) := by
  unfold cod cvl
  rw [sl_len]
theorem cval_lt8 {l : List Nat} (h : ∀ c, c ∈ l → c < 256) (h8 : l.length ≤ 8) : cval l < 2 ^ 64 := by
  have h1 := cval_lt l h
  have h2 : 256 ^ l.length ≤ 256 ^ 8 := Nat.pow_le_pow_right (by decide) h8
  have h3 : (256 : Nat) ^ 8 = 2 ^ 64 := by decide
  omega
theorem cvl_eq {l W : List Nat} (hl : ∀ c, c ∈ l → 0 < c ∧ c < 256) (hW : gwd W = true) : cvl l = cval W ↔ l = W := by
  obtain ⟨w1, w2, w3⟩ := gwd_p hW
  unfold cvl
  constructor
  · intro h
    by_cases c : l.length ≤ 8
    · rw [if_pos c] at h
      exact cval_inj l W hl w3 h
    · rw [if_neg c] at h
      cases W with
      | nil => exact absurd w1 (by decide)
      | cons d s =>
        have h1 := (w3 d List.mem_cons_self).1
        have h2 : 0 = d + 256 * cval s := h
        omega
  · intro h
    rw [h, if_pos w2]
theorem lN_inj64 {a b : Nat} (ha : a < 2 ^ 64) (hb : b < 2 ^ 64) (h : lN a = lN b) : a = b := by
  have h1 : (BitVec.ofNat 64 a).toNat = (BitVec.ofNat 64 b).toNat := congrArg (fun x : Int64 => x.toBitVec.toNat) h
  rw [BitVec.toNat_ofNat, BitVec.toNat_ofNat, Nat.mod_eq_of_lt ha, Nat.mod_eq_of_lt hb] at h1
  exact h1
/-- a comparison of a word's code -/
theorem ct {l W : List Nat} {y : Int64} (hy : y = lN (cval W)) (hl : ∀ c, c ∈ l → 0 < c ∧ c < 256) (hW : gwd W = true) : (lg_cmp (lN (cvl l)) y = 0) = (l = W) := by
  obtain ⟨w1, w2, w3⟩ := gwd_p hW
  have b1 : cvl l < 2 ^ 64 := by
    unfold cvl
    split
    · exact cval_lt8 (fun c hc => (hl c hc).2) (by assumption)
    · decide
  have b2 : cval W < 2 ^ 64 := cval_lt8 (fun c hc => (w3 c hc).2) w2
  refine propext ((lg_cmp_eq _ _).trans ?_)
  rw [hy, ← cvl_eq hl hW]
  exact ⟨fun h => lN_inj64 b1 b2 h, fun h => by rw [h]⟩
theorem sl_pos {tx : Nat → Nat} {f t : Nat} (h : ∀ i, f ≤ i → i < t → 0 < tx i ∧ tx i < 256) : ∀ c, c ∈ sl tx f t → 0 < c ∧ c < 256 := by
  intro c hc
  obtain ⟨i, h1, h2, e⟩ := sl_mem hc
  rw [e]
  exact h i h1 h2
/-- the op that a word spells; 41 if none -/
def oixd (w : List Nat) : Nat → Nat → Nat
  | 0, i => i
  | d + 1, i => if w = wd i then i else oixd w d (i + 1)
def oix (w : List Nat) : Nat := oixd w 41 0
theorem oixd_p (w : List Nat) : ∀ (d i : Nat), i ≤ oixd w d i ∧ oixd w d i ≤ i + d ∧ (oixd w d i < i + d → w = wd (oixd w d i)) ∧ (∀ j, i ≤ j → j < oixd w d i → w ≠ wd j) := by
  intro d
  induction d with
  | zero => intro i; exact ⟨Nat.le_refl _, Nat.le_refl _, fun h => absurd h (by show ¬ i < i + 0; omega), fun j h1 h2 => absurd h2 (by show ¬ j < i; omega)⟩
  | succ d ih =>
    intro i
    have e : oixd w (d + 1) i = if w = wd i then i else oixd w d (i + 1) := rfl
    rw [e]
    by_cases c : w = wd i
    · rw [if_pos c]
      exact ⟨Nat.le_refl _, by omega, fun _ => c, fun j h1 h2 => absurd h2 (by omega)⟩
    · rw [if_neg c]
      obtain ⟨a1, a2, a3, a4⟩ := ih (i + 1)
      refine ⟨by omega, by omega, fun h => a3 (by omega), fun j h1 h2 => ?_⟩
      by_cases hj : j = i
      · rw [hj]; exact c
      · exact a4 j (by omega) h2
theorem oix_le (w : List Nat) : oix w ≤ 41 := by
  have := (oixd_p w 41 0).2.1
  unfold oix
  omega
theorem oix_eq {w : List Nat} (h : oix w < 41) : w = wd (oix w) := (oixd_p w 41 0).2.2.1 (by unfold oix at h; omega)
theorem oix_ne {w : List Nat} (h : oix w = 41) : ∀ j, j < 41 → w ≠ wd j := fun j hj => (oixd_p w 41 0).2.2.2 j (Nat.zero_le j) (by unfold oix at h; omega)
theorem oix_wd : ∀ j, j < 41 → oix (wd j) = j := by decide +kernel
/-- the reference of op i; 0 for none -/
def orf (i : Nat) : Nat := if i < 41 then 1001 + i else 0
theorem sf_op (L : Nat) {s : Nat} (h : s < 41) : am_SF L (1001 + s) = (30, 0) := by
  unfold am_SF am_S0
  rw [ble_f (by omega : 92 < 1001 + s), ble_f (by omega : 1000 < 1001 + s), ble_t (by omega : 1001 + s ≤ 1041)]
  rfl
theorem cr_ops {k : Nat} : am_cR 4001 k = 1001 + k := rfl
theorem spl_ok : ∀ s, s < 41 → am_get am_spl s 0 = 2001 + s := by decide +kernel
theorem cr_op {s : Nat} (h : s < 41) : am_cR (1001 + s) 0 = 2001 + s := by
  unfold am_cR
  rw [ble_t (by omega : 1001 + s ≤ 2000), show 1001 + s - 1001 = s by omega]
  exact spl_ok s h
theorem os_loop (I : Nat → Nat → Int32) (J : Nat → Nat → Int64) (T : Nat → Nat → Nat) (L : Nat) (C : Nat × Nat) {tx : Nat → Nat} {N f t : Nat} (h : TX I 4 3 1 tx N) (hf : f ≤ t) (ht : t ≤ N) : ∀ (d i : Nat) (v6 : Value), i + d = 41 → am_E 53 7 [.ref 2, .int (nI f), .int (nI t), .ref 4001, .int (nI 41), .int (nI i), v6] [] (am_W I J T L C) = some (.ref (orf (oixd (sl tx f t) d i)), (am_W I J T L C)) := by
  intro d
  induction d with
  | zero =>
    intro i v6 hi
    have e : i = 41 := by omega
    subst e
    rw [rg_53_7, if_pos (nI_le (Nat.le_refl _) (by decide))]
    rfl
  | succ d ih =>
    intro i v6 hi
    have hi41 : i < 41 := by omega
    rw [rg_53_7, if_neg (nI_ge hi41 (by decide)), am_inb_ok hi41 (by decide), nI_clamp (by omega), cr_ops, sf_op L hi41, cr_op hi41]
    show Option.bind (am_E 70 0 [.ref 3, .ref (2001 + i), .int (nI f), .int (nI t), .null] [] _) _ = _
    rw [sp_ok _ _ _ _ _ h (by omega) hf ht, am_okb, am_vIi, rg_53_21]
    have e : oixd (sl tx f t) (d + 1) i = if sl tx f t = wd i then i else oixd (sl tx f t) d (i + 1) := rfl
    rw [e]
    by_cases c : sl tx f t = wd i
    · rw [if_pos c, decide_eq_true c, if_neg (show ¬ am_b01 true = 0 by decide)]
      unfold orf
      rw [if_pos hi41]
    · rw [if_neg c, decide_eq_false c, if_pos (show am_b01 false = 0 from rfl), nI_1, ih (i + 1) _ (by omega)]
theorem os_ok (I : Nat → Nat → Int32) (J : Nat → Nat → Int64) (T : Nat → Nat → Nat) (L : Nat) (C : Nat × Nat) {tx : Nat → Nat} {N f t : Nat} (h : TX I 4 3 1 tx N) (hf : f ≤ t) (ht : t ≤ N) : am_E 53 0 [.ref 2, .int (nI f), .int (nI t), .null, .null, .null, .null] [] (am_W I J T L C) = some (.ref (orf (oix (sl tx f t))), (am_W I J T L C)) := by
  rw [rg_53_0]
  exact os_loop I J T L C h hf ht 41 0 .null rfl

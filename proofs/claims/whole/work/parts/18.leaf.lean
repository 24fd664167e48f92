/-! LEAVES: at, put, isSet, withBit, fill, min, max: what they answer. -/
theorem am_inb_ok {j n : Nat} (h : j < n) (hn : n < 2 ^ 31) (r : am_R) : am_inb (nI j) n r = r := by
  unfold am_inb
  rw [if_neg (nI_pos (by omega)), if_neg (by rw [nI_clamp (by omega)]; omega)]
theorem lf_at {I : Nat → Nat → Int32} {J : Nat → Nat → Int64} {T : Nat → Nat → Nat} {L : Nat} {C : Nat × Nat} {q j N : Nat} (hS : am_SF L q = (20, N)) (hj : j < N) (hN : N < 2 ^ 31) : am_E 89 0 [.ref q, .int (nI j)] [] (am_W I J T L C) = some (.int (I q j), am_W I J T L C) := by
  rw [rg_89_0, hS]
  show (if nI j < 0 then _ else if nI N ≤ nI j then _ else am_inb (nI j) N (some (Value.int (I q (Int32.toNatClampNeg (nI j))), _))) = _
  rw [if_neg (nI_pos (by omega)), if_neg (nI_ge hj hN), am_inb_ok hj hN, nI_clamp (by omega)]
theorem lf_atC {I : Nat → Nat → Int32} {J : Nat → Nat → Int64} {T : Nat → Nat → Nat} {L : Nat} {C : Nat × Nat} {q j N : Nat} (hS : am_SF L q = (26, N)) (hj : j < N) (hN : N < 2 ^ 31) : am_E 89 0 [.ref q, .int (nI j)] [] (am_W I J T L C) = some (.int (am_cI q j), am_W I J T L C) := by
  rw [rg_89_0, hS]
  show (if nI j < 0 then _ else if nI N ≤ nI j then _ else am_inb (nI j) N (some (Value.int (am_cI q (Int32.toNatClampNeg (nI j))), _))) = _
  rw [if_neg (nI_pos (by omega)), if_neg (nI_ge hj hN), am_inb_ok hj hN, nI_clamp (by omega)]
theorem lf_put {I : Nat → Nat → Int32} {J : Nat → Nat → Int64} {T : Nat → Nat → Nat} {L : Nat} {C : Nat × Nat} {q j N : Nat} {v : Int32} (hS : am_SF L q = (20, N)) (hj : j < N) (hN : N < 2 ^ 31) : am_E 90 0 [.ref q, .int (nI j), .int v] [] (am_W I J T L C) = some (.null, am_W (am_up I q j v) J T L C) := by
  rw [rg_90_0, hS]
  show (if nI j < 0 then _ else if nI N ≤ nI j then _ else am_inb (nI j) N (some (Value.null, am_W (am_up I q (Int32.toNatClampNeg (nI j)) v) J T L C))) = _
  rw [if_neg (nI_pos (by omega)), if_neg (nI_ge hj hN), am_inb_ok hj hN, nI_clamp (by omega)]
/-- a row filled with one int -/
def am_fl (I : Nat → Nat → Int32) (q a b : Nat) (v : Int32) : Nat → Nat → Int32 := fun x k => if x = q ∧ a ≤ k ∧ k < b then v else I x k
theorem am_fl_z (I : Nat → Nat → Int32) (q a b : Nat) (v : Int32) (h : b ≤ a) : am_fl I q a b v = I := by
  funext x k
  unfold am_fl
  rw [if_neg (by omega)]
theorem am_beq {a b : Nat} (h : a ≠ b) : Nat.beq a b = false := by
  cases e : Nat.beq a b with
  | false => rfl
  | true => exact absurd (Nat.eq_of_beq_eq_true e) h
theorem am_beqT (a : Nat) : Nat.beq a a = true := Nat.beq_refl a
theorem am_up_at {α : Type} (f : Nat → Nat → α) (q k : Nat) (v : α) (a b : Nat) : am_up f q k v a b = if a = q ∧ b = k then v else f a b := by
  unfold am_up
  by_cases h1 : a = q
  · subst h1
    by_cases h2 : b = k
    · subst h2
      rw [if_pos ⟨rfl, rfl⟩, am_beqT, am_beqT]
      rfl
    · rw [if_neg (fun h => h2 h.2), am_beq h2, am_beqT]
      rfl
  · rw [if_neg (fun h => h1 h.1), am_beq h1]
    rfl
theorem am_fl_s (I : Nat → Nat → Int32) (q a b : Nat) (v : Int32) (h : a < b) : am_fl (am_up I q a v) q (a + 1) b v = am_fl I q a b v := by
  funext x k
  unfold am_fl
  rw [am_up_at]
  by_cases h1 : x = q
  · subst h1
    by_cases h2 : k = a
    · subst h2
      rw [if_neg (by omega), if_pos ⟨rfl, rfl⟩, if_pos ⟨rfl, Nat.le_refl _, h⟩]
    · by_cases h3 : a ≤ k ∧ k < b
      · rw [if_pos ⟨rfl, by omega, h3.2⟩, if_pos ⟨rfl, h3⟩]
      · rw [if_neg (by omega), if_neg (by omega), if_neg (by omega)]
  · rw [if_neg (by omega), if_neg (by omega), if_neg (by omega)]
theorem lf_fill1 {J : Nat → Nat → Int64} {T : Nat → Nat → Nat} {L : Nat} {C : Nat × Nat} {q N : Nat} {v : Int32} (hS : am_SF L q = (20, N)) (hN : N < 2 ^ 31) : ∀ (d j : Nat) (I : Nat → Nat → Int32), j + d = N → am_E 93 2 [.ref q, .int v, .int (nI j)] [] (am_W I J T L C) = some (.null, am_W (am_fl I q j N v) J T L C) := by
  intro d
  induction d with
  | zero =>
    intro j I hj
    rw [rg_93_2, hS]
    show (if nI N ≤ nI j then _ else _) = _
    rw [if_pos (nI_le (by omega) (by omega)), am_fl_z _ _ _ _ _ (by omega)]
  | succ d ih =>
    intro j I hj
    rw [rg_93_2, hS]
    show (if nI N ≤ nI j then _ else am_inb (nI j) N (am_E 93 2 [.ref q, .int v, .int (nI j + 1)] [] (am_W (am_up I q (Int32.toNatClampNeg (nI j)) v) J T L C))) = _
    rw [if_neg (nI_ge (by omega) hN), am_inb_ok (by omega) hN, nI_clamp (by omega), nI_1, ih (j + 1) _ (by omega), am_fl_s _ _ _ _ _ (by omega)]
theorem lf_fill {I : Nat → Nat → Int32} {J : Nat → Nat → Int64} {T : Nat → Nat → Nat} {L : Nat} {C : Nat × Nat} {q N : Nat} {v : Int32} (hS : am_SF L q = (20, N)) (hN : N < 2 ^ 31) : am_E 93 0 [.ref q, .int v, .null] [] (am_W I J T L C) = some (.null, am_W (am_fl I q 0 N v) J T L C) := by
  rw [rg_93_0, show (0 : Int32) = nI 0 from nI_0.symm]
  exact lf_fill1 hS hN N 0 I (by omega)
/-- bit k of a mask -/
def am_bt (x : Int32) (k : Nat) : Bool := x.toBitVec.getLsbD k
def am_wb (x : Int32) (k : Nat) (b : Bool) : Int32 := cond b (x ||| ((1 : Int32) <<< (nI k &&& 31))) (x &&& (((1 : Int32) <<< (nI k &&& 31)) ^^^ (-1)))
def am_b01 (b : Bool) : Int32 := cond b 1 0
theorem am_b01_bit (b : Bool) : am_bit (am_b01 b) = true := by cases b <;> decide +kernel
theorem bt_m1 : (-1 : Int32).toBitVec = BitVec.allOnes 32 := by decide +kernel
theorem bt_one : ∀ k, k < 32 → ((1 : Int32) <<< (nI k &&& 31)).toBitVec = BitVec.twoPow 32 k := by decide +kernel
theorem bt_sh : ∀ k, k < 32 → (((nI k).toUInt32 &&& Int32.toUInt32 31) % 32).toBitVec.toNat = k := by decide +kernel
theorem bt_ext {x y : Int32} (h : ∀ k, k < 32 → am_bt x k = am_bt y k) : x = y := Int32.toBitVec_inj.mp (BitVec.eq_of_getLsbD_eq fun k hk => h k hk)
theorem bt_isSet {x : Int32} {k : Nat} (hk : k < 32) : ((x.toUInt32 >>> ((nI k).toUInt32 &&& Int32.toUInt32 31)).toInt32 &&& 1) = 0 ↔ am_bt x k = false := by
  have e : ((x.toUInt32 >>> ((nI k).toUInt32 &&& Int32.toUInt32 31)).toInt32 &&& 1).toBitVec = (x.toBitVec >>> k) &&& 1#32 := by
    show (x.toBitVec >>> (((nI k).toUInt32 &&& Int32.toUInt32 31) % 32).toBitVec.toNat) &&& 1#32 = _
    rw [bt_sh k hk]
  rw [← Int32.toBitVec_inj, e]
  constructor
  · intro h
    have := congrArg (fun v : BitVec 32 => v.getLsbD 0) h
    simpa [am_bt] using this
  · intro h
    refine BitVec.eq_of_getLsbD_eq fun i hi => ?_
    cases i with
    | zero => simpa [am_bt] using h
    | succ i => simp
theorem bt_wb {x : Int32} {k : Nat} {b : Bool} (hk : k < 32) {i : Nat} (hi : i < 32) : am_bt (am_wb x k b) i = if i = k then b else am_bt x i := by
  cases b with
  | true =>
    show (x.toBitVec ||| ((1 : Int32) <<< (nI k &&& 31)).toBitVec).getLsbD i = _
    rw [bt_one k hk, BitVec.getLsbD_or, BitVec.getLsbD_twoPow]
    by_cases h : i = k
    · subst h; simp [hi]
    · rw [if_neg h]
      simp [am_bt, h]
      omega
  | false =>
    show (x.toBitVec &&& (((1 : Int32) <<< (nI k &&& 31)).toBitVec ^^^ (-1 : Int32).toBitVec)).getLsbD i = _
    rw [bt_one k hk, bt_m1, BitVec.getLsbD_and, BitVec.getLsbD_xor, BitVec.getLsbD_twoPow, BitVec.getLsbD_allOnes]
    by_cases h : i = k
    · subst h
      rw [if_pos rfl, decide_eq_true hi, decide_eq_true (rfl : i = i)]
      simp
    · rw [if_neg h, decide_eq_true hi, decide_eq_true hk, decide_eq_false (fun e : k = i => h e.symm)]
      simp [am_bt]
theorem lf_isSet {I : Nat → Nat → Int32} {J : Nat → Nat → Int64} {T : Nat → Nat → Nat} {L : Nat} {C : Nat × Nat} {x : Int32} {k : Nat} (hk : k < 32) : am_E 91 0 [.int x, .int (nI k)] [] (am_W I J T L C) = some (.int (am_b01 (am_bt x k)), am_W I J T L C) := by
  rw [rg_91_0]
  cases h : am_bt x k with
  | false => rw [if_pos ((bt_isSet hk).mpr h)]; rfl
  | true => rw [if_neg (fun h' => by rw [(bt_isSet hk).mp h'] at h; cases h)]; rfl
theorem lf_withBit {I : Nat → Nat → Int32} {J : Nat → Nat → Int64} {T : Nat → Nat → Nat} {L : Nat} {C : Nat × Nat} {x : Int32} {k : Nat} {b : Bool} : am_E 92 0 [.int x, .int (nI k), .int (am_b01 b)] [] (am_W I J T L C) = some (.int (am_wb x k b), am_W I J T L C) := by
  rw [rg_92_0]
  cases b
  · rfl
  · rfl

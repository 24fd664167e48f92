/-! A BIT by the signed shift. -/
theorem bt_smod : ∀ k, k < 32 → ((nI k &&& 31).toBitVec.smod 32).toNat = k := by decide +kernel
theorem bt_sar {x : Int32} {k : Nat} (hk : k < 32) : (x >>> (nI k &&& 31)) &&& 1 = am_b01 (am_bt x k) := by
  refine bt_ext fun i hi => ?_
  have e : ((x >>> (nI k &&& 31)) &&& 1).toBitVec = (x.toBitVec.sshiftRight k) &&& 1#32 := by
    show (x.toBitVec.sshiftRight ((nI k &&& 31).toBitVec.smod 32).toNat) &&& 1#32 = _
    rw [bt_smod k hk]
  show BitVec.getLsbD _ i = BitVec.getLsbD (am_b01 (am_bt x k)).toBitVec i
  rw [e]
  cases i with
  | zero =>
    have h0 : ((x.toBitVec.sshiftRight k) &&& 1#32).getLsbD 0 = am_bt x k := by
      rw [BitVec.getLsbD_and, BitVec.getLsbD_sshiftRight]
      simp [am_bt, hk]
    rw [h0]
    cases am_bt x k <;> rfl
  | succ i =>
    cases am_bt x k <;> simp [am_b01]

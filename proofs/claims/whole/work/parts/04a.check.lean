def am_cc (m : Nat) : List (List am_Ins) := (am_code.getD (m / 16) []).getD (m % 16) []
def am_kb (m j : Nat) : Bool := (List.range 16).all fun i => am_chk m (16 * j + i)
def am_kp (m : Nat) : Prop := ∀ j, j < (am_cc m).length → am_kb m j = true
theorem am_k0 : am_kp 0 := fun j hj => (List.all_eq_true.mp (by decide +kernel : (List.range 2).all (am_kb 0) = true)) j (List.mem_range.mpr hj)
theorem am_k1 : am_kp 1 := fun j hj => (List.all_eq_true.mp (by decide +kernel : (List.range 2).all (am_kb 1) = true)) j (List.mem_range.mpr hj)
theorem am_k2 : am_kp 2 := fun j hj => (List.all_eq_true.mp (by decide +kernel : (List.range 2).all (am_kb 2) = true)) j (List.mem_range.mpr hj)
theorem am_k3 : am_kp 3 := fun j hj => (List.all_eq_true.mp (by decide +kernel : (List.range 1).all (am_kb 3) = true)) j (List.mem_range.mpr hj)
theorem am_k4 : am_kp 4 := fun j hj => (List.all_eq_true.mp (by decide +kernel : (List.range 2).all (am_kb 4) = true)) j (List.mem_range.mpr hj)
theorem am_k5 : am_kp 5 := fun j hj => (List.all_eq_true.mp (by decide +kernel : (List.range 2).all (am_kb 5) = true)) j (List.mem_range.mpr hj)
theorem am_k6 : am_kp 6 := fun j hj => (List.all_eq_true.mp (by decide +kernel : (List.range 1).all (am_kb 6) = true)) j (List.mem_range.mpr hj)
theorem am_k7 : am_kp 7 := fun j hj => (List.all_eq_true.mp (by decide +kernel : (List.range 3).all (am_kb 7) = true)) j (List.mem_range.mpr hj)
theorem am_k8 : am_kp 8 := fun j hj => (List.all_eq_true.mp (by decide +kernel : (List.range 1).all (am_kb 8) = true)) j (List.mem_range.mpr hj)
theorem am_k9 : am_kp 9 := fun j hj => (List.all_eq_true.mp (by decide +kernel : (List.range 3).all (am_kb 9) = true)) j (List.mem_range.mpr hj)
theorem am_k10 : am_kp 10 := fun j hj => (List.all_eq_true.mp (by decide +kernel : (List.range 2).all (am_kb 10) = true)) j (List.mem_range.mpr hj)
theorem am_k11 : am_kp 11 := fun j hj => (List.all_eq_true.mp (by decide +kernel : (List.range 3).all (am_kb 11) = true)) j (List.mem_range.mpr hj)
theorem am_k12 : am_kp 12 := fun j hj => (List.all_eq_true.mp (by decide +kernel : (List.range 2).all (am_kb 12) = true)) j (List.mem_range.mpr hj)
theorem am_k13 : am_kp 13 := fun j hj => (List.all_eq_true.mp (by decide +kernel : (List.range 3).all (am_kb 13) = true)) j (List.mem_range.mpr hj)
theorem am_k14_0 : ∀ j, j < 0 → am_kb 14 j = true := lt_0
theorem am_k14_4 : ∀ j, j < 4 → am_kb 14 j = true := fun j hj => (Nat.lt_or_ge j 0).elim (am_k14_0 j) fun h => (show 0 + (j - 0) = j by omega) ▸ (List.all_eq_true.mp (by decide +kernel : (List.range 4).all (fun j => am_kb 14 (0 + j)) = true)) (j - 0) (List.mem_range.mpr (by omega))
theorem am_k14_5 : ∀ j, j < 5 → am_kb 14 j = true := fun j hj => (Nat.lt_or_ge j 4).elim (am_k14_4 j) fun h => (show 4 + (j - 4) = j by omega) ▸ (List.all_eq_true.mp (by decide +kernel : (List.range 1).all (fun j => am_kb 14 (4 + j)) = true)) (j - 4) (List.mem_range.mpr (by omega))
theorem am_k14 : am_kp 14 := fun j hj => am_k14_5 j hj
theorem am_k15_0 : ∀ j, j < 0 → am_kb 15 j = true := lt_0
theorem am_k15_4 : ∀ j, j < 4 → am_kb 15 j = true := fun j hj => (Nat.lt_or_ge j 0).elim (am_k15_0 j) fun h => (show 0 + (j - 0) = j by omega) ▸ (List.all_eq_true.mp (by decide +kernel : (List.range 4).all (fun j => am_kb 15 (0 + j)) = true)) (j - 0) (List.mem_range.mpr (by omega))
theorem am_k15_7 : ∀ j, j < 7 → am_kb 15 j = true := fun j hj => (Nat.lt_or_ge j 4).elim (am_k15_4 j) fun h => (show 4 + (j - 4) = j by omega) ▸ (List.all_eq_true.mp (by decide +kernel : (List.range 3).all (fun j => am_kb 15 (4 + j)) = true)) (j - 4) (List.mem_range.mpr (by omega))
theorem am_k15 : am_kp 15 := fun j hj => am_k15_7 j hj
theorem am_k16_0 : ∀ j, j < 0 → am_kb 16 j = true := lt_0
theorem am_k16_4 : ∀ j, j < 4 → am_kb 16 j = true := fun j hj => (Nat.lt_or_ge j 0).elim (am_k16_0 j) fun h => (show 0 + (j - 0) = j by omega) ▸ (List.all_eq_true.mp (by decide +kernel : (List.range 4).all (fun j => am_kb 16 (0 + j)) = true)) (j - 0) (List.mem_range.mpr (by omega))
theorem am_k16_8 : ∀ j, j < 8 → am_kb 16 j = true := fun j hj => (Nat.lt_or_ge j 4).elim (am_k16_4 j) fun h => (show 4 + (j - 4) = j by omega) ▸ (List.all_eq_true.mp (by decide +kernel : (List.range 4).all (fun j => am_kb 16 (4 + j)) = true)) (j - 4) (List.mem_range.mpr (by omega))
theorem am_k16 : am_kp 16 := fun j hj => am_k16_8 j hj
theorem am_k17 : am_kp 17 := fun j hj => (List.all_eq_true.mp (by decide +kernel : (List.range 3).all (am_kb 17) = true)) j (List.mem_range.mpr hj)
theorem am_k18 : am_kp 18 := fun j hj => (List.all_eq_true.mp (by decide +kernel : (List.range 3).all (am_kb 18) = true)) j (List.mem_range.mpr hj)
theorem am_k19 : am_kp 19 := fun j hj => (List.all_eq_true.mp (by decide +kernel : (List.range 4).all (am_kb 19) = true)) j (List.mem_range.mpr hj)
theorem am_k20 : am_kp 20 := fun j hj => (List.all_eq_true.mp (by decide +kernel : (List.range 3).all (am_kb 20) = true)) j (List.mem_range.mpr hj)
theorem am_k21_0 : ∀ j, j < 0 → am_kb 21 j = true := lt_0
theorem am_k21_4 : ∀ j, j < 4 → am_kb 21 j = true := fun j hj => (Nat.lt_or_ge j 0).elim (am_k21_0 j) fun h => (show 0 + (j - 0) = j by omega) ▸ (List.all_eq_true.mp (by decide +kernel : (List.range 4).all (fun j => am_kb 21 (0 + j)) = true)) (j - 0) (List.mem_range.mpr (by omega))
theorem am_k21_5 : ∀ j, j < 5 → am_kb 21 j = true := fun j hj => (Nat.lt_or_ge j 4).elim (am_k21_4 j) fun h => (show 4 + (j - 4) = j by omega) ▸ (List.all_eq_true.mp (by decide +kernel : (List.range 1).all (fun j => am_kb 21 (4 + j)) = true)) (j - 4) (List.mem_range.mpr (by omega))
theorem am_k21 : am_kp 21 := fun j hj => am_k21_5 j hj
theorem am_k22 : am_kp 22 := fun j hj => (List.all_eq_true.mp (by decide +kernel : (List.range 3).all (am_kb 22) = true)) j (List.mem_range.mpr hj)
theorem am_k23 : am_kp 23 := fun j hj => (List.all_eq_true.mp (by decide +kernel : (List.range 4).all (am_kb 23) = true)) j (List.mem_range.mpr hj)
theorem am_k24 : am_kp 24 := fun j hj => (List.all_eq_true.mp (by decide +kernel : (List.range 2).all (am_kb 24) = true)) j (List.mem_range.mpr hj)
theorem am_k25 : am_kp 25 := fun j hj => (List.all_eq_true.mp (by decide +kernel : (List.range 1).all (am_kb 25) = true)) j (List.mem_range.mpr hj)
theorem am_k26 : am_kp 26 := fun j hj => (List.all_eq_true.mp (by decide +kernel : (List.range 2).all (am_kb 26) = true)) j (List.mem_range.mpr hj)
theorem am_k27 : am_kp 27 := fun j hj => (List.all_eq_true.mp (by decide +kernel : (List.range 2).all (am_kb 27) = true)) j (List.mem_range.mpr hj)
theorem am_k28 : am_kp 28 := fun j hj => (List.all_eq_true.mp (by decide +kernel : (List.range 3).all (am_kb 28) = true)) j (List.mem_range.mpr hj)
theorem am_k29 : am_kp 29 := fun j hj => (List.all_eq_true.mp (by decide +kernel : (List.range 2).all (am_kb 29) = true)) j (List.mem_range.mpr hj)
theorem am_k30 : am_kp 30 := fun j hj => (List.all_eq_true.mp (by decide +kernel : (List.range 1).all (am_kb 30) = true)) j (List.mem_range.mpr hj)
theorem am_k31 : am_kp 31 := fun j hj => (List.all_eq_true.mp (by decide +kernel : (List.range 2).all (am_kb 31) = true)) j (List.mem_range.mpr hj)
theorem am_k32 : am_kp 32 := fun j hj => (List.all_eq_true.mp (by decide +kernel : (List.range 3).all (am_kb 32) = true)) j (List.mem_range.mpr hj)
theorem am_k33_0 : ∀ j, j < 0 → am_kb 33 j = true := lt_0
theorem am_k33_4 : ∀ j, j < 4 → am_kb 33 j = true := fun j hj => (Nat.lt_or_ge j 0).elim (am_k33_0 j) fun h => (show 0 + (j - 0) = j by omega) ▸ (List.all_eq_true.mp (by decide +kernel : (List.range 4).all (fun j => am_kb 33 (0 + j)) = true)) (j - 0) (List.mem_range.mpr (by omega))
theorem am_k33_5 : ∀ j, j < 5 → am_kb 33 j = true := fun j hj => (Nat.lt_or_ge j 4).elim (am_k33_4 j) fun h => (show 4 + (j - 4) = j by omega) ▸ (List.all_eq_true.mp (by decide +kernel : (List.range 1).all (fun j => am_kb 33 (4 + j)) = true)) (j - 4) (List.mem_range.mpr (by omega))
theorem am_k33 : am_kp 33 := fun j hj => am_k33_5 j hj
theorem am_k34_0 : ∀ j, j < 0 → am_kb 34 j = true := lt_0
theorem am_k34_4 : ∀ j, j < 4 → am_kb 34 j = true := fun j hj => (Nat.lt_or_ge j 0).elim (am_k34_0 j) fun h => (show 0 + (j - 0) = j by omega) ▸ (List.all_eq_true.mp (by decide +kernel : (List.range 4).all (fun j => am_kb 34 (0 + j)) = true)) (j - 0) (List.mem_range.mpr (by omega))
theorem am_k34_5 : ∀ j, j < 5 → am_kb 34 j = true := fun j hj => (Nat.lt_or_ge j 4).elim (am_k34_4 j) fun h => (show 4 + (j - 4) = j by omega) ▸ (List.all_eq_true.mp (by decide +kernel : (List.range 1).all (fun j => am_kb 34 (4 + j)) = true)) (j - 4) (List.mem_range.mpr (by omega))
theorem am_k34 : am_kp 34 := fun j hj => am_k34_5 j hj
theorem am_k35 : am_kp 35 := fun j hj => (List.all_eq_true.mp (by decide +kernel : (List.range 3).all (am_kb 35) = true)) j (List.mem_range.mpr hj)
theorem am_k36 : am_kp 36 := fun j hj => (List.all_eq_true.mp (by decide +kernel : (List.range 3).all (am_kb 36) = true)) j (List.mem_range.mpr hj)
theorem am_k37 : am_kp 37 := fun j hj => (List.all_eq_true.mp (by decide +kernel : (List.range 2).all (am_kb 37) = true)) j (List.mem_range.mpr hj)
theorem am_k38 : am_kp 38 := fun j hj => (List.all_eq_true.mp (by decide +kernel : (List.range 2).all (am_kb 38) = true)) j (List.mem_range.mpr hj)
theorem am_k39 : am_kp 39 := fun j hj => (List.all_eq_true.mp (by decide +kernel : (List.range 2).all (am_kb 39) = true)) j (List.mem_range.mpr hj)
theorem am_k40 : am_kp 40 := fun j hj => (List.all_eq_true.mp (by decide +kernel : (List.range 1).all (am_kb 40) = true)) j (List.mem_range.mpr hj)
theorem am_k41 : am_kp 41 := fun j hj => (List.all_eq_true.mp (by decide +kernel : (List.range 3).all (am_kb 41) = true)) j (List.mem_range.mpr hj)
theorem am_k42 : am_kp 42 := fun j hj => (List.all_eq_true.mp (by decide +kernel : (List.range 1).all (am_kb 42) = true)) j (List.mem_range.mpr hj)
theorem am_k43 : am_kp 43 := fun j hj => (List.all_eq_true.mp (by decide +kernel : (List.range 2).all (am_kb 43) = true)) j (List.mem_range.mpr hj)
theorem am_k44_0 : ∀ j, j < 0 → am_kb 44 j = true := lt_0
theorem am_k44_4 : ∀ j, j < 4 → am_kb 44 j = true := fun j hj => (Nat.lt_or_ge j 0).elim (am_k44_0 j) fun h => (show 0 + (j - 0) = j by omega) ▸ (List.all_eq_true.mp (by decide +kernel : (List.range 4).all (fun j => am_kb 44 (0 + j)) = true)) (j - 0) (List.mem_range.mpr (by omega))
theorem am_k44_7 : ∀ j, j < 7 → am_kb 44 j = true := fun j hj => (Nat.lt_or_ge j 4).elim (am_k44_4 j) fun h => (show 4 + (j - 4) = j by omega) ▸ (List.all_eq_true.mp (by decide +kernel : (List.range 3).all (fun j => am_kb 44 (4 + j)) = true)) (j - 4) (List.mem_range.mpr (by omega))
theorem am_k44 : am_kp 44 := fun j hj => am_k44_7 j hj
theorem am_k45 : am_kp 45 := fun j hj => (List.all_eq_true.mp (by decide +kernel : (List.range 1).all (am_kb 45) = true)) j (List.mem_range.mpr hj)
theorem am_k46 : am_kp 46 := fun j hj => (List.all_eq_true.mp (by decide +kernel : (List.range 1).all (am_kb 46) = true)) j (List.mem_range.mpr hj)
theorem am_k47_0 : ∀ j, j < 0 → am_kb 47 j = true := lt_0
theorem am_k47_4 : ∀ j, j < 4 → am_kb 47 j = true := fun j hj => (Nat.lt_or_ge j 0).elim (am_k47_0 j) fun h => (show 0 + (j - 0) = j by omega) ▸ (List.all_eq_true.mp (by decide +kernel : (List.range 4).all (fun j => am_kb 47 (0 + j)) = true)) (j - 0) (List.mem_range.mpr (by omega))
theorem am_k47_8 : ∀ j, j < 8 → am_kb 47 j = true := fun j hj => (Nat.lt_or_ge j 4).elim (am_k47_4 j) fun h => (show 4 + (j - 4) = j by omega) ▸ (List.all_eq_true.mp (by decide +kernel : (List.range 4).all (fun j => am_kb 47 (4 + j)) = true)) (j - 4) (List.mem_range.mpr (by omega))
theorem am_k47 : am_kp 47 := fun j hj => am_k47_8 j hj
theorem am_k48 : am_kp 48 := fun j hj => (List.all_eq_true.mp (by decide +kernel : (List.range 2).all (am_kb 48) = true)) j (List.mem_range.mpr hj)
theorem am_k49 : am_kp 49 := fun j hj => (List.all_eq_true.mp (by decide +kernel : (List.range 1).all (am_kb 49) = true)) j (List.mem_range.mpr hj)
theorem am_k50 : am_kp 50 := fun j hj => (List.all_eq_true.mp (by decide +kernel : (List.range 3).all (am_kb 50) = true)) j (List.mem_range.mpr hj)
theorem am_k51_0 : ∀ j, j < 0 → am_kb 51 j = true := lt_0
theorem am_k51_4 : ∀ j, j < 4 → am_kb 51 j = true := fun j hj => (Nat.lt_or_ge j 0).elim (am_k51_0 j) fun h => (show 0 + (j - 0) = j by omega) ▸ (List.all_eq_true.mp (by decide +kernel : (List.range 4).all (fun j => am_kb 51 (0 + j)) = true)) (j - 0) (List.mem_range.mpr (by omega))
theorem am_k51_5 : ∀ j, j < 5 → am_kb 51 j = true := fun j hj => (Nat.lt_or_ge j 4).elim (am_k51_4 j) fun h => (show 4 + (j - 4) = j by omega) ▸ (List.all_eq_true.mp (by decide +kernel : (List.range 1).all (fun j => am_kb 51 (4 + j)) = true)) (j - 4) (List.mem_range.mpr (by omega))
theorem am_k51 : am_kp 51 := fun j hj => am_k51_5 j hj
theorem am_k52_0 : ∀ j, j < 0 → am_kb 52 j = true := lt_0
theorem am_k52_4 : ∀ j, j < 4 → am_kb 52 j = true := fun j hj => (Nat.lt_or_ge j 0).elim (am_k52_0 j) fun h => (show 0 + (j - 0) = j by omega) ▸ (List.all_eq_true.mp (by decide +kernel : (List.range 4).all (fun j => am_kb 52 (0 + j)) = true)) (j - 0) (List.mem_range.mpr (by omega))
theorem am_k52_6 : ∀ j, j < 6 → am_kb 52 j = true := fun j hj => (Nat.lt_or_ge j 4).elim (am_k52_4 j) fun h => (show 4 + (j - 4) = j by omega) ▸ (List.all_eq_true.mp (by decide +kernel : (List.range 2).all (fun j => am_kb 52 (4 + j)) = true)) (j - 4) (List.mem_range.mpr (by omega))
theorem am_k52 : am_kp 52 := fun j hj => am_k52_6 j hj

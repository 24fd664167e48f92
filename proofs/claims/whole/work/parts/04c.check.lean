theorem am_k115 : am_kp 115 := fun j hj => (List.all_eq_true.mp (by decide +kernel : (List.range 2).all (am_kb 115) = true)) j (List.mem_range.mpr hj)
theorem am_k116_0 : ∀ j, j < 0 → am_kb 116 j = true := lt_0
theorem am_k116_4 : ∀ j, j < 4 → am_kb 116 j = true := fun j hj => (Nat.lt_or_ge j 0).elim (am_k116_0 j) fun h => (show 0 + (j - 0) = j by omega) ▸ (List.all_eq_true.mp (by decide +kernel : (List.range 4).all (fun j => am_kb 116 (0 + j)) = true)) (j - 0) (List.mem_range.mpr (by omega))
theorem am_k116_5 : ∀ j, j < 5 → am_kb 116 j = true := fun j hj => (Nat.lt_or_ge j 4).elim (am_k116_4 j) fun h => (show 4 + (j - 4) = j by omega) ▸ (List.all_eq_true.mp (by decide +kernel : (List.range 1).all (fun j => am_kb 116 (4 + j)) = true)) (j - 4) (List.mem_range.mpr (by omega))
theorem am_k116 : am_kp 116 := fun j hj => am_k116_5 j hj
theorem am_k117_0 : ∀ j, j < 0 → am_kb 117 j = true := lt_0
theorem am_k117_4 : ∀ j, j < 4 → am_kb 117 j = true := fun j hj => (Nat.lt_or_ge j 0).elim (am_k117_0 j) fun h => (show 0 + (j - 0) = j by omega) ▸ (List.all_eq_true.mp (by decide +kernel : (List.range 4).all (fun j => am_kb 117 (0 + j)) = true)) (j - 0) (List.mem_range.mpr (by omega))
theorem am_k117_6 : ∀ j, j < 6 → am_kb 117 j = true := fun j hj => (Nat.lt_or_ge j 4).elim (am_k117_4 j) fun h => (show 4 + (j - 4) = j by omega) ▸ (List.all_eq_true.mp (by decide +kernel : (List.range 2).all (fun j => am_kb 117 (4 + j)) = true)) (j - 4) (List.mem_range.mpr (by omega))
theorem am_k117 : am_kp 117 := fun j hj => am_k117_6 j hj
theorem am_k118 : am_kp 118 := fun j hj => (List.all_eq_true.mp (by decide +kernel : (List.range 2).all (am_kb 118) = true)) j (List.mem_range.mpr hj)
theorem am_k119 : am_kp 119 := fun j hj => (List.all_eq_true.mp (by decide +kernel : (List.range 2).all (am_kb 119) = true)) j (List.mem_range.mpr hj)
theorem am_k120 : am_kp 120 := fun j hj => (List.all_eq_true.mp (by decide +kernel : (List.range 2).all (am_kb 120) = true)) j (List.mem_range.mpr hj)
theorem am_k121_0 : ∀ j, j < 0 → am_kb 121 j = true := lt_0
theorem am_k121_4 : ∀ j, j < 4 → am_kb 121 j = true := fun j hj => (Nat.lt_or_ge j 0).elim (am_k121_0 j) fun h => (show 0 + (j - 0) = j by omega) ▸ (List.all_eq_true.mp (by decide +kernel : (List.range 4).all (fun j => am_kb 121 (0 + j)) = true)) (j - 0) (List.mem_range.mpr (by omega))
theorem am_k121_8 : ∀ j, j < 8 → am_kb 121 j = true := fun j hj => (Nat.lt_or_ge j 4).elim (am_k121_4 j) fun h => (show 4 + (j - 4) = j by omega) ▸ (List.all_eq_true.mp (by decide +kernel : (List.range 4).all (fun j => am_kb 121 (4 + j)) = true)) (j - 4) (List.mem_range.mpr (by omega))
theorem am_k121 : am_kp 121 := fun j hj => am_k121_8 j hj
theorem am_k122 : am_kp 122 := fun j hj => (List.all_eq_true.mp (by decide +kernel : (List.range 4).all (am_kb 122) = true)) j (List.mem_range.mpr hj)
theorem am_k123_0 : ∀ j, j < 0 → am_kb 123 j = true := lt_0
theorem am_k123_4 : ∀ j, j < 4 → am_kb 123 j = true := fun j hj => (Nat.lt_or_ge j 0).elim (am_k123_0 j) fun h => (show 0 + (j - 0) = j by omega) ▸ (List.all_eq_true.mp (by decide +kernel : (List.range 4).all (fun j => am_kb 123 (0 + j)) = true)) (j - 0) (List.mem_range.mpr (by omega))
theorem am_k123_5 : ∀ j, j < 5 → am_kb 123 j = true := fun j hj => (Nat.lt_or_ge j 4).elim (am_k123_4 j) fun h => (show 4 + (j - 4) = j by omega) ▸ (List.all_eq_true.mp (by decide +kernel : (List.range 1).all (fun j => am_kb 123 (4 + j)) = true)) (j - 4) (List.mem_range.mpr (by omega))
theorem am_k123 : am_kp 123 := fun j hj => am_k123_5 j hj
theorem am_k124 : am_kp 124 := fun j hj => (List.all_eq_true.mp (by decide +kernel : (List.range 4).all (am_kb 124) = true)) j (List.mem_range.mpr hj)
theorem am_k125 : am_kp 125 := fun j hj => (List.all_eq_true.mp (by decide +kernel : (List.range 3).all (am_kb 125) = true)) j (List.mem_range.mpr hj)
theorem am_k126_0 : ∀ j, j < 0 → am_kb 126 j = true := lt_0
theorem am_k126_4 : ∀ j, j < 4 → am_kb 126 j = true := fun j hj => (Nat.lt_or_ge j 0).elim (am_k126_0 j) fun h => (show 0 + (j - 0) = j by omega) ▸ (List.all_eq_true.mp (by decide +kernel : (List.range 4).all (fun j => am_kb 126 (0 + j)) = true)) (j - 0) (List.mem_range.mpr (by omega))
theorem am_k126_8 : ∀ j, j < 8 → am_kb 126 j = true := fun j hj => (Nat.lt_or_ge j 4).elim (am_k126_4 j) fun h => (show 4 + (j - 4) = j by omega) ▸ (List.all_eq_true.mp (by decide +kernel : (List.range 4).all (fun j => am_kb 126 (4 + j)) = true)) (j - 4) (List.mem_range.mpr (by omega))
theorem am_k126 : am_kp 126 := fun j hj => am_k126_8 j hj
theorem am_k127_0 : ∀ j, j < 0 → am_kb 127 j = true := lt_0
theorem am_k127_4 : ∀ j, j < 4 → am_kb 127 j = true := fun j hj => (Nat.lt_or_ge j 0).elim (am_k127_0 j) fun h => (show 0 + (j - 0) = j by omega) ▸ (List.all_eq_true.mp (by decide +kernel : (List.range 4).all (fun j => am_kb 127 (0 + j)) = true)) (j - 0) (List.mem_range.mpr (by omega))
theorem am_k127_8 : ∀ j, j < 8 → am_kb 127 j = true := fun j hj => (Nat.lt_or_ge j 4).elim (am_k127_4 j) fun h => (show 4 + (j - 4) = j by omega) ▸ (List.all_eq_true.mp (by decide +kernel : (List.range 4).all (fun j => am_kb 127 (4 + j)) = true)) (j - 4) (List.mem_range.mpr (by omega))
theorem am_k127_9 : ∀ j, j < 9 → am_kb 127 j = true := fun j hj => (Nat.lt_or_ge j 8).elim (am_k127_8 j) fun h => (show 8 + (j - 8) = j by omega) ▸ (List.all_eq_true.mp (by decide +kernel : (List.range 1).all (fun j => am_kb 127 (8 + j)) = true)) (j - 8) (List.mem_range.mpr (by omega))
theorem am_k127 : am_kp 127 := fun j hj => am_k127_9 j hj
theorem am_k128_0 : ∀ j, j < 0 → am_kb 128 j = true := lt_0
theorem am_k128_4 : ∀ j, j < 4 → am_kb 128 j = true := fun j hj => (Nat.lt_or_ge j 0).elim (am_k128_0 j) fun h => (show 0 + (j - 0) = j by omega) ▸ (List.all_eq_true.mp (by decide +kernel : (List.range 4).all (fun j => am_kb 128 (0 + j)) = true)) (j - 0) (List.mem_range.mpr (by omega))
theorem am_k128_5 : ∀ j, j < 5 → am_kb 128 j = true := fun j hj => (Nat.lt_or_ge j 4).elim (am_k128_4 j) fun h => (show 4 + (j - 4) = j by omega) ▸ (List.all_eq_true.mp (by decide +kernel : (List.range 1).all (fun j => am_kb 128 (4 + j)) = true)) (j - 4) (List.mem_range.mpr (by omega))
theorem am_k128 : am_kp 128 := fun j hj => am_k128_5 j hj
theorem am_k129_0 : ∀ j, j < 0 → am_kb 129 j = true := lt_0
theorem am_k129_4 : ∀ j, j < 4 → am_kb 129 j = true := fun j hj => (Nat.lt_or_ge j 0).elim (am_k129_0 j) fun h => (show 0 + (j - 0) = j by omega) ▸ (List.all_eq_true.mp (by decide +kernel : (List.range 4).all (fun j => am_kb 129 (0 + j)) = true)) (j - 0) (List.mem_range.mpr (by omega))
theorem am_k129_7 : ∀ j, j < 7 → am_kb 129 j = true := fun j hj => (Nat.lt_or_ge j 4).elim (am_k129_4 j) fun h => (show 4 + (j - 4) = j by omega) ▸ (List.all_eq_true.mp (by decide +kernel : (List.range 3).all (fun j => am_kb 129 (4 + j)) = true)) (j - 4) (List.mem_range.mpr (by omega))
theorem am_k129 : am_kp 129 := fun j hj => am_k129_7 j hj
theorem am_k130 : am_kp 130 := fun j hj => (List.all_eq_true.mp (by decide +kernel : (List.range 1).all (am_kb 130) = true)) j (List.mem_range.mpr hj)
theorem am_k131 : am_kp 131 := fun j hj => (List.all_eq_true.mp (by decide +kernel : (List.range 1).all (am_kb 131) = true)) j (List.mem_range.mpr hj)
theorem am_k132_0 : ∀ j, j < 0 → am_kb 132 j = true := lt_0
theorem am_k132_4 : ∀ j, j < 4 → am_kb 132 j = true := fun j hj => (Nat.lt_or_ge j 0).elim (am_k132_0 j) fun h => (show 0 + (j - 0) = j by omega) ▸ (List.all_eq_true.mp (by decide +kernel : (List.range 4).all (fun j => am_kb 132 (0 + j)) = true)) (j - 0) (List.mem_range.mpr (by omega))
theorem am_k132_8 : ∀ j, j < 8 → am_kb 132 j = true := fun j hj => (Nat.lt_or_ge j 4).elim (am_k132_4 j) fun h => (show 4 + (j - 4) = j by omega) ▸ (List.all_eq_true.mp (by decide +kernel : (List.range 4).all (fun j => am_kb 132 (4 + j)) = true)) (j - 4) (List.mem_range.mpr (by omega))
theorem am_k132_9 : ∀ j, j < 9 → am_kb 132 j = true := fun j hj => (Nat.lt_or_ge j 8).elim (am_k132_8 j) fun h => (show 8 + (j - 8) = j by omega) ▸ (List.all_eq_true.mp (by decide +kernel : (List.range 1).all (fun j => am_kb 132 (8 + j)) = true)) (j - 8) (List.mem_range.mpr (by omega))
theorem am_k132 : am_kp 132 := fun j hj => am_k132_9 j hj
theorem am_k133 : am_kp 133 := fun j hj => (List.all_eq_true.mp (by decide +kernel : (List.range 1).all (am_kb 133) = true)) j (List.mem_range.mpr hj)
theorem am_k134 : am_kp 134 := fun j hj => (List.all_eq_true.mp (by decide +kernel : (List.range 4).all (am_kb 134) = true)) j (List.mem_range.mpr hj)
theorem am_k135 : am_kp 135 := fun j hj => (List.all_eq_true.mp (by decide +kernel : (List.range 1).all (am_kb 135) = true)) j (List.mem_range.mpr hj)
theorem am_k136 : am_kp 136 := fun j hj => (List.all_eq_true.mp (by decide +kernel : (List.range 1).all (am_kb 136) = true)) j (List.mem_range.mpr hj)
theorem am_k137_0 : ∀ j, j < 0 → am_kb 137 j = true := lt_0
theorem am_k137_4 : ∀ j, j < 4 → am_kb 137 j = true := fun j hj => (Nat.lt_or_ge j 0).elim (am_k137_0 j) fun h => (show 0 + (j - 0) = j by omega) ▸ (List.all_eq_true.mp (by decide +kernel : (List.range 4).all (fun j => am_kb 137 (0 + j)) = true)) (j - 0) (List.mem_range.mpr (by omega))
theorem am_k137_8 : ∀ j, j < 8 → am_kb 137 j = true := fun j hj => (Nat.lt_or_ge j 4).elim (am_k137_4 j) fun h => (show 4 + (j - 4) = j by omega) ▸ (List.all_eq_true.mp (by decide +kernel : (List.range 4).all (fun j => am_kb 137 (4 + j)) = true)) (j - 4) (List.mem_range.mpr (by omega))
theorem am_k137_12 : ∀ j, j < 12 → am_kb 137 j = true := fun j hj => (Nat.lt_or_ge j 8).elim (am_k137_8 j) fun h => (show 8 + (j - 8) = j by omega) ▸ (List.all_eq_true.mp (by decide +kernel : (List.range 4).all (fun j => am_kb 137 (8 + j)) = true)) (j - 8) (List.mem_range.mpr (by omega))
theorem am_k137_15 : ∀ j, j < 15 → am_kb 137 j = true := fun j hj => (Nat.lt_or_ge j 12).elim (am_k137_12 j) fun h => (show 12 + (j - 12) = j by omega) ▸ (List.all_eq_true.mp (by decide +kernel : (List.range 3).all (fun j => am_kb 137 (12 + j)) = true)) (j - 12) (List.mem_range.mpr (by omega))
theorem am_k137 : am_kp 137 := fun j hj => am_k137_15 j hj
theorem am_k138_0 : ∀ j, j < 0 → am_kb 138 j = true := lt_0
theorem am_k138_4 : ∀ j, j < 4 → am_kb 138 j = true := fun j hj => (Nat.lt_or_ge j 0).elim (am_k138_0 j) fun h => (show 0 + (j - 0) = j by omega) ▸ (List.all_eq_true.mp (by decide +kernel : (List.range 4).all (fun j => am_kb 138 (0 + j)) = true)) (j - 0) (List.mem_range.mpr (by omega))
theorem am_k138_7 : ∀ j, j < 7 → am_kb 138 j = true := fun j hj => (Nat.lt_or_ge j 4).elim (am_k138_4 j) fun h => (show 4 + (j - 4) = j by omega) ▸ (List.all_eq_true.mp (by decide +kernel : (List.range 3).all (fun j => am_kb 138 (4 + j)) = true)) (j - 4) (List.mem_range.mpr (by omega))
theorem am_k138 : am_kp 138 := fun j hj => am_k138_7 j hj
theorem am_k139 : am_kp 139 := fun j hj => (List.all_eq_true.mp (by decide +kernel : (List.range 3).all (am_kb 139) = true)) j (List.mem_range.mpr hj)
theorem am_k140 : am_kp 140 := fun j hj => (List.all_eq_true.mp (by decide +kernel : (List.range 1).all (am_kb 140) = true)) j (List.mem_range.mpr hj)
theorem am_k141_0 : ∀ j, j < 0 → am_kb 141 j = true := lt_0
theorem am_k141_4 : ∀ j, j < 4 → am_kb 141 j = true := fun j hj => (Nat.lt_or_ge j 0).elim (am_k141_0 j) fun h => (show 0 + (j - 0) = j by omega) ▸ (List.all_eq_true.mp (by decide +kernel : (List.range 4).all (fun j => am_kb 141 (0 + j)) = true)) (j - 0) (List.mem_range.mpr (by omega))
theorem am_k141_6 : ∀ j, j < 6 → am_kb 141 j = true := fun j hj => (Nat.lt_or_ge j 4).elim (am_k141_4 j) fun h => (show 4 + (j - 4) = j by omega) ▸ (List.all_eq_true.mp (by decide +kernel : (List.range 2).all (fun j => am_kb 141 (4 + j)) = true)) (j - 4) (List.mem_range.mpr (by omega))
theorem am_k141 : am_kp 141 := fun j hj => am_k141_6 j hj
theorem am_k142 : am_kp 142 := fun j hj => (List.all_eq_true.mp (by decide +kernel : (List.range 2).all (am_kb 142) = true)) j (List.mem_range.mpr hj)
theorem am_k143 : am_kp 143 := fun j hj => (List.all_eq_true.mp (by decide +kernel : (List.range 4).all (am_kb 143) = true)) j (List.mem_range.mpr hj)
theorem am_k144 : am_kp 144 := fun j hj => (List.all_eq_true.mp (by decide +kernel : (List.range 3).all (am_kb 144) = true)) j (List.mem_range.mpr hj)
theorem am_k145_0 : ∀ j, j < 0 → am_kb 145 j = true := lt_0
theorem am_k145_4 : ∀ j, j < 4 → am_kb 145 j = true := fun j hj => (Nat.lt_or_ge j 0).elim (am_k145_0 j) fun h => (show 0 + (j - 0) = j by omega) ▸ (List.all_eq_true.mp (by decide +kernel : (List.range 4).all (fun j => am_kb 145 (0 + j)) = true)) (j - 0) (List.mem_range.mpr (by omega))
theorem am_k145_7 : ∀ j, j < 7 → am_kb 145 j = true := fun j hj => (Nat.lt_or_ge j 4).elim (am_k145_4 j) fun h => (show 4 + (j - 4) = j by omega) ▸ (List.all_eq_true.mp (by decide +kernel : (List.range 3).all (fun j => am_kb 145 (4 + j)) = true)) (j - 4) (List.mem_range.mpr (by omega))
theorem am_k145 : am_kp 145 := fun j hj => am_k145_7 j hj
theorem am_k146_0 : ∀ j, j < 0 → am_kb 146 j = true := lt_0
theorem am_k146_4 : ∀ j, j < 4 → am_kb 146 j = true := fun j hj => (Nat.lt_or_ge j 0).elim (am_k146_0 j) fun h => (show 0 + (j - 0) = j by omega) ▸ (List.all_eq_true.mp (by decide +kernel : (List.range 4).all (fun j => am_kb 146 (0 + j)) = true)) (j - 0) (List.mem_range.mpr (by omega))
theorem am_k146_8 : ∀ j, j < 8 → am_kb 146 j = true := fun j hj => (Nat.lt_or_ge j 4).elim (am_k146_4 j) fun h => (show 4 + (j - 4) = j by omega) ▸ (List.all_eq_true.mp (by decide +kernel : (List.range 4).all (fun j => am_kb 146 (4 + j)) = true)) (j - 4) (List.mem_range.mpr (by omega))
theorem am_k146_9 : ∀ j, j < 9 → am_kb 146 j = true := fun j hj => (Nat.lt_or_ge j 8).elim (am_k146_8 j) fun h => (show 8 + (j - 8) = j by omega) ▸ (List.all_eq_true.mp (by decide +kernel : (List.range 1).all (fun j => am_kb 146 (8 + j)) = true)) (j - 8) (List.mem_range.mpr (by omega))
theorem am_k146 : am_kp 146 := fun j hj => am_k146_9 j hj

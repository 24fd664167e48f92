theorem am_k53 : am_kp 53 := fun j hj => (List.all_eq_true.mp (by decide +kernel : (List.range 2).all (am_kb 53) = true)) j (List.mem_range.mpr hj)
theorem am_k54 : am_kp 54 := fun j hj => (List.all_eq_true.mp (by decide +kernel : (List.range 2).all (am_kb 54) = true)) j (List.mem_range.mpr hj)
theorem am_k55 : am_kp 55 := fun j hj => (List.all_eq_true.mp (by decide +kernel : (List.range 2).all (am_kb 55) = true)) j (List.mem_range.mpr hj)
theorem am_k56_0 : ∀ j, j < 0 → am_kb 56 j = true := lt_0
theorem am_k56_4 : ∀ j, j < 4 → am_kb 56 j = true := fun j hj => (Nat.lt_or_ge j 0).elim (am_k56_0 j) fun h => (show 0 + (j - 0) = j by omega) ▸ (List.all_eq_true.mp (by decide +kernel : (List.range 4).all (fun j => am_kb 56 (0 + j)) = true)) (j - 0) (List.mem_range.mpr (by omega))
theorem am_k56_5 : ∀ j, j < 5 → am_kb 56 j = true := fun j hj => (Nat.lt_or_ge j 4).elim (am_k56_4 j) fun h => (show 4 + (j - 4) = j by omega) ▸ (List.all_eq_true.mp (by decide +kernel : (List.range 1).all (fun j => am_kb 56 (4 + j)) = true)) (j - 4) (List.mem_range.mpr (by omega))
theorem am_k56 : am_kp 56 := fun j hj => am_k56_5 j hj
theorem am_k57 : am_kp 57 := fun j hj => (List.all_eq_true.mp (by decide +kernel : (List.range 2).all (am_kb 57) = true)) j (List.mem_range.mpr hj)
theorem am_k58_0 : ∀ j, j < 0 → am_kb 58 j = true := lt_0
theorem am_k58_4 : ∀ j, j < 4 → am_kb 58 j = true := fun j hj => (Nat.lt_or_ge j 0).elim (am_k58_0 j) fun h => (show 0 + (j - 0) = j by omega) ▸ (List.all_eq_true.mp (by decide +kernel : (List.range 4).all (fun j => am_kb 58 (0 + j)) = true)) (j - 0) (List.mem_range.mpr (by omega))
theorem am_k58_5 : ∀ j, j < 5 → am_kb 58 j = true := fun j hj => (Nat.lt_or_ge j 4).elim (am_k58_4 j) fun h => (show 4 + (j - 4) = j by omega) ▸ (List.all_eq_true.mp (by decide +kernel : (List.range 1).all (fun j => am_kb 58 (4 + j)) = true)) (j - 4) (List.mem_range.mpr (by omega))
theorem am_k58 : am_kp 58 := fun j hj => am_k58_5 j hj
theorem am_k59_0 : ∀ j, j < 0 → am_kb 59 j = true := lt_0
theorem am_k59_4 : ∀ j, j < 4 → am_kb 59 j = true := fun j hj => (Nat.lt_or_ge j 0).elim (am_k59_0 j) fun h => (show 0 + (j - 0) = j by omega) ▸ (List.all_eq_true.mp (by decide +kernel : (List.range 4).all (fun j => am_kb 59 (0 + j)) = true)) (j - 0) (List.mem_range.mpr (by omega))
theorem am_k59_5 : ∀ j, j < 5 → am_kb 59 j = true := fun j hj => (Nat.lt_or_ge j 4).elim (am_k59_4 j) fun h => (show 4 + (j - 4) = j by omega) ▸ (List.all_eq_true.mp (by decide +kernel : (List.range 1).all (fun j => am_kb 59 (4 + j)) = true)) (j - 4) (List.mem_range.mpr (by omega))
theorem am_k59 : am_kp 59 := fun j hj => am_k59_5 j hj
theorem am_k60 : am_kp 60 := fun j hj => (List.all_eq_true.mp (by decide +kernel : (List.range 3).all (am_kb 60) = true)) j (List.mem_range.mpr hj)
theorem am_k61_0 : ∀ j, j < 0 → am_kb 61 j = true := lt_0
theorem am_k61_4 : ∀ j, j < 4 → am_kb 61 j = true := fun j hj => (Nat.lt_or_ge j 0).elim (am_k61_0 j) fun h => (show 0 + (j - 0) = j by omega) ▸ (List.all_eq_true.mp (by decide +kernel : (List.range 4).all (fun j => am_kb 61 (0 + j)) = true)) (j - 0) (List.mem_range.mpr (by omega))
theorem am_k61_5 : ∀ j, j < 5 → am_kb 61 j = true := fun j hj => (Nat.lt_or_ge j 4).elim (am_k61_4 j) fun h => (show 4 + (j - 4) = j by omega) ▸ (List.all_eq_true.mp (by decide +kernel : (List.range 1).all (fun j => am_kb 61 (4 + j)) = true)) (j - 4) (List.mem_range.mpr (by omega))
theorem am_k61 : am_kp 61 := fun j hj => am_k61_5 j hj
theorem am_k62 : am_kp 62 := fun j hj => (List.all_eq_true.mp (by decide +kernel : (List.range 2).all (am_kb 62) = true)) j (List.mem_range.mpr hj)
theorem am_k63 : am_kp 63 := fun j hj => (List.all_eq_true.mp (by decide +kernel : (List.range 4).all (am_kb 63) = true)) j (List.mem_range.mpr hj)
theorem am_k64 : am_kp 64 := fun j hj => (List.all_eq_true.mp (by decide +kernel : (List.range 3).all (am_kb 64) = true)) j (List.mem_range.mpr hj)
theorem am_k65 : am_kp 65 := fun j hj => (List.all_eq_true.mp (by decide +kernel : (List.range 1).all (am_kb 65) = true)) j (List.mem_range.mpr hj)
theorem am_k66_0 : ∀ j, j < 0 → am_kb 66 j = true := lt_0
theorem am_k66_4 : ∀ j, j < 4 → am_kb 66 j = true := fun j hj => (Nat.lt_or_ge j 0).elim (am_k66_0 j) fun h => (show 0 + (j - 0) = j by omega) ▸ (List.all_eq_true.mp (by decide +kernel : (List.range 4).all (fun j => am_kb 66 (0 + j)) = true)) (j - 0) (List.mem_range.mpr (by omega))
theorem am_k66_5 : ∀ j, j < 5 → am_kb 66 j = true := fun j hj => (Nat.lt_or_ge j 4).elim (am_k66_4 j) fun h => (show 4 + (j - 4) = j by omega) ▸ (List.all_eq_true.mp (by decide +kernel : (List.range 1).all (fun j => am_kb 66 (4 + j)) = true)) (j - 4) (List.mem_range.mpr (by omega))
theorem am_k66 : am_kp 66 := fun j hj => am_k66_5 j hj
theorem am_k67 : am_kp 67 := fun j hj => (List.all_eq_true.mp (by decide +kernel : (List.range 1).all (am_kb 67) = true)) j (List.mem_range.mpr hj)
theorem am_k68 : am_kp 68 := fun j hj => (List.all_eq_true.mp (by decide +kernel : (List.range 3).all (am_kb 68) = true)) j (List.mem_range.mpr hj)
theorem am_k69 : am_kp 69 := fun j hj => (List.all_eq_true.mp (by decide +kernel : (List.range 2).all (am_kb 69) = true)) j (List.mem_range.mpr hj)
theorem am_k70 : am_kp 70 := fun j hj => (List.all_eq_true.mp (by decide +kernel : (List.range 2).all (am_kb 70) = true)) j (List.mem_range.mpr hj)
theorem am_k71 : am_kp 71 := fun j hj => (List.all_eq_true.mp (by decide +kernel : (List.range 3).all (am_kb 71) = true)) j (List.mem_range.mpr hj)
theorem am_k72 : am_kp 72 := fun j hj => (List.all_eq_true.mp (by decide +kernel : (List.range 2).all (am_kb 72) = true)) j (List.mem_range.mpr hj)
theorem am_k73 : am_kp 73 := fun j hj => (List.all_eq_true.mp (by decide +kernel : (List.range 2).all (am_kb 73) = true)) j (List.mem_range.mpr hj)
theorem am_k74 : am_kp 74 := fun j hj => (List.all_eq_true.mp (by decide +kernel : (List.range 1).all (am_kb 74) = true)) j (List.mem_range.mpr hj)
theorem am_k75 : am_kp 75 := fun j hj => (List.all_eq_true.mp (by decide +kernel : (List.range 2).all (am_kb 75) = true)) j (List.mem_range.mpr hj)
theorem am_k76 : am_kp 76 := fun j hj => (List.all_eq_true.mp (by decide +kernel : (List.range 1).all (am_kb 76) = true)) j (List.mem_range.mpr hj)
theorem am_k77 : am_kp 77 := fun j hj => (List.all_eq_true.mp (by decide +kernel : (List.range 1).all (am_kb 77) = true)) j (List.mem_range.mpr hj)
theorem am_k78 : am_kp 78 := fun j hj => (List.all_eq_true.mp (by decide +kernel : (List.range 1).all (am_kb 78) = true)) j (List.mem_range.mpr hj)
theorem am_k79 : am_kp 79 := fun j hj => (List.all_eq_true.mp (by decide +kernel : (List.range 2).all (am_kb 79) = true)) j (List.mem_range.mpr hj)
theorem am_k80 : am_kp 80 := fun j hj => (List.all_eq_true.mp (by decide +kernel : (List.range 2).all (am_kb 80) = true)) j (List.mem_range.mpr hj)
theorem am_k81 : am_kp 81 := fun j hj => (List.all_eq_true.mp (by decide +kernel : (List.range 3).all (am_kb 81) = true)) j (List.mem_range.mpr hj)
theorem am_k82 : am_kp 82 := fun j hj => (List.all_eq_true.mp (by decide +kernel : (List.range 1).all (am_kb 82) = true)) j (List.mem_range.mpr hj)
theorem am_k83 : am_kp 83 := fun j hj => (List.all_eq_true.mp (by decide +kernel : (List.range 2).all (am_kb 83) = true)) j (List.mem_range.mpr hj)
theorem am_k84 : am_kp 84 := fun j hj => (List.all_eq_true.mp (by decide +kernel : (List.range 2).all (am_kb 84) = true)) j (List.mem_range.mpr hj)
theorem am_k85 : am_kp 85 := fun j hj => (List.all_eq_true.mp (by decide +kernel : (List.range 3).all (am_kb 85) = true)) j (List.mem_range.mpr hj)
theorem am_k86 : am_kp 86 := fun j hj => (List.all_eq_true.mp (by decide +kernel : (List.range 1).all (am_kb 86) = true)) j (List.mem_range.mpr hj)
theorem am_k87 : am_kp 87 := fun j hj => (List.all_eq_true.mp (by decide +kernel : (List.range 1).all (am_kb 87) = true)) j (List.mem_range.mpr hj)
theorem am_k88 : am_kp 88 := fun j hj => (List.all_eq_true.mp (by decide +kernel : (List.range 1).all (am_kb 88) = true)) j (List.mem_range.mpr hj)
theorem am_k89 : am_kp 89 := fun j hj => (List.all_eq_true.mp (by decide +kernel : (List.range 1).all (am_kb 89) = true)) j (List.mem_range.mpr hj)
theorem am_k90 : am_kp 90 := fun j hj => (List.all_eq_true.mp (by decide +kernel : (List.range 1).all (am_kb 90) = true)) j (List.mem_range.mpr hj)
theorem am_k91 : am_kp 91 := fun j hj => (List.all_eq_true.mp (by decide +kernel : (List.range 1).all (am_kb 91) = true)) j (List.mem_range.mpr hj)
theorem am_k92 : am_kp 92 := fun j hj => (List.all_eq_true.mp (by decide +kernel : (List.range 1).all (am_kb 92) = true)) j (List.mem_range.mpr hj)
theorem am_k93 : am_kp 93 := fun j hj => (List.all_eq_true.mp (by decide +kernel : (List.range 1).all (am_kb 93) = true)) j (List.mem_range.mpr hj)
theorem am_k94_0 : ∀ j, j < 0 → am_kb 94 j = true := lt_0
theorem am_k94_4 : ∀ j, j < 4 → am_kb 94 j = true := fun j hj => (Nat.lt_or_ge j 0).elim (am_k94_0 j) fun h => (show 0 + (j - 0) = j by omega) ▸ (List.all_eq_true.mp (by decide +kernel : (List.range 4).all (fun j => am_kb 94 (0 + j)) = true)) (j - 0) (List.mem_range.mpr (by omega))
theorem am_k94_8 : ∀ j, j < 8 → am_kb 94 j = true := fun j hj => (Nat.lt_or_ge j 4).elim (am_k94_4 j) fun h => (show 4 + (j - 4) = j by omega) ▸ (List.all_eq_true.mp (by decide +kernel : (List.range 4).all (fun j => am_kb 94 (4 + j)) = true)) (j - 4) (List.mem_range.mpr (by omega))
theorem am_k94_11 : ∀ j, j < 11 → am_kb 94 j = true := fun j hj => (Nat.lt_or_ge j 8).elim (am_k94_8 j) fun h => (show 8 + (j - 8) = j by omega) ▸ (List.all_eq_true.mp (by decide +kernel : (List.range 3).all (fun j => am_kb 94 (8 + j)) = true)) (j - 8) (List.mem_range.mpr (by omega))
theorem am_k94 : am_kp 94 := fun j hj => am_k94_11 j hj
theorem am_k95 : am_kp 95 := fun j hj => (List.all_eq_true.mp (by decide +kernel : (List.range 1).all (am_kb 95) = true)) j (List.mem_range.mpr hj)
theorem am_k96 : am_kp 96 := fun j hj => (List.all_eq_true.mp (by decide +kernel : (List.range 4).all (am_kb 96) = true)) j (List.mem_range.mpr hj)
theorem am_k97 : am_kp 97 := fun j hj => (List.all_eq_true.mp (by decide +kernel : (List.range 1).all (am_kb 97) = true)) j (List.mem_range.mpr hj)
theorem am_k98 : am_kp 98 := fun j hj => (List.all_eq_true.mp (by decide +kernel : (List.range 1).all (am_kb 98) = true)) j (List.mem_range.mpr hj)
theorem am_k99_0 : ∀ j, j < 0 → am_kb 99 j = true := lt_0
theorem am_k99_4 : ∀ j, j < 4 → am_kb 99 j = true := fun j hj => (Nat.lt_or_ge j 0).elim (am_k99_0 j) fun h => (show 0 + (j - 0) = j by omega) ▸ (List.all_eq_true.mp (by decide +kernel : (List.range 4).all (fun j => am_kb 99 (0 + j)) = true)) (j - 0) (List.mem_range.mpr (by omega))
theorem am_k99_5 : ∀ j, j < 5 → am_kb 99 j = true := fun j hj => (Nat.lt_or_ge j 4).elim (am_k99_4 j) fun h => (show 4 + (j - 4) = j by omega) ▸ (List.all_eq_true.mp (by decide +kernel : (List.range 1).all (fun j => am_kb 99 (4 + j)) = true)) (j - 4) (List.mem_range.mpr (by omega))
theorem am_k99 : am_kp 99 := fun j hj => am_k99_5 j hj
theorem am_k100 : am_kp 100 := fun j hj => (List.all_eq_true.mp (by decide +kernel : (List.range 1).all (am_kb 100) = true)) j (List.mem_range.mpr hj)
theorem am_k101 : am_kp 101 := fun j hj => (List.all_eq_true.mp (by decide +kernel : (List.range 1).all (am_kb 101) = true)) j (List.mem_range.mpr hj)
theorem am_k102 : am_kp 102 := fun j hj => (List.all_eq_true.mp (by decide +kernel : (List.range 2).all (am_kb 102) = true)) j (List.mem_range.mpr hj)
theorem am_k103 : am_kp 103 := fun j hj => (List.all_eq_true.mp (by decide +kernel : (List.range 1).all (am_kb 103) = true)) j (List.mem_range.mpr hj)
theorem am_k104 : am_kp 104 := fun j hj => (List.all_eq_true.mp (by decide +kernel : (List.range 2).all (am_kb 104) = true)) j (List.mem_range.mpr hj)
theorem am_k105 : am_kp 105 := fun j hj => (List.all_eq_true.mp (by decide +kernel : (List.range 2).all (am_kb 105) = true)) j (List.mem_range.mpr hj)
theorem am_k106 : am_kp 106 := fun j hj => (List.all_eq_true.mp (by decide +kernel : (List.range 3).all (am_kb 106) = true)) j (List.mem_range.mpr hj)
theorem am_k107 : am_kp 107 := fun j hj => (List.all_eq_true.mp (by decide +kernel : (List.range 3).all (am_kb 107) = true)) j (List.mem_range.mpr hj)
theorem am_k108 : am_kp 108 := fun j hj => (List.all_eq_true.mp (by decide +kernel : (List.range 1).all (am_kb 108) = true)) j (List.mem_range.mpr hj)
theorem am_k109 : am_kp 109 := fun j hj => (List.all_eq_true.mp (by decide +kernel : (List.range 4).all (am_kb 109) = true)) j (List.mem_range.mpr hj)
theorem am_k110 : am_kp 110 := fun j hj => (List.all_eq_true.mp (by decide +kernel : (List.range 1).all (am_kb 110) = true)) j (List.mem_range.mpr hj)
theorem am_k111_0 : ∀ j, j < 0 → am_kb 111 j = true := lt_0
theorem am_k111_4 : ∀ j, j < 4 → am_kb 111 j = true := fun j hj => (Nat.lt_or_ge j 0).elim (am_k111_0 j) fun h => (show 0 + (j - 0) = j by omega) ▸ (List.all_eq_true.mp (by decide +kernel : (List.range 4).all (fun j => am_kb 111 (0 + j)) = true)) (j - 0) (List.mem_range.mpr (by omega))
theorem am_k111_7 : ∀ j, j < 7 → am_kb 111 j = true := fun j hj => (Nat.lt_or_ge j 4).elim (am_k111_4 j) fun h => (show 4 + (j - 4) = j by omega) ▸ (List.all_eq_true.mp (by decide +kernel : (List.range 3).all (fun j => am_kb 111 (4 + j)) = true)) (j - 4) (List.mem_range.mpr (by omega))
theorem am_k111 : am_kp 111 := fun j hj => am_k111_7 j hj
theorem am_k112_0 : ∀ j, j < 0 → am_kb 112 j = true := lt_0
theorem am_k112_4 : ∀ j, j < 4 → am_kb 112 j = true := fun j hj => (Nat.lt_or_ge j 0).elim (am_k112_0 j) fun h => (show 0 + (j - 0) = j by omega) ▸ (List.all_eq_true.mp (by decide +kernel : (List.range 4).all (fun j => am_kb 112 (0 + j)) = true)) (j - 0) (List.mem_range.mpr (by omega))
theorem am_k112_6 : ∀ j, j < 6 → am_kb 112 j = true := fun j hj => (Nat.lt_or_ge j 4).elim (am_k112_4 j) fun h => (show 4 + (j - 4) = j by omega) ▸ (List.all_eq_true.mp (by decide +kernel : (List.range 2).all (fun j => am_kb 112 (4 + j)) = true)) (j - 4) (List.mem_range.mpr (by omega))
theorem am_k112 : am_kp 112 := fun j hj => am_k112_6 j hj
theorem am_k113 : am_kp 113 := fun j hj => (List.all_eq_true.mp (by decide +kernel : (List.range 3).all (am_kb 113) = true)) j (List.mem_range.mpr hj)
theorem am_k114_0 : ∀ j, j < 0 → am_kb 114 j = true := lt_0
theorem am_k114_4 : ∀ j, j < 4 → am_kb 114 j = true := fun j hj => (Nat.lt_or_ge j 0).elim (am_k114_0 j) fun h => (show 0 + (j - 0) = j by omega) ▸ (List.all_eq_true.mp (by decide +kernel : (List.range 4).all (fun j => am_kb 114 (0 + j)) = true)) (j - 0) (List.mem_range.mpr (by omega))
theorem am_k114_8 : ∀ j, j < 8 → am_kb 114 j = true := fun j hj => (Nat.lt_or_ge j 4).elim (am_k114_4 j) fun h => (show 4 + (j - 4) = j by omega) ▸ (List.all_eq_true.mp (by decide +kernel : (List.range 4).all (fun j => am_kb 114 (4 + j)) = true)) (j - 4) (List.mem_range.mpr (by omega))
theorem am_k114_10 : ∀ j, j < 10 → am_kb 114 j = true := fun j hj => (Nat.lt_or_ge j 8).elim (am_k114_8 j) fun h => (show 8 + (j - 8) = j by omega) ▸ (List.all_eq_true.mp (by decide +kernel : (List.range 2).all (fun j => am_kb 114 (8 + j)) = true)) (j - 8) (List.mem_range.mpr (by omega))
theorem am_k114 : am_kp 114 := fun j hj => am_k114_10 j hj

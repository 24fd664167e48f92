theorem am_k147_0 : ∀ j, j < 0 → am_kb 147 j = true := lt_0
theorem am_k147_4 : ∀ j, j < 4 → am_kb 147 j = true := fun j hj => (Nat.lt_or_ge j 0).elim (am_k147_0 j) fun h => (show 0 + (j - 0) = j by omega) ▸ (List.all_eq_true.mp (by decide +kernel : (List.range 4).all (fun j => am_kb 147 (0 + j)) = true)) (j - 0) (List.mem_range.mpr (by omega))
theorem am_k147_8 : ∀ j, j < 8 → am_kb 147 j = true := fun j hj => (Nat.lt_or_ge j 4).elim (am_k147_4 j) fun h => (show 4 + (j - 4) = j by omega) ▸ (List.all_eq_true.mp (by decide +kernel : (List.range 4).all (fun j => am_kb 147 (4 + j)) = true)) (j - 4) (List.mem_range.mpr (by omega))
theorem am_k147 : am_kp 147 := fun j hj => am_k147_8 j hj
theorem am_k148_0 : ∀ j, j < 0 → am_kb 148 j = true := lt_0
theorem am_k148_4 : ∀ j, j < 4 → am_kb 148 j = true := fun j hj => (Nat.lt_or_ge j 0).elim (am_k148_0 j) fun h => (show 0 + (j - 0) = j by omega) ▸ (List.all_eq_true.mp (by decide +kernel : (List.range 4).all (fun j => am_kb 148 (0 + j)) = true)) (j - 0) (List.mem_range.mpr (by omega))
theorem am_k148_8 : ∀ j, j < 8 → am_kb 148 j = true := fun j hj => (Nat.lt_or_ge j 4).elim (am_k148_4 j) fun h => (show 4 + (j - 4) = j by omega) ▸ (List.all_eq_true.mp (by decide +kernel : (List.range 4).all (fun j => am_kb 148 (4 + j)) = true)) (j - 4) (List.mem_range.mpr (by omega))
theorem am_k148_12 : ∀ j, j < 12 → am_kb 148 j = true := fun j hj => (Nat.lt_or_ge j 8).elim (am_k148_8 j) fun h => (show 8 + (j - 8) = j by omega) ▸ (List.all_eq_true.mp (by decide +kernel : (List.range 4).all (fun j => am_kb 148 (8 + j)) = true)) (j - 8) (List.mem_range.mpr (by omega))
theorem am_k148_16 : ∀ j, j < 16 → am_kb 148 j = true := fun j hj => (Nat.lt_or_ge j 12).elim (am_k148_12 j) fun h => (show 12 + (j - 12) = j by omega) ▸ (List.all_eq_true.mp (by decide +kernel : (List.range 4).all (fun j => am_kb 148 (12 + j)) = true)) (j - 12) (List.mem_range.mpr (by omega))
theorem am_k148_17 : ∀ j, j < 17 → am_kb 148 j = true := fun j hj => (Nat.lt_or_ge j 16).elim (am_k148_16 j) fun h => (show 16 + (j - 16) = j by omega) ▸ (List.all_eq_true.mp (by decide +kernel : (List.range 1).all (fun j => am_kb 148 (16 + j)) = true)) (j - 16) (List.mem_range.mpr (by omega))
theorem am_k148 : am_kp 148 := fun j hj => am_k148_17 j hj
theorem am_k149 : am_kp 149 := fun j hj => (List.all_eq_true.mp (by decide +kernel : (List.range 4).all (am_kb 149) = true)) j (List.mem_range.mpr hj)
theorem am_k150 : am_kp 150 := fun j hj => (List.all_eq_true.mp (by decide +kernel : (List.range 2).all (am_kb 150) = true)) j (List.mem_range.mpr hj)
theorem am_k151 : am_kp 151 := fun j hj => (List.all_eq_true.mp (by decide +kernel : (List.range 3).all (am_kb 151) = true)) j (List.mem_range.mpr hj)
theorem am_k152 : am_kp 152 := fun j hj => (List.all_eq_true.mp (by decide +kernel : (List.range 1).all (am_kb 152) = true)) j (List.mem_range.mpr hj)
theorem am_k153 : am_kp 153 := fun j hj => (List.all_eq_true.mp (by decide +kernel : (List.range 2).all (am_kb 153) = true)) j (List.mem_range.mpr hj)
theorem am_k154 : am_kp 154 := fun j hj => (List.all_eq_true.mp (by decide +kernel : (List.range 2).all (am_kb 154) = true)) j (List.mem_range.mpr hj)
theorem am_k155_0 : ∀ j, j < 0 → am_kb 155 j = true := lt_0
theorem am_k155_4 : ∀ j, j < 4 → am_kb 155 j = true := fun j hj => (Nat.lt_or_ge j 0).elim (am_k155_0 j) fun h => (show 0 + (j - 0) = j by omega) ▸ (List.all_eq_true.mp (by decide +kernel : (List.range 4).all (fun j => am_kb 155 (0 + j)) = true)) (j - 0) (List.mem_range.mpr (by omega))
theorem am_k155_5 : ∀ j, j < 5 → am_kb 155 j = true := fun j hj => (Nat.lt_or_ge j 4).elim (am_k155_4 j) fun h => (show 4 + (j - 4) = j by omega) ▸ (List.all_eq_true.mp (by decide +kernel : (List.range 1).all (fun j => am_kb 155 (4 + j)) = true)) (j - 4) (List.mem_range.mpr (by omega))
theorem am_k155 : am_kp 155 := fun j hj => am_k155_5 j hj
theorem am_k156 : am_kp 156 := fun j hj => (List.all_eq_true.mp (by decide +kernel : (List.range 2).all (am_kb 156) = true)) j (List.mem_range.mpr hj)
theorem am_k157 : am_kp 157 := fun j hj => (List.all_eq_true.mp (by decide +kernel : (List.range 3).all (am_kb 157) = true)) j (List.mem_range.mpr hj)
theorem am_k158 : am_kp 158 := fun j hj => (List.all_eq_true.mp (by decide +kernel : (List.range 1).all (am_kb 158) = true)) j (List.mem_range.mpr hj)
theorem am_k159 : am_kp 159 := fun j hj => (List.all_eq_true.mp (by decide +kernel : (List.range 1).all (am_kb 159) = true)) j (List.mem_range.mpr hj)
theorem am_k160 : am_kp 160 := fun j hj => (List.all_eq_true.mp (by decide +kernel : (List.range 1).all (am_kb 160) = true)) j (List.mem_range.mpr hj)
theorem am_k161 : am_kp 161 := fun j hj => (List.all_eq_true.mp (by decide +kernel : (List.range 1).all (am_kb 161) = true)) j (List.mem_range.mpr hj)
theorem am_k162 : am_kp 162 := fun j hj => (List.all_eq_true.mp (by decide +kernel : (List.range 1).all (am_kb 162) = true)) j (List.mem_range.mpr hj)
theorem am_k163 : am_kp 163 := fun j hj => (List.all_eq_true.mp (by decide +kernel : (List.range 1).all (am_kb 163) = true)) j (List.mem_range.mpr hj)
theorem am_k164 : am_kp 164 := fun j hj => (List.all_eq_true.mp (by decide +kernel : (List.range 1).all (am_kb 164) = true)) j (List.mem_range.mpr hj)
theorem am_k165 : am_kp 165 := fun j hj => (List.all_eq_true.mp (by decide +kernel : (List.range 1).all (am_kb 165) = true)) j (List.mem_range.mpr hj)
theorem am_k166 : am_kp 166 := fun j hj => (List.all_eq_true.mp (by decide +kernel : (List.range 1).all (am_kb 166) = true)) j (List.mem_range.mpr hj)
theorem am_k167 : am_kp 167 := fun j hj => (List.all_eq_true.mp (by decide +kernel : (List.range 1).all (am_kb 167) = true)) j (List.mem_range.mpr hj)
theorem am_k168 : am_kp 168 := fun j hj => (List.all_eq_true.mp (by decide +kernel : (List.range 2).all (am_kb 168) = true)) j (List.mem_range.mpr hj)
theorem am_k169 : am_kp 169 := fun j hj => (List.all_eq_true.mp (by decide +kernel : (List.range 1).all (am_kb 169) = true)) j (List.mem_range.mpr hj)
theorem am_k170 : am_kp 170 := fun j hj => (List.all_eq_true.mp (by decide +kernel : (List.range 1).all (am_kb 170) = true)) j (List.mem_range.mpr hj)
theorem am_k171 : am_kp 171 := fun j hj => (List.all_eq_true.mp (by decide +kernel : (List.range 1).all (am_kb 171) = true)) j (List.mem_range.mpr hj)
theorem am_k172 : am_kp 172 := fun j hj => (List.all_eq_true.mp (by decide +kernel : (List.range 1).all (am_kb 172) = true)) j (List.mem_range.mpr hj)
theorem am_k173 : am_kp 173 := fun j hj => (List.all_eq_true.mp (by decide +kernel : (List.range 1).all (am_kb 173) = true)) j (List.mem_range.mpr hj)
theorem am_k174 : am_kp 174 := fun j hj => (List.all_eq_true.mp (by decide +kernel : (List.range 1).all (am_kb 174) = true)) j (List.mem_range.mpr hj)
theorem am_k175 : am_kp 175 := fun j hj => (List.all_eq_true.mp (by decide +kernel : (List.range 2).all (am_kb 175) = true)) j (List.mem_range.mpr hj)
theorem am_k176 : am_kp 176 := fun j hj => (List.all_eq_true.mp (by decide +kernel : (List.range 2).all (am_kb 176) = true)) j (List.mem_range.mpr hj)
theorem am_k177 : am_kp 177 := fun j hj => (List.all_eq_true.mp (by decide +kernel : (List.range 1).all (am_kb 177) = true)) j (List.mem_range.mpr hj)
theorem am_k178 : am_kp 178 := fun j hj => (List.all_eq_true.mp (by decide +kernel : (List.range 1).all (am_kb 178) = true)) j (List.mem_range.mpr hj)
theorem am_k179_0 : ∀ j, j < 0 → am_kb 179 j = true := lt_0
theorem am_k179_4 : ∀ j, j < 4 → am_kb 179 j = true := fun j hj => (Nat.lt_or_ge j 0).elim (am_k179_0 j) fun h => (show 0 + (j - 0) = j by omega) ▸ (List.all_eq_true.mp (by decide +kernel : (List.range 4).all (fun j => am_kb 179 (0 + j)) = true)) (j - 0) (List.mem_range.mpr (by omega))
theorem am_k179_8 : ∀ j, j < 8 → am_kb 179 j = true := fun j hj => (Nat.lt_or_ge j 4).elim (am_k179_4 j) fun h => (show 4 + (j - 4) = j by omega) ▸ (List.all_eq_true.mp (by decide +kernel : (List.range 4).all (fun j => am_kb 179 (4 + j)) = true)) (j - 4) (List.mem_range.mpr (by omega))
theorem am_k179_12 : ∀ j, j < 12 → am_kb 179 j = true := fun j hj => (Nat.lt_or_ge j 8).elim (am_k179_8 j) fun h => (show 8 + (j - 8) = j by omega) ▸ (List.all_eq_true.mp (by decide +kernel : (List.range 4).all (fun j => am_kb 179 (8 + j)) = true)) (j - 8) (List.mem_range.mpr (by omega))
theorem am_k179_16 : ∀ j, j < 16 → am_kb 179 j = true := fun j hj => (Nat.lt_or_ge j 12).elim (am_k179_12 j) fun h => (show 12 + (j - 12) = j by omega) ▸ (List.all_eq_true.mp (by decide +kernel : (List.range 4).all (fun j => am_kb 179 (12 + j)) = true)) (j - 12) (List.mem_range.mpr (by omega))
theorem am_k179_20 : ∀ j, j < 20 → am_kb 179 j = true := fun j hj => (Nat.lt_or_ge j 16).elim (am_k179_16 j) fun h => (show 16 + (j - 16) = j by omega) ▸ (List.all_eq_true.mp (by decide +kernel : (List.range 4).all (fun j => am_kb 179 (16 + j)) = true)) (j - 16) (List.mem_range.mpr (by omega))
theorem am_k179_24 : ∀ j, j < 24 → am_kb 179 j = true := fun j hj => (Nat.lt_or_ge j 20).elim (am_k179_20 j) fun h => (show 20 + (j - 20) = j by omega) ▸ (List.all_eq_true.mp (by decide +kernel : (List.range 4).all (fun j => am_kb 179 (20 + j)) = true)) (j - 20) (List.mem_range.mpr (by omega))
theorem am_k179_27 : ∀ j, j < 27 → am_kb 179 j = true := fun j hj => (Nat.lt_or_ge j 24).elim (am_k179_24 j) fun h => (show 24 + (j - 24) = j by omega) ▸ (List.all_eq_true.mp (by decide +kernel : (List.range 3).all (fun j => am_kb 179 (24 + j)) = true)) (j - 24) (List.mem_range.mpr (by omega))
theorem am_k179 : am_kp 179 := fun j hj => am_k179_27 j hj
theorem am_t0 : ∀ a, a < 0 → am_kp a := lt_0
theorem am_t1 : ∀ a, a < 1 → am_kp a := lt_s am_t0 am_k0
theorem am_t2 : ∀ a, a < 2 → am_kp a := lt_s am_t1 am_k1
theorem am_t3 : ∀ a, a < 3 → am_kp a := lt_s am_t2 am_k2
theorem am_t4 : ∀ a, a < 4 → am_kp a := lt_s am_t3 am_k3
theorem am_t5 : ∀ a, a < 5 → am_kp a := lt_s am_t4 am_k4
theorem am_t6 : ∀ a, a < 6 → am_kp a := lt_s am_t5 am_k5
theorem am_t7 : ∀ a, a < 7 → am_kp a := lt_s am_t6 am_k6
theorem am_t8 : ∀ a, a < 8 → am_kp a := lt_s am_t7 am_k7
theorem am_t9 : ∀ a, a < 9 → am_kp a := lt_s am_t8 am_k8
theorem am_t10 : ∀ a, a < 10 → am_kp a := lt_s am_t9 am_k9
theorem am_t11 : ∀ a, a < 11 → am_kp a := lt_s am_t10 am_k10
theorem am_t12 : ∀ a, a < 12 → am_kp a := lt_s am_t11 am_k11
theorem am_t13 : ∀ a, a < 13 → am_kp a := lt_s am_t12 am_k12
theorem am_t14 : ∀ a, a < 14 → am_kp a := lt_s am_t13 am_k13
theorem am_t15 : ∀ a, a < 15 → am_kp a := lt_s am_t14 am_k14
theorem am_t16 : ∀ a, a < 16 → am_kp a := lt_s am_t15 am_k15
theorem am_t17 : ∀ a, a < 17 → am_kp a := lt_s am_t16 am_k16
theorem am_t18 : ∀ a, a < 18 → am_kp a := lt_s am_t17 am_k17
theorem am_t19 : ∀ a, a < 19 → am_kp a := lt_s am_t18 am_k18
theorem am_t20 : ∀ a, a < 20 → am_kp a := lt_s am_t19 am_k19
theorem am_t21 : ∀ a, a < 21 → am_kp a := lt_s am_t20 am_k20
theorem am_t22 : ∀ a, a < 22 → am_kp a := lt_s am_t21 am_k21
theorem am_t23 : ∀ a, a < 23 → am_kp a := lt_s am_t22 am_k22
theorem am_t24 : ∀ a, a < 24 → am_kp a := lt_s am_t23 am_k23
theorem am_t25 : ∀ a, a < 25 → am_kp a := lt_s am_t24 am_k24
theorem am_t26 : ∀ a, a < 26 → am_kp a := lt_s am_t25 am_k25
theorem am_t27 : ∀ a, a < 27 → am_kp a := lt_s am_t26 am_k26
theorem am_t28 : ∀ a, a < 28 → am_kp a := lt_s am_t27 am_k27
theorem am_t29 : ∀ a, a < 29 → am_kp a := lt_s am_t28 am_k28
theorem am_t30 : ∀ a, a < 30 → am_kp a := lt_s am_t29 am_k29
theorem am_t31 : ∀ a, a < 31 → am_kp a := lt_s am_t30 am_k30
theorem am_t32 : ∀ a, a < 32 → am_kp a := lt_s am_t31 am_k31
theorem am_t33 : ∀ a, a < 33 → am_kp a := lt_s am_t32 am_k32
theorem am_t34 : ∀ a, a < 34 → am_kp a := lt_s am_t33 am_k33
theorem am_t35 : ∀ a, a < 35 → am_kp a := lt_s am_t34 am_k34
theorem am_t36 : ∀ a, a < 36 → am_kp a := lt_s am_t35 am_k35
theorem am_t37 : ∀ a, a < 37 → am_kp a := lt_s am_t36 am_k36
theorem am_t38 : ∀ a, a < 38 → am_kp a := lt_s am_t37 am_k37
theorem am_t39 : ∀ a, a < 39 → am_kp a := lt_s am_t38 am_k38
theorem am_t40 : ∀ a, a < 40 → am_kp a := lt_s am_t39 am_k39
theorem am_t41 : ∀ a, a < 41 → am_kp a := lt_s am_t40 am_k40
theorem am_t42 : ∀ a, a < 42 → am_kp a := lt_s am_t41 am_k41
theorem am_t43 : ∀ a, a < 43 → am_kp a := lt_s am_t42 am_k42
theorem am_t44 : ∀ a, a < 44 → am_kp a := lt_s am_t43 am_k43
theorem am_t45 : ∀ a, a < 45 → am_kp a := lt_s am_t44 am_k44
theorem am_t46 : ∀ a, a < 46 → am_kp a := lt_s am_t45 am_k45
theorem am_t47 : ∀ a, a < 47 → am_kp a := lt_s am_t46 am_k46
theorem am_t48 : ∀ a, a < 48 → am_kp a := lt_s am_t47 am_k47
theorem am_t49 : ∀ a, a < 49 → am_kp a := lt_s am_t48 am_k48
theorem am_t50 : ∀ a, a < 50 → am_kp a := lt_s am_t49 am_k49
theorem am_t51 : ∀ a, a < 51 → am_kp a := lt_s am_t50 am_k50
theorem am_t52 : ∀ a, a < 52 → am_kp a := lt_s am_t51 am_k51
theorem am_t53 : ∀ a, a < 53 → am_kp a := lt_s am_t52 am_k52
theorem am_t54 : ∀ a, a < 54 → am_kp a := lt_s am_t53 am_k53
theorem am_t55 : ∀ a, a < 55 → am_kp a := lt_s am_t54 am_k54
theorem am_t56 : ∀ a, a < 56 → am_kp a := lt_s am_t55 am_k55
theorem am_t57 : ∀ a, a < 57 → am_kp a := lt_s am_t56 am_k56
theorem am_t58 : ∀ a, a < 58 → am_kp a := lt_s am_t57 am_k57
theorem am_t59 : ∀ a, a < 59 → am_kp a := lt_s am_t58 am_k58
theorem am_t60 : ∀ a, a < 60 → am_kp a := lt_s am_t59 am_k59
theorem am_t61 : ∀ a, a < 61 → am_kp a := lt_s am_t60 am_k60
theorem am_t62 : ∀ a, a < 62 → am_kp a := lt_s am_t61 am_k61
theorem am_t63 : ∀ a, a < 63 → am_kp a := lt_s am_t62 am_k62
theorem am_t64 : ∀ a, a < 64 → am_kp a := lt_s am_t63 am_k63
theorem am_t65 : ∀ a, a < 65 → am_kp a := lt_s am_t64 am_k64
theorem am_t66 : ∀ a, a < 66 → am_kp a := lt_s am_t65 am_k65
theorem am_t67 : ∀ a, a < 67 → am_kp a := lt_s am_t66 am_k66
theorem am_t68 : ∀ a, a < 68 → am_kp a := lt_s am_t67 am_k67
theorem am_t69 : ∀ a, a < 69 → am_kp a := lt_s am_t68 am_k68
theorem am_t70 : ∀ a, a < 70 → am_kp a := lt_s am_t69 am_k69
theorem am_t71 : ∀ a, a < 71 → am_kp a := lt_s am_t70 am_k70
theorem am_t72 : ∀ a, a < 72 → am_kp a := lt_s am_t71 am_k71
theorem am_t73 : ∀ a, a < 73 → am_kp a := lt_s am_t72 am_k72
theorem am_t74 : ∀ a, a < 74 → am_kp a := lt_s am_t73 am_k73
theorem am_t75 : ∀ a, a < 75 → am_kp a := lt_s am_t74 am_k74
theorem am_t76 : ∀ a, a < 76 → am_kp a := lt_s am_t75 am_k75
theorem am_t77 : ∀ a, a < 77 → am_kp a := lt_s am_t76 am_k76
theorem am_t78 : ∀ a, a < 78 → am_kp a := lt_s am_t77 am_k77
theorem am_t79 : ∀ a, a < 79 → am_kp a := lt_s am_t78 am_k78
theorem am_t80 : ∀ a, a < 80 → am_kp a := lt_s am_t79 am_k79
theorem am_t81 : ∀ a, a < 81 → am_kp a := lt_s am_t80 am_k80
theorem am_t82 : ∀ a, a < 82 → am_kp a := lt_s am_t81 am_k81
theorem am_t83 : ∀ a, a < 83 → am_kp a := lt_s am_t82 am_k82
theorem am_t84 : ∀ a, a < 84 → am_kp a := lt_s am_t83 am_k83
theorem am_t85 : ∀ a, a < 85 → am_kp a := lt_s am_t84 am_k84
theorem am_t86 : ∀ a, a < 86 → am_kp a := lt_s am_t85 am_k85
theorem am_t87 : ∀ a, a < 87 → am_kp a := lt_s am_t86 am_k86
theorem am_t88 : ∀ a, a < 88 → am_kp a := lt_s am_t87 am_k87
theorem am_t89 : ∀ a, a < 89 → am_kp a := lt_s am_t88 am_k88
theorem am_t90 : ∀ a, a < 90 → am_kp a := lt_s am_t89 am_k89
theorem am_t91 : ∀ a, a < 91 → am_kp a := lt_s am_t90 am_k90
theorem am_t92 : ∀ a, a < 92 → am_kp a := lt_s am_t91 am_k91
theorem am_t93 : ∀ a, a < 93 → am_kp a := lt_s am_t92 am_k92
theorem am_t94 : ∀ a, a < 94 → am_kp a := lt_s am_t93 am_k93
theorem am_t95 : ∀ a, a < 95 → am_kp a := lt_s am_t94 am_k94
theorem am_t96 : ∀ a, a < 96 → am_kp a := lt_s am_t95 am_k95
theorem am_t97 : ∀ a, a < 97 → am_kp a := lt_s am_t96 am_k96
theorem am_t98 : ∀ a, a < 98 → am_kp a := lt_s am_t97 am_k97
theorem am_t99 : ∀ a, a < 99 → am_kp a := lt_s am_t98 am_k98
theorem am_t100 : ∀ a, a < 100 → am_kp a := lt_s am_t99 am_k99
theorem am_t101 : ∀ a, a < 101 → am_kp a := lt_s am_t100 am_k100
theorem am_t102 : ∀ a, a < 102 → am_kp a := lt_s am_t101 am_k101
theorem am_t103 : ∀ a, a < 103 → am_kp a := lt_s am_t102 am_k102
theorem am_t104 : ∀ a, a < 104 → am_kp a := lt_s am_t103 am_k103
theorem am_t105 : ∀ a, a < 105 → am_kp a := lt_s am_t104 am_k104
theorem am_t106 : ∀ a, a < 106 → am_kp a := lt_s am_t105 am_k105
theorem am_t107 : ∀ a, a < 107 → am_kp a := lt_s am_t106 am_k106
theorem am_t108 : ∀ a, a < 108 → am_kp a := lt_s am_t107 am_k107
theorem am_t109 : ∀ a, a < 109 → am_kp a := lt_s am_t108 am_k108
theorem am_t110 : ∀ a, a < 110 → am_kp a := lt_s am_t109 am_k109
theorem am_t111 : ∀ a, a < 111 → am_kp a := lt_s am_t110 am_k110
theorem am_t112 : ∀ a, a < 112 → am_kp a := lt_s am_t111 am_k111
theorem am_t113 : ∀ a, a < 113 → am_kp a := lt_s am_t112 am_k112
theorem am_t114 : ∀ a, a < 114 → am_kp a := lt_s am_t113 am_k113
theorem am_t115 : ∀ a, a < 115 → am_kp a := lt_s am_t114 am_k114
theorem am_t116 : ∀ a, a < 116 → am_kp a := lt_s am_t115 am_k115
theorem am_t117 : ∀ a, a < 117 → am_kp a := lt_s am_t116 am_k116
theorem am_t118 : ∀ a, a < 118 → am_kp a := lt_s am_t117 am_k117
theorem am_t119 : ∀ a, a < 119 → am_kp a := lt_s am_t118 am_k118
theorem am_t120 : ∀ a, a < 120 → am_kp a := lt_s am_t119 am_k119
theorem am_t121 : ∀ a, a < 121 → am_kp a := lt_s am_t120 am_k120
theorem am_t122 : ∀ a, a < 122 → am_kp a := lt_s am_t121 am_k121
theorem am_t123 : ∀ a, a < 123 → am_kp a := lt_s am_t122 am_k122
theorem am_t124 : ∀ a, a < 124 → am_kp a := lt_s am_t123 am_k123
theorem am_t125 : ∀ a, a < 125 → am_kp a := lt_s am_t124 am_k124
theorem am_t126 : ∀ a, a < 126 → am_kp a := lt_s am_t125 am_k125
theorem am_t127 : ∀ a, a < 127 → am_kp a := lt_s am_t126 am_k126
theorem am_t128 : ∀ a, a < 128 → am_kp a := lt_s am_t127 am_k127
theorem am_t129 : ∀ a, a < 129 → am_kp a := lt_s am_t128 am_k128
theorem am_t130 : ∀ a, a < 130 → am_kp a := lt_s am_t129 am_k129
theorem am_t131 : ∀ a, a < 131 → am_kp a := lt_s am_t130 am_k130
theorem am_t132 : ∀ a, a < 132 → am_kp a := lt_s am_t131 am_k131
theorem am_t133 : ∀ a, a < 133 → am_kp a := lt_s am_t132 am_k132
theorem am_t134 : ∀ a, a < 134 → am_kp a := lt_s am_t133 am_k133
theorem am_t135 : ∀ a, a < 135 → am_kp a := lt_s am_t134 am_k134
theorem am_t136 : ∀ a, a < 136 → am_kp a := lt_s am_t135 am_k135
theorem am_t137 : ∀ a, a < 137 → am_kp a := lt_s am_t136 am_k136
theorem am_t138 : ∀ a, a < 138 → am_kp a := lt_s am_t137 am_k137
theorem am_t139 : ∀ a, a < 139 → am_kp a := lt_s am_t138 am_k138
theorem am_t140 : ∀ a, a < 140 → am_kp a := lt_s am_t139 am_k139
theorem am_t141 : ∀ a, a < 141 → am_kp a := lt_s am_t140 am_k140
theorem am_t142 : ∀ a, a < 142 → am_kp a := lt_s am_t141 am_k141
theorem am_t143 : ∀ a, a < 143 → am_kp a := lt_s am_t142 am_k142
theorem am_t144 : ∀ a, a < 144 → am_kp a := lt_s am_t143 am_k143
theorem am_t145 : ∀ a, a < 145 → am_kp a := lt_s am_t144 am_k144
theorem am_t146 : ∀ a, a < 146 → am_kp a := lt_s am_t145 am_k145
theorem am_t147 : ∀ a, a < 147 → am_kp a := lt_s am_t146 am_k146
theorem am_t148 : ∀ a, a < 148 → am_kp a := lt_s am_t147 am_k147
theorem am_t149 : ∀ a, a < 149 → am_kp a := lt_s am_t148 am_k148
theorem am_t150 : ∀ a, a < 150 → am_kp a := lt_s am_t149 am_k149
theorem am_t151 : ∀ a, a < 151 → am_kp a := lt_s am_t150 am_k150
theorem am_t152 : ∀ a, a < 152 → am_kp a := lt_s am_t151 am_k151
theorem am_t153 : ∀ a, a < 153 → am_kp a := lt_s am_t152 am_k152
theorem am_t154 : ∀ a, a < 154 → am_kp a := lt_s am_t153 am_k153
theorem am_t155 : ∀ a, a < 155 → am_kp a := lt_s am_t154 am_k154
theorem am_t156 : ∀ a, a < 156 → am_kp a := lt_s am_t155 am_k155
theorem am_t157 : ∀ a, a < 157 → am_kp a := lt_s am_t156 am_k156
theorem am_t158 : ∀ a, a < 158 → am_kp a := lt_s am_t157 am_k157
theorem am_t159 : ∀ a, a < 159 → am_kp a := lt_s am_t158 am_k158
theorem am_t160 : ∀ a, a < 160 → am_kp a := lt_s am_t159 am_k159
theorem am_t161 : ∀ a, a < 161 → am_kp a := lt_s am_t160 am_k160
theorem am_t162 : ∀ a, a < 162 → am_kp a := lt_s am_t161 am_k161
theorem am_t163 : ∀ a, a < 163 → am_kp a := lt_s am_t162 am_k162
theorem am_t164 : ∀ a, a < 164 → am_kp a := lt_s am_t163 am_k163
theorem am_t165 : ∀ a, a < 165 → am_kp a := lt_s am_t164 am_k164
theorem am_t166 : ∀ a, a < 166 → am_kp a := lt_s am_t165 am_k165
theorem am_t167 : ∀ a, a < 167 → am_kp a := lt_s am_t166 am_k166
theorem am_t168 : ∀ a, a < 168 → am_kp a := lt_s am_t167 am_k167
theorem am_t169 : ∀ a, a < 169 → am_kp a := lt_s am_t168 am_k168
theorem am_t170 : ∀ a, a < 170 → am_kp a := lt_s am_t169 am_k169
theorem am_t171 : ∀ a, a < 171 → am_kp a := lt_s am_t170 am_k170
theorem am_t172 : ∀ a, a < 172 → am_kp a := lt_s am_t171 am_k171
theorem am_t173 : ∀ a, a < 173 → am_kp a := lt_s am_t172 am_k172
theorem am_t174 : ∀ a, a < 174 → am_kp a := lt_s am_t173 am_k173
theorem am_t175 : ∀ a, a < 175 → am_kp a := lt_s am_t174 am_k174
theorem am_t176 : ∀ a, a < 176 → am_kp a := lt_s am_t175 am_k175
theorem am_t177 : ∀ a, a < 177 → am_kp a := lt_s am_t176 am_k176
theorem am_t178 : ∀ a, a < 178 → am_kp a := lt_s am_t177 am_k177
theorem am_t179 : ∀ a, a < 179 → am_kp a := lt_s am_t178 am_k178
theorem am_t180 : ∀ a, a < 180 → am_kp a := lt_s am_t179 am_k179
theorem am_k_all : ∀ m, m < 180 → am_kp m := am_t180

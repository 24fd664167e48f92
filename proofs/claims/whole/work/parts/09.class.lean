/-! CLASS FACTS by kind, and what an invocation stands on. -/
theorem am_gi1 : GoodIn lw_tbl wsX10 := goodIn_p _ [] rfl (by decide +kernel)
theorem am_gi2 : GoodIn lw_tbl wsX20 := goodIn_p _ [] rfl (by decide +kernel)
theorem am_gi3 : GoodIn lw_tbl wsX30 := goodIn_p _ [] rfl (by decide +kernel)
theorem am_gi4 : GoodIn lw_tbl wsX50 := goodIn_p _ [] rfl (by decide +kernel)
theorem am_gi5 : GoodIn lw_tbl wsX60 := goodIn_p _ [] rfl (by decide +kernel)
theorem am_gi6 : GoodIn lw_tbl wsX70 := goodIn_p _ [] rfl (by decide +kernel)
theorem am_gi7 : GoodIn lw_tbl wsX80 := goodIn_p _ [] rfl (by decide +kernel)
theorem am_gi8 : GoodIn lw_tbl wsX90 := goodIn_p _ [] rfl (by decide +kernel)
theorem am_gi9 : GoodIn lw_tbl wsX100 := goodIn_p _ [] rfl (by decide +kernel)
theorem am_gi_lay {C : String} {T : u_T} {N : Nat} (h : GoodIn lw_tbl (u_ws C T N)) : ∀ w ∈ u_ws C T N, w ∈ am_good := fun w hw => am_good_in (h w hw).1 (by
  obtain ⟨k, -, rfl⟩ := List.mem_map.mp hw
  unfold u_lay
  split <;> rfl)
theorem am_cases9 {P : Nat → Prop} (h1 : P 1) (h2 : P 2) (h3 : P 3) (h4 : P 4) (h5 : P 5) (h6 : P 6) (h7 : P 7) (h8 : P 8) (h9 : P 9) {b : Nat} (a : 1 ≤ b) (z : b ≤ 9) : P b := by
  rcases (show b = 1 ∨ b = 2 ∨ b = 3 ∨ b = 4 ∨ b = 5 ∨ b = 6 ∨ b = 7 ∨ b = 8 ∨ b = 9 by omega) with rfl | rfl | rfl | rfl | rfl | rfl | rfl | rfl | rfl <;> assumption
theorem am_cl_at {b : Nat} (a : 1 ≤ b) (z : b ≤ 9) : vwCl[b - 1]? = some ((am_fldD b).1, (am_fldD b).2.1, (am_fldD b).2.2) := am_cases9 (P := fun b => vwCl[b - 1]? = some ((am_fldD b).1, (am_fldD b).2.1, (am_fldD b).2.2)) rfl rfl rfl rfl rfl rfl rfl rfl rfl a z
theorem am_cl_in {b : Nat} (a : 1 ≤ b) (z : b ≤ 9) : ∀ w ∈ u_ws (am_fldD b).1 (am_fldD b).2.1 (am_fldD b).2.2, w ∈ am_good := am_cases9 (P := fun b => ∀ w ∈ u_ws (am_fldD b).1 (am_fldD b).2.1 (am_fldD b).2.2, w ∈ am_good) (am_gi_lay am_gi1) (am_gi_lay am_gi2) (am_gi_lay am_gi3) (am_gi_lay am_gi4) (am_gi_lay am_gi5) (am_gi_lay am_gi6) (am_gi_lay am_gi7) (am_gi_lay am_gi8) (am_gi_lay am_gi9) a z
def am_tyD (b : Nat) : Nat → FieldType := match b with
  | 1 => tyX1
  | 2 => tyX2
  | 3 => tyX3
  | 4 => tyX5
  | 5 => tyX6
  | 6 => tyX7
  | 7 => tyX8
  | 8 => tyX9
  | _ => tyX10
theorem am_ty_ok {b : Nat} (a : 1 ≤ b) (z : b ≤ 9) : ∀ k, k < (am_fldD b).2.2 → parseFieldDescriptor ((am_fldD b).2.1 k).2.2.1 = some (am_tyD b k) := am_cases9 (P := fun b => ∀ k, k < (am_fldD b).2.2 → parseFieldDescriptor ((am_fldD b).2.1 k).2.2.1 = some (am_tyD b k)) tyX1_ok tyX2_ok tyX3_ok tyX5_ok tyX6_ok tyX7_ok tyX8_ok tyX9_ok tyX10_ok a z
theorem am_nm_ok {b : Nat} (a : 1 ≤ b) (z : b ≤ 9) : ∀ i, i < (am_fldD b).2.2 → ∀ j, j < (am_fldD b).2.2 → i ≠ j → ((am_fldD b).2.1 i).2.1 ≠ ((am_fldD b).2.1 j).2.1 := am_cases9 (P := fun b => ∀ i, i < (am_fldD b).2.2 → ∀ j, j < (am_fldD b).2.2 → i ≠ j → ((am_fldD b).2.1 i).2.1 ≠ ((am_fldD b).2.1 j).2.1) nmX1 nmX2 nmX3 nmX5 nmX6 nmX7 nmX8 nmX9 nmX10 a z
def am_tk (t : FieldType) : Nat := match t with
  | .int => 0
  | .boolean => 5
  | .long => 1
  | .object _ => 2
  | .array _ => 2
  | _ => 9
theorem am_tk_ok {b : Nat} (a : 1 ≤ b) (z : b ≤ 9) : ∀ k, k < (am_fldD b).2.2 → am_tk (am_tyD b k) = am_ft b k := am_cases9 (P := fun b => ∀ k, k < (am_fldD b).2.2 → am_tk (am_tyD b k) = am_ft b k) (by decide +kernel) (by decide +kernel) (by decide +kernel) (by decide +kernel) (by decide +kernel) (by decide +kernel) (by decide +kernel) (by decide +kernel) (by decide +kernel) a z
theorem am_own_ok {b : Nat} (a : 1 ≤ b) (z : b ≤ 9) : ∀ k, k < (am_fldD b).2.2 → ((am_fldD b).2.1 k).1 = (am_fldD b).1 := am_cases9 (P := fun b => ∀ k, k < (am_fldD b).2.2 → ((am_fldD b).2.1 k).1 = (am_fldD b).1) (by decide +kernel) (by decide +kernel) (by decide +kernel) (by decide +kernel) (by decide +kernel) (by decide +kernel) (by decide +kernel) (by decide +kernel) (by decide +kernel) a z
theorem am_inst_ok {b : Nat} (a : 1 ≤ b) (z : b ≤ 9) : Cond.instantiable (am_fldD b).1 (am_fldD b).2.2 ∈ am_good := am_cases9 (P := fun b => Cond.instantiable (am_fldD b).1 (am_fldD b).2.2 ∈ am_good) (am_good_in (List.mem_of_getElem? (i := 273) (by decide +kernel)) rfl) (am_good_in (List.mem_of_getElem? (i := 138) (by decide +kernel)) rfl) (am_good_in (List.mem_of_getElem? (i := 267) (by decide +kernel)) rfl) (am_good_in (List.mem_of_getElem? (i := 297) (by decide +kernel)) rfl) (am_good_in (List.mem_of_getElem? (i := 132) (by decide +kernel)) rfl) (am_good_in (List.mem_of_getElem? (i := 110) (by decide +kernel)) rfl) (am_good_in (List.mem_of_getElem? (i := 116) (by decide +kernel)) rfl) (am_good_in (List.mem_of_getElem? (i := 102) (by decide +kernel)) rfl) (am_good_in (List.mem_of_getElem? (i := 1015) (by decide +kernel)) rfl) a z
theorem am_init_ok {b : Nat} (a : 1 ≤ b) (z : b ≤ 9) : Cond.initialized (am_fldD b).1 ∈ am_good := am_cases9 (P := fun b => Cond.initialized (am_fldD b).1 ∈ am_good) (am_good_in (List.mem_of_getElem? (i := 84) (by decide +kernel)) rfl) (am_good_in (List.mem_of_getElem? (i := 82) (by decide +kernel)) rfl) (am_good_in (List.mem_of_getElem? (i := 83) (by decide +kernel)) rfl) (am_good_in (List.mem_of_getElem? (i := 85) (by decide +kernel)) rfl) (am_good_in (List.mem_of_getElem? (i := 81) (by decide +kernel)) rfl) (am_good_in (List.mem_of_getElem? (i := 79) (by decide +kernel)) rfl) (am_good_in (List.mem_of_getElem? (i := 80) (by decide +kernel)) rfl) (am_good_in (List.mem_of_getElem? (i := 78) (by decide +kernel)) rfl) (am_good_in (List.mem_of_getElem? (i := 86) (by decide +kernel)) rfl) a z
theorem am_arr_ok : Cond.arrayClass .int ∈ am_good ∧ Cond.arrayClass .boolean ∈ am_good ∧ Cond.arrayClass .long ∈ am_good := ⟨am_good_in (List.mem_of_getElem? (i := 130) (by decide +kernel)) rfl, am_good_in (List.mem_of_getElem? (i := 1209) (by decide +kernel)) rfl, am_good_in (List.mem_of_getElem? (i := 336) (by decide +kernel)) rfl⟩
theorem am_objInit_ok : Cond.instanceMethod Lib.objectInit ∈ am_good ∧ Cond.code Lib.objectInit ⟨#[0xb1]⟩ 1 none ∈ am_good := ⟨am_good_in (List.mem_of_getElem? (i := 107) (by decide +kernel)) rfl, am_good_in (List.mem_of_getElem? (i := 108) (by decide +kernel)) rfl⟩
theorem am_cw0 : Cond.code (am_y 0) (am_bc 0) (am_nL 0) (am_rty 0) ∈ am_good := am_good_in (List.mem_of_getElem? (i := 276) (by decide +kernel)) rfl
theorem am_cw1 : Cond.code (am_y 1) (am_bc 1) (am_nL 1) (am_rty 1) ∈ am_good := am_good_in (List.mem_of_getElem? (i := 682) (by decide +kernel)) rfl
theorem am_cw2 : Cond.code (am_y 2) (am_bc 2) (am_nL 2) (am_rty 2) ∈ am_good := am_good_in (List.mem_of_getElem? (i := 893) (by decide +kernel)) rfl
theorem am_cw3 : Cond.code (am_y 3) (am_bc 3) (am_nL 3) (am_rty 3) ∈ am_good := am_good_in (List.mem_of_getElem? (i := 901) (by decide +kernel)) rfl
theorem am_cw4 : Cond.code (am_y 4) (am_bc 4) (am_nL 4) (am_rty 4) ∈ am_good := am_good_in (List.mem_of_getElem? (i := 941) (by decide +kernel)) rfl
theorem am_cw5 : Cond.code (am_y 5) (am_bc 5) (am_nL 5) (am_rty 5) ∈ am_good := am_good_in (List.mem_of_getElem? (i := 875) (by decide +kernel)) rfl
theorem am_cw6 : Cond.code (am_y 6) (am_bc 6) (am_nL 6) (am_rty 6) ∈ am_good := am_good_in (List.mem_of_getElem? (i := 897) (by decide +kernel)) rfl
theorem am_cw7 : Cond.code (am_y 7) (am_bc 7) (am_nL 7) (am_rty 7) ∈ am_good := am_good_in (List.mem_of_getElem? (i := 141) (by decide +kernel)) rfl
theorem am_cw8 : Cond.code (am_y 8) (am_bc 8) (am_nL 8) (am_rty 8) ∈ am_good := am_good_in (List.mem_of_getElem? (i := 418) (by decide +kernel)) rfl
theorem am_cw9 : Cond.code (am_y 9) (am_bc 9) (am_nL 9) (am_rty 9) ∈ am_good := am_good_in (List.mem_of_getElem? (i := 635) (by decide +kernel)) rfl
theorem am_cw10 : Cond.code (am_y 10) (am_bc 10) (am_nL 10) (am_rty 10) ∈ am_good := am_good_in (List.mem_of_getElem? (i := 655) (by decide +kernel)) rfl
theorem am_cw11 : Cond.code (am_y 11) (am_bc 11) (am_nL 11) (am_rty 11) ∈ am_good := am_good_in (List.mem_of_getElem? (i := 270) (by decide +kernel)) rfl
theorem am_cw12 : Cond.code (am_y 12) (am_bc 12) (am_nL 12) (am_rty 12) ∈ am_good := am_good_in (List.mem_of_getElem? (i := 678) (by decide +kernel)) rfl
theorem am_cw13 : Cond.code (am_y 13) (am_bc 13) (am_nL 13) (am_rty 13) ∈ am_good := am_good_in (List.mem_of_getElem? (i := 832) (by decide +kernel)) rfl
theorem am_cw14 : Cond.code (am_y 14) (am_bc 14) (am_nL 14) (am_rty 14) ∈ am_good := am_good_in (List.mem_of_getElem? (i := 837) (by decide +kernel)) rfl
theorem am_cw15 : Cond.code (am_y 15) (am_bc 15) (am_nL 15) (am_rty 15) ∈ am_good := am_good_in (List.mem_of_getElem? (i := 919) (by decide +kernel)) rfl
theorem am_cw16 : Cond.code (am_y 16) (am_bc 16) (am_nL 16) (am_rty 16) ∈ am_good := am_good_in (List.mem_of_getElem? (i := 850) (by decide +kernel)) rfl
theorem am_cw17 : Cond.code (am_y 17) (am_bc 17) (am_nL 17) (am_rty 17) ∈ am_good := am_good_in (List.mem_of_getElem? (i := 927) (by decide +kernel)) rfl
theorem am_cw18 : Cond.code (am_y 18) (am_bc 18) (am_nL 18) (am_rty 18) ∈ am_good := am_good_in (List.mem_of_getElem? (i := 949) (by decide +kernel)) rfl
theorem am_cw19 : Cond.code (am_y 19) (am_bc 19) (am_nL 19) (am_rty 19) ∈ am_good := am_good_in (List.mem_of_getElem? (i := 931) (by decide +kernel)) rfl
theorem am_cw20 : Cond.code (am_y 20) (am_bc 20) (am_nL 20) (am_rty 20) ∈ am_good := am_good_in (List.mem_of_getElem? (i := 937) (by decide +kernel)) rfl
theorem am_cw21 : Cond.code (am_y 21) (am_bc 21) (am_nL 21) (am_rty 21) ∈ am_good := am_good_in (List.mem_of_getElem? (i := 957) (by decide +kernel)) rfl
theorem am_cw22 : Cond.code (am_y 22) (am_bc 22) (am_nL 22) (am_rty 22) ∈ am_good := am_good_in (List.mem_of_getElem? (i := 961) (by decide +kernel)) rfl
theorem am_cw23 : Cond.code (am_y 23) (am_bc 23) (am_nL 23) (am_rty 23) ∈ am_good := am_good_in (List.mem_of_getElem? (i := 965) (by decide +kernel)) rfl
theorem am_cw24 : Cond.code (am_y 24) (am_bc 24) (am_nL 24) (am_rty 24) ∈ am_good := am_good_in (List.mem_of_getElem? (i := 970) (by decide +kernel)) rfl
theorem am_cw25 : Cond.code (am_y 25) (am_bc 25) (am_nL 25) (am_rty 25) ∈ am_good := am_good_in (List.mem_of_getElem? (i := 923) (by decide +kernel)) rfl
theorem am_cw26 : Cond.code (am_y 26) (am_bc 26) (am_nL 26) (am_rty 26) ∈ am_good := am_good_in (List.mem_of_getElem? (i := 845) (by decide +kernel)) rfl
theorem am_cw27 : Cond.code (am_y 27) (am_bc 27) (am_nL 27) (am_rty 27) ∈ am_good := am_good_in (List.mem_of_getElem? (i := 953) (by decide +kernel)) rfl
theorem am_cw28 : Cond.code (am_y 28) (am_bc 28) (am_nL 28) (am_rty 28) ∈ am_good := am_good_in (List.mem_of_getElem? (i := 300) (by decide +kernel)) rfl
theorem am_cw29 : Cond.code (am_y 29) (am_bc 29) (am_nL 29) (am_rty 29) ∈ am_good := am_good_in (List.mem_of_getElem? (i := 687) (by decide +kernel)) rfl
theorem am_cw30 : Cond.code (am_y 30) (am_bc 30) (am_nL 30) (am_rty 30) ∈ am_good := am_good_in (List.mem_of_getElem? (i := 866) (by decide +kernel)) rfl
theorem am_cw31 : Cond.code (am_y 31) (am_bc 31) (am_nL 31) (am_rty 31) ∈ am_good := am_good_in (List.mem_of_getElem? (i := 870) (by decide +kernel)) rfl
theorem am_cw32 : Cond.code (am_y 32) (am_bc 32) (am_nL 32) (am_rty 32) ∈ am_good := am_good_in (List.mem_of_getElem? (i := 862) (by decide +kernel)) rfl
theorem am_cw33 : Cond.code (am_y 33) (am_bc 33) (am_nL 33) (am_rty 33) ∈ am_good := am_good_in (List.mem_of_getElem? (i := 881) (by decide +kernel)) rfl
theorem am_cw34 : Cond.code (am_y 34) (am_bc 34) (am_nL 34) (am_rty 34) ∈ am_good := am_good_in (List.mem_of_getElem? (i := 885) (by decide +kernel)) rfl
theorem am_cw35 : Cond.code (am_y 35) (am_bc 35) (am_nL 35) (am_rty 35) ∈ am_good := am_good_in (List.mem_of_getElem? (i := 889) (by decide +kernel)) rfl
theorem am_cw36 : Cond.code (am_y 36) (am_bc 36) (am_nL 36) (am_rty 36) ∈ am_good := am_good_in (List.mem_of_getElem? (i := 905) (by decide +kernel)) rfl
theorem am_cw37 : Cond.code (am_y 37) (am_bc 37) (am_nL 37) (am_rty 37) ∈ am_good := am_good_in (List.mem_of_getElem? (i := 910) (by decide +kernel)) rfl
theorem am_cw38 : Cond.code (am_y 38) (am_bc 38) (am_nL 38) (am_rty 38) ∈ am_good := am_good_in (List.mem_of_getElem? (i := 914) (by decide +kernel)) rfl
theorem am_cw39 : Cond.code (am_y 39) (am_bc 39) (am_nL 39) (am_rty 39) ∈ am_good := am_good_in (List.mem_of_getElem? (i := 135) (by decide +kernel)) rfl
theorem am_cw40 : Cond.code (am_y 40) (am_bc 40) (am_nL 40) (am_rty 40) ∈ am_good := am_good_in (List.mem_of_getElem? (i := 411) (by decide +kernel)) rfl
theorem am_cw41 : Cond.code (am_y 41) (am_bc 41) (am_nL 41) (am_rty 41) ∈ am_good := am_good_in (List.mem_of_getElem? (i := 668) (by decide +kernel)) rfl
theorem am_cw42 : Cond.code (am_y 42) (am_bc 42) (am_nL 42) (am_rty 42) ∈ am_good := am_good_in (List.mem_of_getElem? (i := 841) (by decide +kernel)) rfl
theorem am_cw43 : Cond.code (am_y 43) (am_bc 43) (am_nL 43) (am_rty 43) ∈ am_good := am_good_in (List.mem_of_getElem? (i := 113) (by decide +kernel)) rfl
theorem am_cw44 : Cond.code (am_y 44) (am_bc 44) (am_nL 44) (am_rty 44) ∈ am_good := am_good_in (List.mem_of_getElem? (i := 407) (by decide +kernel)) rfl
theorem am_cw45 : Cond.code (am_y 45) (am_bc 45) (am_nL 45) (am_rty 45) ∈ am_good := am_good_in (List.mem_of_getElem? (i := 453) (by decide +kernel)) rfl
theorem am_cw46 : Cond.code (am_y 46) (am_bc 46) (am_nL 46) (am_rty 46) ∈ am_good := am_good_in (List.mem_of_getElem? (i := 644) (by decide +kernel)) rfl
theorem am_cw47 : Cond.code (am_y 47) (am_bc 47) (am_nL 47) (am_rty 47) ∈ am_good := am_good_in (List.mem_of_getElem? (i := 424) (by decide +kernel)) rfl
theorem am_cw48 : Cond.code (am_y 48) (am_bc 48) (am_nL 48) (am_rty 48) ∈ am_good := am_good_in (List.mem_of_getElem? (i := 552) (by decide +kernel)) rfl
theorem am_cw49 : Cond.code (am_y 49) (am_bc 49) (am_nL 49) (am_rty 49) ∈ am_good := am_good_in (List.mem_of_getElem? (i := 539) (by decide +kernel)) rfl
theorem am_cw50 : Cond.code (am_y 50) (am_bc 50) (am_nL 50) (am_rty 50) ∈ am_good := am_good_in (List.mem_of_getElem? (i := 432) (by decide +kernel)) rfl
theorem am_cw51 : Cond.code (am_y 51) (am_bc 51) (am_nL 51) (am_rty 51) ∈ am_good := am_good_in (List.mem_of_getElem? (i := 448) (by decide +kernel)) rfl
theorem am_cw52 : Cond.code (am_y 52) (am_bc 52) (am_nL 52) (am_rty 52) ∈ am_good := am_good_in (List.mem_of_getElem? (i := 461) (by decide +kernel)) rfl
theorem am_cw53 : Cond.code (am_y 53) (am_bc 53) (am_nL 53) (am_rty 53) ∈ am_good := am_good_in (List.mem_of_getElem? (i := 465) (by decide +kernel)) rfl
theorem am_cw54 : Cond.code (am_y 54) (am_bc 54) (am_nL 54) (am_rty 54) ∈ am_good := am_good_in (List.mem_of_getElem? (i := 523) (by decide +kernel)) rfl
theorem am_cw55 : Cond.code (am_y 55) (am_bc 55) (am_nL 55) (am_rty 55) ∈ am_good := am_good_in (List.mem_of_getElem? (i := 527) (by decide +kernel)) rfl
theorem am_cw56 : Cond.code (am_y 56) (am_bc 56) (am_nL 56) (am_rty 56) ∈ am_good := am_good_in (List.mem_of_getElem? (i := 659) (by decide +kernel)) rfl
theorem am_cw57 : Cond.code (am_y 57) (am_bc 57) (am_nL 57) (am_rty 57) ∈ am_good := am_good_in (List.mem_of_getElem? (i := 663) (by decide +kernel)) rfl
theorem am_cw58 : Cond.code (am_y 58) (am_bc 58) (am_nL 58) (am_rty 58) ∈ am_good := am_good_in (List.mem_of_getElem? (i := 562) (by decide +kernel)) rfl
theorem am_cw59 : Cond.code (am_y 59) (am_bc 59) (am_nL 59) (am_rty 59) ∈ am_good := am_good_in (List.mem_of_getElem? (i := 558) (by decide +kernel)) rfl
theorem am_cw60 : Cond.code (am_y 60) (am_bc 60) (am_nL 60) (am_rty 60) ∈ am_good := am_good_in (List.mem_of_getElem? (i := 543) (by decide +kernel)) rfl
theorem am_cw61 : Cond.code (am_y 61) (am_bc 61) (am_nL 61) (am_rty 61) ∈ am_good := am_good_in (List.mem_of_getElem? (i := 640) (by decide +kernel)) rfl
theorem am_cw62 : Cond.code (am_y 62) (am_bc 62) (am_nL 62) (am_rty 62) ∈ am_good := am_good_in (List.mem_of_getElem? (i := 648) (by decide +kernel)) rfl
theorem am_cw63 : Cond.code (am_y 63) (am_bc 63) (am_nL 63) (am_rty 63) ∈ am_good := am_good_in (List.mem_of_getElem? (i := 531) (by decide +kernel)) rfl
theorem am_cw64 : Cond.code (am_y 64) (am_bc 64) (am_nL 64) (am_rty 64) ∈ am_good := am_good_in (List.mem_of_getElem? (i := 535) (by decide +kernel)) rfl
theorem am_cw65 : Cond.code (am_y 65) (am_bc 65) (am_nL 65) (am_rty 65) ∈ am_good := am_good_in (List.mem_of_getElem? (i := 547) (by decide +kernel)) rfl
theorem am_cw66 : Cond.code (am_y 66) (am_bc 66) (am_nL 66) (am_rty 66) ∈ am_good := am_good_in (List.mem_of_getElem? (i := 673) (by decide +kernel)) rfl
theorem am_cw67 : Cond.code (am_y 67) (am_bc 67) (am_nL 67) (am_rty 67) ∈ am_good := am_good_in (List.mem_of_getElem? (i := 119) (by decide +kernel)) rfl
theorem am_cw68 : Cond.code (am_y 68) (am_bc 68) (am_nL 68) (am_rty 68) ∈ am_good := am_good_in (List.mem_of_getElem? (i := 790) (by decide +kernel)) rfl
theorem am_cw69 : Cond.code (am_y 69) (am_bc 69) (am_nL 69) (am_rty 69) ∈ am_good := am_good_in (List.mem_of_getElem? (i := 428) (by decide +kernel)) rfl
theorem am_cw70 : Cond.code (am_y 70) (am_bc 70) (am_nL 70) (am_rty 70) ∈ am_good := am_good_in (List.mem_of_getElem? (i := 471) (by decide +kernel)) rfl
theorem am_cw71 : Cond.code (am_y 71) (am_bc 71) (am_nL 71) (am_rty 71) ∈ am_good := am_good_in (List.mem_of_getElem? (i := 436) (by decide +kernel)) rfl
theorem am_cw72 : Cond.code (am_y 72) (am_bc 72) (am_nL 72) (am_rty 72) ∈ am_good := am_good_in (List.mem_of_getElem? (i := 105) (by decide +kernel)) rfl
theorem am_cw73 : Cond.code (am_y 73) (am_bc 73) (am_nL 73) (am_rty 73) ∈ am_good := am_good_in (List.mem_of_getElem? (i := 720) (by decide +kernel)) rfl
theorem am_cw74 : Cond.code (am_y 74) (am_bc 74) (am_nL 74) (am_rty 74) ∈ am_good := am_good_in (List.mem_of_getElem? (i := 399) (by decide +kernel)) rfl
theorem am_cw75 : Cond.code (am_y 75) (am_bc 75) (am_nL 75) (am_rty 75) ∈ am_good := am_good_in (List.mem_of_getElem? (i := 403) (by decide +kernel)) rfl
theorem am_cw76 : Cond.code (am_y 76) (am_bc 76) (am_nL 76) (am_rty 76) ∈ am_good := am_good_in (List.mem_of_getElem? (i := 692) (by decide +kernel)) rfl
theorem am_cw77 : Cond.code (am_y 77) (am_bc 77) (am_nL 77) (am_rty 77) ∈ am_good := am_good_in (List.mem_of_getElem? (i := 696) (by decide +kernel)) rfl
theorem am_cw78 : Cond.code (am_y 78) (am_bc 78) (am_nL 78) (am_rty 78) ∈ am_good := am_good_in (List.mem_of_getElem? (i := 700) (by decide +kernel)) rfl
theorem am_cw79 : Cond.code (am_y 79) (am_bc 79) (am_nL 79) (am_rty 79) ∈ am_good := am_good_in (List.mem_of_getElem? (i := 800) (by decide +kernel)) rfl
theorem am_cw80 : Cond.code (am_y 80) (am_bc 80) (am_nL 80) (am_rty 80) ∈ am_good := am_good_in (List.mem_of_getElem? (i := 826) (by decide +kernel)) rfl
theorem am_cw81 : Cond.code (am_y 81) (am_bc 81) (am_nL 81) (am_rty 81) ∈ am_good := am_good_in (List.mem_of_getElem? (i := 978) (by decide +kernel)) rfl
theorem am_cw82 : Cond.code (am_y 82) (am_bc 82) (am_nL 82) (am_rty 82) ∈ am_good := am_good_in (List.mem_of_getElem? (i := 986) (by decide +kernel)) rfl
theorem am_cw83 : Cond.code (am_y 83) (am_bc 83) (am_nL 83) (am_rty 83) ∈ am_good := am_good_in (List.mem_of_getElem? (i := 994) (by decide +kernel)) rfl
theorem am_cw84 : Cond.code (am_y 84) (am_bc 84) (am_nL 84) (am_rty 84) ∈ am_good := am_good_in (List.mem_of_getElem? (i := 1003) (by decide +kernel)) rfl
theorem am_cw85 : Cond.code (am_y 85) (am_bc 85) (am_nL 85) (am_rty 85) ∈ am_good := am_good_in (List.mem_of_getElem? (i := 1011) (by decide +kernel)) rfl
theorem am_cw86 : Cond.code (am_y 86) (am_bc 86) (am_nL 86) (am_rty 86) ∈ am_good := am_good_in (List.mem_of_getElem? (i := 704) (by decide +kernel)) rfl
theorem am_cw87 : Cond.code (am_y 87) (am_bc 87) (am_nL 87) (am_rty 87) ∈ am_good := am_good_in (List.mem_of_getElem? (i := 708) (by decide +kernel)) rfl
theorem am_cw88 : Cond.code (am_y 88) (am_bc 88) (am_nL 88) (am_rty 88) ∈ am_good := am_good_in (List.mem_of_getElem? (i := 712) (by decide +kernel)) rfl
theorem am_cw89 : Cond.code (am_y 89) (am_bc 89) (am_nL 89) (am_rty 89) ∈ am_good := am_good_in (List.mem_of_getElem? (i := 456) (by decide +kernel)) rfl
theorem am_cw90 : Cond.code (am_y 90) (am_bc 90) (am_nL 90) (am_rty 90) ∈ am_good := am_good_in (List.mem_of_getElem? (i := 280) (by decide +kernel)) rfl
theorem am_cw91 : Cond.code (am_y 91) (am_bc 91) (am_nL 91) (am_rty 91) ∈ am_good := am_good_in (List.mem_of_getElem? (i := 627) (by decide +kernel)) rfl
theorem am_cw92 : Cond.code (am_y 92) (am_bc 92) (am_nL 92) (am_rty 92) ∈ am_good := am_good_in (List.mem_of_getElem? (i := 819) (by decide +kernel)) rfl
theorem am_cw93 : Cond.code (am_y 93) (am_bc 93) (am_nL 93) (am_rty 93) ∈ am_good := am_good_in (List.mem_of_getElem? (i := 414) (by decide +kernel)) rfl
theorem am_cw94 : Cond.code (am_y 94) (am_bc 94) (am_nL 94) (am_rty 94) ∈ am_good := am_good_in (List.mem_of_getElem? (i := 1018) (by decide +kernel)) rfl
theorem am_cw95 : Cond.code (am_y 95) (am_bc 95) (am_nL 95) (am_rty 95) ∈ am_good := am_good_in (List.mem_of_getElem? (i := 1213) (by decide +kernel)) rfl
theorem am_cw96 : Cond.code (am_y 96) (am_bc 96) (am_nL 96) (am_rty 96) ∈ am_good := am_good_in (List.mem_of_getElem? (i := 1217) (by decide +kernel)) rfl
theorem am_cw97 : Cond.code (am_y 97) (am_bc 97) (am_nL 97) (am_rty 97) ∈ am_good := am_good_in (List.mem_of_getElem? (i := 1222) (by decide +kernel)) rfl
theorem am_cw98 : Cond.code (am_y 98) (am_bc 98) (am_nL 98) (am_rty 98) ∈ am_good := am_good_in (List.mem_of_getElem? (i := 1258) (by decide +kernel)) rfl
theorem am_cw99 : Cond.code (am_y 99) (am_bc 99) (am_nL 99) (am_rty 99) ∈ am_good := am_good_in (List.mem_of_getElem? (i := 1234) (by decide +kernel)) rfl
theorem am_cw100 : Cond.code (am_y 100) (am_bc 100) (am_nL 100) (am_rty 100) ∈ am_good := am_good_in (List.mem_of_getElem? (i := 1238) (by decide +kernel)) rfl
theorem am_cw101 : Cond.code (am_y 101) (am_bc 101) (am_nL 101) (am_rty 101) ∈ am_good := am_good_in (List.mem_of_getElem? (i := 1242) (by decide +kernel)) rfl
theorem am_cw102 : Cond.code (am_y 102) (am_bc 102) (am_nL 102) (am_rty 102) ∈ am_good := am_good_in (List.mem_of_getElem? (i := 1280) (by decide +kernel)) rfl
theorem am_cw103 : Cond.code (am_y 103) (am_bc 103) (am_nL 103) (am_rty 103) ∈ am_good := am_good_in (List.mem_of_getElem? (i := 1269) (by decide +kernel)) rfl
theorem am_cw104 : Cond.code (am_y 104) (am_bc 104) (am_nL 104) (am_rty 104) ∈ am_good := am_good_in (List.mem_of_getElem? (i := 1266) (by decide +kernel)) rfl
theorem am_cw105 : Cond.code (am_y 105) (am_bc 105) (am_nL 105) (am_rty 105) ∈ am_good := am_good_in (List.mem_of_getElem? (i := 1273) (by decide +kernel)) rfl
theorem am_cw106 : Cond.code (am_y 106) (am_bc 106) (am_nL 106) (am_rty 106) ∈ am_good := am_good_in (List.mem_of_getElem? (i := 1262) (by decide +kernel)) rfl
theorem am_cw107 : Cond.code (am_y 107) (am_bc 107) (am_nL 107) (am_rty 107) ∈ am_good := am_good_in (List.mem_of_getElem? (i := 1389) (by decide +kernel)) rfl
theorem am_cw108 : Cond.code (am_y 108) (am_bc 108) (am_nL 108) (am_rty 108) ∈ am_good := am_good_in (List.mem_of_getElem? (i := 1250) (by decide +kernel)) rfl
theorem am_cw109 : Cond.code (am_y 109) (am_bc 109) (am_nL 109) (am_rty 109) ∈ am_good := am_good_in (List.mem_of_getElem? (i := 1300) (by decide +kernel)) rfl
theorem am_cw110 : Cond.code (am_y 110) (am_bc 110) (am_nL 110) (am_rty 110) ∈ am_good := am_good_in (List.mem_of_getElem? (i := 1303) (by decide +kernel)) rfl
theorem am_cw111 : Cond.code (am_y 111) (am_bc 111) (am_nL 111) (am_rty 111) ∈ am_good := am_good_in (List.mem_of_getElem? (i := 1296) (by decide +kernel)) rfl
theorem am_cw112 : Cond.code (am_y 112) (am_bc 112) (am_nL 112) (am_rty 112) ∈ am_good := am_good_in (List.mem_of_getElem? (i := 1344) (by decide +kernel)) rfl
theorem am_cw113 : Cond.code (am_y 113) (am_bc 113) (am_nL 113) (am_rty 113) ∈ am_good := am_good_in (List.mem_of_getElem? (i := 1337) (by decide +kernel)) rfl
theorem am_cw114 : Cond.code (am_y 114) (am_bc 114) (am_nL 114) (am_rty 114) ∈ am_good := am_good_in (List.mem_of_getElem? (i := 1341) (by decide +kernel)) rfl
theorem am_cw115 : Cond.code (am_y 115) (am_bc 115) (am_nL 115) (am_rty 115) ∈ am_good := am_good_in (List.mem_of_getElem? (i := 1333) (by decide +kernel)) rfl
theorem am_cw116 : Cond.code (am_y 116) (am_bc 116) (am_nL 116) (am_rty 116) ∈ am_good := am_good_in (List.mem_of_getElem? (i := 1325) (by decide +kernel)) rfl
theorem am_cw117 : Cond.code (am_y 117) (am_bc 117) (am_nL 117) (am_rty 117) ∈ am_good := am_good_in (List.mem_of_getElem? (i := 1362) (by decide +kernel)) rfl
theorem am_cw118 : Cond.code (am_y 118) (am_bc 118) (am_nL 118) (am_rty 118) ∈ am_good := am_good_in (List.mem_of_getElem? (i := 1254) (by decide +kernel)) rfl
theorem am_cw119 : Cond.code (am_y 119) (am_bc 119) (am_nL 119) (am_rty 119) ∈ am_good := am_good_in (List.mem_of_getElem? (i := 1318) (by decide +kernel)) rfl
theorem am_cw120 : Cond.code (am_y 120) (am_bc 120) (am_nL 120) (am_rty 120) ∈ am_good := am_good_in (List.mem_of_getElem? (i := 1384) (by decide +kernel)) rfl
theorem am_cw121 : Cond.code (am_y 121) (am_bc 121) (am_nL 121) (am_rty 121) ∈ am_good := am_good_in (List.mem_of_getElem? (i := 1372) (by decide +kernel)) rfl
theorem am_cw122 : Cond.code (am_y 122) (am_bc 122) (am_nL 122) (am_rty 122) ∈ am_good := am_good_in (List.mem_of_getElem? (i := 1393) (by decide +kernel)) rfl
theorem am_cw123 : Cond.code (am_y 123) (am_bc 123) (am_nL 123) (am_rty 123) ∈ am_good := am_good_in (List.mem_of_getElem? (i := 1289) (by decide +kernel)) rfl
theorem am_cw124 : Cond.code (am_y 124) (am_bc 124) (am_nL 124) (am_rty 124) ∈ am_good := am_good_in (List.mem_of_getElem? (i := 1285) (by decide +kernel)) rfl
theorem am_cw125 : Cond.code (am_y 125) (am_bc 125) (am_nL 125) (am_rty 125) ∈ am_good := am_good_in (List.mem_of_getElem? (i := 1314) (by decide +kernel)) rfl
theorem am_cw126 : Cond.code (am_y 126) (am_bc 126) (am_nL 126) (am_rty 126) ∈ am_good := am_good_in (List.mem_of_getElem? (i := 1310) (by decide +kernel)) rfl
theorem am_cw127 : Cond.code (am_y 127) (am_bc 127) (am_nL 127) (am_rty 127) ∈ am_good := am_good_in (List.mem_of_getElem? (i := 1246) (by decide +kernel)) rfl
theorem am_cw128 : Cond.code (am_y 128) (am_bc 128) (am_nL 128) (am_rty 128) ∈ am_good := am_good_in (List.mem_of_getElem? (i := 1230) (by decide +kernel)) rfl
theorem am_cw129 : Cond.code (am_y 129) (am_bc 129) (am_nL 129) (am_rty 129) ∈ am_good := am_good_in (List.mem_of_getElem? (i := 1226) (by decide +kernel)) rfl
theorem am_cw130 : Cond.code (am_y 130) (am_bc 130) (am_nL 130) (am_rty 130) ∈ am_good := am_good_in (List.mem_of_getElem? (i := 1399) (by decide +kernel)) rfl
theorem am_cw131 : Cond.code (am_y 131) (am_bc 131) (am_nL 131) (am_rty 131) ∈ am_good := am_good_in (List.mem_of_getElem? (i := 1403) (by decide +kernel)) rfl
theorem am_cw132 : Cond.code (am_y 132) (am_bc 132) (am_nL 132) (am_rty 132) ∈ am_good := am_good_in (List.mem_of_getElem? (i := 1023) (by decide +kernel)) rfl
theorem am_cw133 : Cond.code (am_y 133) (am_bc 133) (am_nL 133) (am_rty 133) ∈ am_good := am_good_in (List.mem_of_getElem? (i := 1407) (by decide +kernel)) rfl
theorem am_cw134 : Cond.code (am_y 134) (am_bc 134) (am_nL 134) (am_rty 134) ∈ am_good := am_good_in (List.mem_of_getElem? (i := 1434) (by decide +kernel)) rfl
theorem am_cw135 : Cond.code (am_y 135) (am_bc 135) (am_nL 135) (am_rty 135) ∈ am_good := am_good_in (List.mem_of_getElem? (i := 1449) (by decide +kernel)) rfl
theorem am_cw136 : Cond.code (am_y 136) (am_bc 136) (am_nL 136) (am_rty 136) ∈ am_good := am_good_in (List.mem_of_getElem? (i := 1461) (by decide +kernel)) rfl
theorem am_cw137 : Cond.code (am_y 137) (am_bc 137) (am_nL 137) (am_rty 137) ∈ am_good := am_good_in (List.mem_of_getElem? (i := 1457) (by decide +kernel)) rfl
theorem am_cw138 : Cond.code (am_y 138) (am_bc 138) (am_nL 138) (am_rty 138) ∈ am_good := am_good_in (List.mem_of_getElem? (i := 1465) (by decide +kernel)) rfl
theorem am_cw139 : Cond.code (am_y 139) (am_bc 139) (am_nL 139) (am_rty 139) ∈ am_good := am_good_in (List.mem_of_getElem? (i := 1469) (by decide +kernel)) rfl
theorem am_cw140 : Cond.code (am_y 140) (am_bc 140) (am_nL 140) (am_rty 140) ∈ am_good := am_good_in (List.mem_of_getElem? (i := 1418) (by decide +kernel)) rfl
theorem am_cw141 : Cond.code (am_y 141) (am_bc 141) (am_nL 141) (am_rty 141) ∈ am_good := am_good_in (List.mem_of_getElem? (i := 1441) (by decide +kernel)) rfl
theorem am_cw142 : Cond.code (am_y 142) (am_bc 142) (am_nL 142) (am_rty 142) ∈ am_good := am_good_in (List.mem_of_getElem? (i := 1438) (by decide +kernel)) rfl
theorem am_cw143 : Cond.code (am_y 143) (am_bc 143) (am_nL 143) (am_rty 143) ∈ am_good := am_good_in (List.mem_of_getElem? (i := 1430) (by decide +kernel)) rfl
theorem am_cw144 : Cond.code (am_y 144) (am_bc 144) (am_nL 144) (am_rty 144) ∈ am_good := am_good_in (List.mem_of_getElem? (i := 1453) (by decide +kernel)) rfl
theorem am_cw145 : Cond.code (am_y 145) (am_bc 145) (am_nL 145) (am_rty 145) ∈ am_good := am_good_in (List.mem_of_getElem? (i := 1445) (by decide +kernel)) rfl
theorem am_cw146 : Cond.code (am_y 146) (am_bc 146) (am_nL 146) (am_rty 146) ∈ am_good := am_good_in (List.mem_of_getElem? (i := 1426) (by decide +kernel)) rfl
theorem am_cw147 : Cond.code (am_y 147) (am_bc 147) (am_nL 147) (am_rty 147) ∈ am_good := am_good_in (List.mem_of_getElem? (i := 1422) (by decide +kernel)) rfl
theorem am_cw148 : Cond.code (am_y 148) (am_bc 148) (am_nL 148) (am_rty 148) ∈ am_good := am_good_in (List.mem_of_getElem? (i := 1473) (by decide +kernel)) rfl
theorem am_cw149 : Cond.code (am_y 149) (am_bc 149) (am_nL 149) (am_rty 149) ∈ am_good := am_good_in (List.mem_of_getElem? (i := 1415) (by decide +kernel)) rfl
theorem am_cw150 : Cond.code (am_y 150) (am_bc 150) (am_nL 150) (am_rty 150) ∈ am_good := am_good_in (List.mem_of_getElem? (i := 1411) (by decide +kernel)) rfl
theorem am_cw151 : Cond.code (am_y 151) (am_bc 151) (am_nL 151) (am_rty 151) ∈ am_good := am_good_in (List.mem_of_getElem? (i := 1477) (by decide +kernel)) rfl
theorem am_cw152 : Cond.code (am_y 152) (am_bc 152) (am_nL 152) (am_rty 152) ∈ am_good := am_good_in (List.mem_of_getElem? (i := 1484) (by decide +kernel)) rfl
theorem am_cw153 : Cond.code (am_y 153) (am_bc 153) (am_nL 153) (am_rty 153) ∈ am_good := am_good_in (List.mem_of_getElem? (i := 1481) (by decide +kernel)) rfl
theorem am_cw154 : Cond.code (am_y 154) (am_bc 154) (am_nL 154) (am_rty 154) ∈ am_good := am_good_in (List.mem_of_getElem? (i := 1488) (by decide +kernel)) rfl
theorem am_cw155 : Cond.code (am_y 155) (am_bc 155) (am_nL 155) (am_rty 155) ∈ am_good := am_good_in (List.mem_of_getElem? (i := 1492) (by decide +kernel)) rfl
theorem am_cw156 : Cond.code (am_y 156) (am_bc 156) (am_nL 156) (am_rty 156) ∈ am_good := am_good_in (List.mem_of_getElem? (i := 1496) (by decide +kernel)) rfl
theorem am_cw157 : Cond.code (am_y 157) (am_bc 157) (am_nL 157) (am_rty 157) ∈ am_good := am_good_in (List.mem_of_getElem? (i := 1500) (by decide +kernel)) rfl
theorem am_cw158 : Cond.code (am_y 158) (am_bc 158) (am_nL 158) (am_rty 158) ∈ am_good := am_good_in (List.mem_of_getElem? (i := 1504) (by decide +kernel)) rfl
theorem am_cw159 : Cond.code (am_y 159) (am_bc 159) (am_nL 159) (am_rty 159) ∈ am_good := am_good_in (List.mem_of_getElem? (i := 1508) (by decide +kernel)) rfl
theorem am_cw160 : Cond.code (am_y 160) (am_bc 160) (am_nL 160) (am_rty 160) ∈ am_good := am_good_in (List.mem_of_getElem? (i := 1512) (by decide +kernel)) rfl
theorem am_cw161 : Cond.code (am_y 161) (am_bc 161) (am_nL 161) (am_rty 161) ∈ am_good := am_good_in (List.mem_of_getElem? (i := 858) (by decide +kernel)) rfl
theorem am_cw162 : Cond.code (am_y 162) (am_bc 162) (am_nL 162) (am_rty 162) ∈ am_good := am_good_in (List.mem_of_getElem? (i := 581) (by decide +kernel)) rfl
theorem am_cw163 : Cond.code (am_y 163) (am_bc 163) (am_nL 163) (am_rty 163) ∈ am_good := am_good_in (List.mem_of_getElem? (i := 584) (by decide +kernel)) rfl
theorem am_cw164 : Cond.code (am_y 164) (am_bc 164) (am_nL 164) (am_rty 164) ∈ am_good := am_good_in (List.mem_of_getElem? (i := 443) (by decide +kernel)) rfl
theorem am_cw165 : Cond.code (am_y 165) (am_bc 165) (am_nL 165) (am_rty 165) ∈ am_good := am_good_in (List.mem_of_getElem? (i := 475) (by decide +kernel)) rfl
theorem am_cw166 : Cond.code (am_y 166) (am_bc 166) (am_nL 166) (am_rty 166) ∈ am_good := am_good_in (List.mem_of_getElem? (i := 485) (by decide +kernel)) rfl
theorem am_cw167 : Cond.code (am_y 167) (am_bc 167) (am_nL 167) (am_rty 167) ∈ am_good := am_good_in (List.mem_of_getElem? (i := 567) (by decide +kernel)) rfl
theorem am_cw168 : Cond.code (am_y 168) (am_bc 168) (am_nL 168) (am_rty 168) ∈ am_good := am_good_in (List.mem_of_getElem? (i := 571) (by decide +kernel)) rfl
theorem am_cw169 : Cond.code (am_y 169) (am_bc 169) (am_nL 169) (am_rty 169) ∈ am_good := am_good_in (List.mem_of_getElem? (i := 479) (by decide +kernel)) rfl
theorem am_cw170 : Cond.code (am_y 170) (am_bc 170) (am_nL 170) (am_rty 170) ∈ am_good := am_good_in (List.mem_of_getElem? (i := 489) (by decide +kernel)) rfl
theorem am_cw171 : Cond.code (am_y 171) (am_bc 171) (am_nL 171) (am_rty 171) ∈ am_good := am_good_in (List.mem_of_getElem? (i := 495) (by decide +kernel)) rfl
theorem am_cw172 : Cond.code (am_y 172) (am_bc 172) (am_nL 172) (am_rty 172) ∈ am_good := am_good_in (List.mem_of_getElem? (i := 602) (by decide +kernel)) rfl
theorem am_cw173 : Cond.code (am_y 173) (am_bc 173) (am_nL 173) (am_rty 173) ∈ am_good := am_good_in (List.mem_of_getElem? (i := 492) (by decide +kernel)) rfl
theorem am_cw174 : Cond.code (am_y 174) (am_bc 174) (am_nL 174) (am_rty 174) ∈ am_good := am_good_in (List.mem_of_getElem? (i := 578) (by decide +kernel)) rfl
theorem am_cw175 : Cond.code (am_y 175) (am_bc 175) (am_nL 175) (am_rty 175) ∈ am_good := am_good_in (List.mem_of_getElem? (i := 575) (by decide +kernel)) rfl
theorem am_cw176 : Cond.code (am_y 176) (am_bc 176) (am_nL 176) (am_rty 176) ∈ am_good := am_good_in (List.mem_of_getElem? (i := 587) (by decide +kernel)) rfl
theorem am_cw177 : Cond.code (am_y 177) (am_bc 177) (am_nL 177) (am_rty 177) ∈ am_good := am_good_in (List.mem_of_getElem? (i := 500) (by decide +kernel)) rfl
theorem am_cw178 : Cond.code (am_y 178) (am_bc 178) (am_nL 178) (am_rty 178) ∈ am_good := am_good_in (List.mem_of_getElem? (i := 605) (by decide +kernel)) rfl
theorem am_cv0 : ∀ a, a < 0 → Cond.code (am_y a) (am_bc a) (am_nL a) (am_rty a) ∈ am_good := lt_0
theorem am_cv1 : ∀ a, a < 1 → Cond.code (am_y a) (am_bc a) (am_nL a) (am_rty a) ∈ am_good := lt_s am_cv0 am_cw0
theorem am_cv2 : ∀ a, a < 2 → Cond.code (am_y a) (am_bc a) (am_nL a) (am_rty a) ∈ am_good := lt_s am_cv1 am_cw1
theorem am_cv3 : ∀ a, a < 3 → Cond.code (am_y a) (am_bc a) (am_nL a) (am_rty a) ∈ am_good := lt_s am_cv2 am_cw2
theorem am_cv4 : ∀ a, a < 4 → Cond.code (am_y a) (am_bc a) (am_nL a) (am_rty a) ∈ am_good := lt_s am_cv3 am_cw3
theorem am_cv5 : ∀ a, a < 5 → Cond.code (am_y a) (am_bc a) (am_nL a) (am_rty a) ∈ am_good := lt_s am_cv4 am_cw4
theorem am_cv6 : ∀ a, a < 6 → Cond.code (am_y a) (am_bc a) (am_nL a) (am_rty a) ∈ am_good := lt_s am_cv5 am_cw5
theorem am_cv7 : ∀ a, a < 7 → Cond.code (am_y a) (am_bc a) (am_nL a) (am_rty a) ∈ am_good := lt_s am_cv6 am_cw6
theorem am_cv8 : ∀ a, a < 8 → Cond.code (am_y a) (am_bc a) (am_nL a) (am_rty a) ∈ am_good := lt_s am_cv7 am_cw7
theorem am_cv9 : ∀ a, a < 9 → Cond.code (am_y a) (am_bc a) (am_nL a) (am_rty a) ∈ am_good := lt_s am_cv8 am_cw8
theorem am_cv10 : ∀ a, a < 10 → Cond.code (am_y a) (am_bc a) (am_nL a) (am_rty a) ∈ am_good := lt_s am_cv9 am_cw9
theorem am_cv11 : ∀ a, a < 11 → Cond.code (am_y a) (am_bc a) (am_nL a) (am_rty a) ∈ am_good := lt_s am_cv10 am_cw10
theorem am_cv12 : ∀ a, a < 12 → Cond.code (am_y a) (am_bc a) (am_nL a) (am_rty a) ∈ am_good := lt_s am_cv11 am_cw11
theorem am_cv13 : ∀ a, a < 13 → Cond.code (am_y a) (am_bc a) (am_nL a) (am_rty a) ∈ am_good := lt_s am_cv12 am_cw12
theorem am_cv14 : ∀ a, a < 14 → Cond.code (am_y a) (am_bc a) (am_nL a) (am_rty a) ∈ am_good := lt_s am_cv13 am_cw13
theorem am_cv15 : ∀ a, a < 15 → Cond.code (am_y a) (am_bc a) (am_nL a) (am_rty a) ∈ am_good := lt_s am_cv14 am_cw14
theorem am_cv16 : ∀ a, a < 16 → Cond.code (am_y a) (am_bc a) (am_nL a) (am_rty a) ∈ am_good := lt_s am_cv15 am_cw15
theorem am_cv17 : ∀ a, a < 17 → Cond.code (am_y a) (am_bc a) (am_nL a) (am_rty a) ∈ am_good := lt_s am_cv16 am_cw16
theorem am_cv18 : ∀ a, a < 18 → Cond.code (am_y a) (am_bc a) (am_nL a) (am_rty a) ∈ am_good := lt_s am_cv17 am_cw17
theorem am_cv19 : ∀ a, a < 19 → Cond.code (am_y a) (am_bc a) (am_nL a) (am_rty a) ∈ am_good := lt_s am_cv18 am_cw18
theorem am_cv20 : ∀ a, a < 20 → Cond.code (am_y a) (am_bc a) (am_nL a) (am_rty a) ∈ am_good := lt_s am_cv19 am_cw19
theorem am_cv21 : ∀ a, a < 21 → Cond.code (am_y a) (am_bc a) (am_nL a) (am_rty a) ∈ am_good := lt_s am_cv20 am_cw20
theorem am_cv22 : ∀ a, a < 22 → Cond.code (am_y a) (am_bc a) (am_nL a) (am_rty a) ∈ am_good := lt_s am_cv21 am_cw21
theorem am_cv23 : ∀ a, a < 23 → Cond.code (am_y a) (am_bc a) (am_nL a) (am_rty a) ∈ am_good := lt_s am_cv22 am_cw22
theorem am_cv24 : ∀ a, a < 24 → Cond.code (am_y a) (am_bc a) (am_nL a) (am_rty a) ∈ am_good := lt_s am_cv23 am_cw23
theorem am_cv25 : ∀ a, a < 25 → Cond.code (am_y a) (am_bc a) (am_nL a) (am_rty a) ∈ am_good := lt_s am_cv24 am_cw24
theorem am_cv26 : ∀ a, a < 26 → Cond.code (am_y a) (am_bc a) (am_nL a) (am_rty a) ∈ am_good := lt_s am_cv25 am_cw25
theorem am_cv27 : ∀ a, a < 27 → Cond.code (am_y a) (am_bc a) (am_nL a) (am_rty a) ∈ am_good := lt_s am_cv26 am_cw26
theorem am_cv28 : ∀ a, a < 28 → Cond.code (am_y a) (am_bc a) (am_nL a) (am_rty a) ∈ am_good := lt_s am_cv27 am_cw27
theorem am_cv29 : ∀ a, a < 29 → Cond.code (am_y a) (am_bc a) (am_nL a) (am_rty a) ∈ am_good := lt_s am_cv28 am_cw28
theorem am_cv30 : ∀ a, a < 30 → Cond.code (am_y a) (am_bc a) (am_nL a) (am_rty a) ∈ am_good := lt_s am_cv29 am_cw29
theorem am_cv31 : ∀ a, a < 31 → Cond.code (am_y a) (am_bc a) (am_nL a) (am_rty a) ∈ am_good := lt_s am_cv30 am_cw30
theorem am_cv32 : ∀ a, a < 32 → Cond.code (am_y a) (am_bc a) (am_nL a) (am_rty a) ∈ am_good := lt_s am_cv31 am_cw31
theorem am_cv33 : ∀ a, a < 33 → Cond.code (am_y a) (am_bc a) (am_nL a) (am_rty a) ∈ am_good := lt_s am_cv32 am_cw32
theorem am_cv34 : ∀ a, a < 34 → Cond.code (am_y a) (am_bc a) (am_nL a) (am_rty a) ∈ am_good := lt_s am_cv33 am_cw33
theorem am_cv35 : ∀ a, a < 35 → Cond.code (am_y a) (am_bc a) (am_nL a) (am_rty a) ∈ am_good := lt_s am_cv34 am_cw34
theorem am_cv36 : ∀ a, a < 36 → Cond.code (am_y a) (am_bc a) (am_nL a) (am_rty a) ∈ am_good := lt_s am_cv35 am_cw35
theorem am_cv37 : ∀ a, a < 37 → Cond.code (am_y a) (am_bc a) (am_nL a) (am_rty a) ∈ am_good := lt_s am_cv36 am_cw36
theorem am_cv38 : ∀ a, a < 38 → Cond.code (am_y a) (am_bc a) (am_nL a) (am_rty a) ∈ am_good := lt_s am_cv37 am_cw37
theorem am_cv39 : ∀ a, a < 39 → Cond.code (am_y a) (am_bc a) (am_nL a) (am_rty a) ∈ am_good := lt_s am_cv38 am_cw38
theorem am_cv40 : ∀ a, a < 40 → Cond.code (am_y a) (am_bc a) (am_nL a) (am_rty a) ∈ am_good := lt_s am_cv39 am_cw39
theorem am_cv41 : ∀ a, a < 41 → Cond.code (am_y a) (am_bc a) (am_nL a) (am_rty a) ∈ am_good := lt_s am_cv40 am_cw40
theorem am_cv42 : ∀ a, a < 42 → Cond.code (am_y a) (am_bc a) (am_nL a) (am_rty a) ∈ am_good := lt_s am_cv41 am_cw41
theorem am_cv43 : ∀ a, a < 43 → Cond.code (am_y a) (am_bc a) (am_nL a) (am_rty a) ∈ am_good := lt_s am_cv42 am_cw42
theorem am_cv44 : ∀ a, a < 44 → Cond.code (am_y a) (am_bc a) (am_nL a) (am_rty a) ∈ am_good := lt_s am_cv43 am_cw43
theorem am_cv45 : ∀ a, a < 45 → Cond.code (am_y a) (am_bc a) (am_nL a) (am_rty a) ∈ am_good := lt_s am_cv44 am_cw44
theorem am_cv46 : ∀ a, a < 46 → Cond.code (am_y a) (am_bc a) (am_nL a) (am_rty a) ∈ am_good := lt_s am_cv45 am_cw45
theorem am_cv47 : ∀ a, a < 47 → Cond.code (am_y a) (am_bc a) (am_nL a) (am_rty a) ∈ am_good := lt_s am_cv46 am_cw46
theorem am_cv48 : ∀ a, a < 48 → Cond.code (am_y a) (am_bc a) (am_nL a) (am_rty a) ∈ am_good := lt_s am_cv47 am_cw47
theorem am_cv49 : ∀ a, a < 49 → Cond.code (am_y a) (am_bc a) (am_nL a) (am_rty a) ∈ am_good := lt_s am_cv48 am_cw48
theorem am_cv50 : ∀ a, a < 50 → Cond.code (am_y a) (am_bc a) (am_nL a) (am_rty a) ∈ am_good := lt_s am_cv49 am_cw49
theorem am_cv51 : ∀ a, a < 51 → Cond.code (am_y a) (am_bc a) (am_nL a) (am_rty a) ∈ am_good := lt_s am_cv50 am_cw50
theorem am_cv52 : ∀ a, a < 52 → Cond.code (am_y a) (am_bc a) (am_nL a) (am_rty a) ∈ am_good := lt_s am_cv51 am_cw51
theorem am_cv53 : ∀ a, a < 53 → Cond.code (am_y a) (am_bc a) (am_nL a) (am_rty a) ∈ am_good := lt_s am_cv52 am_cw52
theorem am_cv54 : ∀ a, a < 54 → Cond.code (am_y a) (am_bc a) (am_nL a) (am_rty a) ∈ am_good := lt_s am_cv53 am_cw53
theorem am_cv55 : ∀ a, a < 55 → Cond.code (am_y a) (am_bc a) (am_nL a) (am_rty a) ∈ am_good := lt_s am_cv54 am_cw54
theorem am_cv56 : ∀ a, a < 56 → Cond.code (am_y a) (am_bc a) (am_nL a) (am_rty a) ∈ am_good := lt_s am_cv55 am_cw55
theorem am_cv57 : ∀ a, a < 57 → Cond.code (am_y a) (am_bc a) (am_nL a) (am_rty a) ∈ am_good := lt_s am_cv56 am_cw56
theorem am_cv58 : ∀ a, a < 58 → Cond.code (am_y a) (am_bc a) (am_nL a) (am_rty a) ∈ am_good := lt_s am_cv57 am_cw57
theorem am_cv59 : ∀ a, a < 59 → Cond.code (am_y a) (am_bc a) (am_nL a) (am_rty a) ∈ am_good := lt_s am_cv58 am_cw58
theorem am_cv60 : ∀ a, a < 60 → Cond.code (am_y a) (am_bc a) (am_nL a) (am_rty a) ∈ am_good := lt_s am_cv59 am_cw59
theorem am_cv61 : ∀ a, a < 61 → Cond.code (am_y a) (am_bc a) (am_nL a) (am_rty a) ∈ am_good := lt_s am_cv60 am_cw60
theorem am_cv62 : ∀ a, a < 62 → Cond.code (am_y a) (am_bc a) (am_nL a) (am_rty a) ∈ am_good := lt_s am_cv61 am_cw61
theorem am_cv63 : ∀ a, a < 63 → Cond.code (am_y a) (am_bc a) (am_nL a) (am_rty a) ∈ am_good := lt_s am_cv62 am_cw62
theorem am_cv64 : ∀ a, a < 64 → Cond.code (am_y a) (am_bc a) (am_nL a) (am_rty a) ∈ am_good := lt_s am_cv63 am_cw63
theorem am_cv65 : ∀ a, a < 65 → Cond.code (am_y a) (am_bc a) (am_nL a) (am_rty a) ∈ am_good := lt_s am_cv64 am_cw64
theorem am_cv66 : ∀ a, a < 66 → Cond.code (am_y a) (am_bc a) (am_nL a) (am_rty a) ∈ am_good := lt_s am_cv65 am_cw65
theorem am_cv67 : ∀ a, a < 67 → Cond.code (am_y a) (am_bc a) (am_nL a) (am_rty a) ∈ am_good := lt_s am_cv66 am_cw66
theorem am_cv68 : ∀ a, a < 68 → Cond.code (am_y a) (am_bc a) (am_nL a) (am_rty a) ∈ am_good := lt_s am_cv67 am_cw67
theorem am_cv69 : ∀ a, a < 69 → Cond.code (am_y a) (am_bc a) (am_nL a) (am_rty a) ∈ am_good := lt_s am_cv68 am_cw68
theorem am_cv70 : ∀ a, a < 70 → Cond.code (am_y a) (am_bc a) (am_nL a) (am_rty a) ∈ am_good := lt_s am_cv69 am_cw69
theorem am_cv71 : ∀ a, a < 71 → Cond.code (am_y a) (am_bc a) (am_nL a) (am_rty a) ∈ am_good := lt_s am_cv70 am_cw70
theorem am_cv72 : ∀ a, a < 72 → Cond.code (am_y a) (am_bc a) (am_nL a) (am_rty a) ∈ am_good := lt_s am_cv71 am_cw71
theorem am_cv73 : ∀ a, a < 73 → Cond.code (am_y a) (am_bc a) (am_nL a) (am_rty a) ∈ am_good := lt_s am_cv72 am_cw72
theorem am_cv74 : ∀ a, a < 74 → Cond.code (am_y a) (am_bc a) (am_nL a) (am_rty a) ∈ am_good := lt_s am_cv73 am_cw73
theorem am_cv75 : ∀ a, a < 75 → Cond.code (am_y a) (am_bc a) (am_nL a) (am_rty a) ∈ am_good := lt_s am_cv74 am_cw74
theorem am_cv76 : ∀ a, a < 76 → Cond.code (am_y a) (am_bc a) (am_nL a) (am_rty a) ∈ am_good := lt_s am_cv75 am_cw75
theorem am_cv77 : ∀ a, a < 77 → Cond.code (am_y a) (am_bc a) (am_nL a) (am_rty a) ∈ am_good := lt_s am_cv76 am_cw76
theorem am_cv78 : ∀ a, a < 78 → Cond.code (am_y a) (am_bc a) (am_nL a) (am_rty a) ∈ am_good := lt_s am_cv77 am_cw77
theorem am_cv79 : ∀ a, a < 79 → Cond.code (am_y a) (am_bc a) (am_nL a) (am_rty a) ∈ am_good := lt_s am_cv78 am_cw78
theorem am_cv80 : ∀ a, a < 80 → Cond.code (am_y a) (am_bc a) (am_nL a) (am_rty a) ∈ am_good := lt_s am_cv79 am_cw79
theorem am_cv81 : ∀ a, a < 81 → Cond.code (am_y a) (am_bc a) (am_nL a) (am_rty a) ∈ am_good := lt_s am_cv80 am_cw80
theorem am_cv82 : ∀ a, a < 82 → Cond.code (am_y a) (am_bc a) (am_nL a) (am_rty a) ∈ am_good := lt_s am_cv81 am_cw81
theorem am_cv83 : ∀ a, a < 83 → Cond.code (am_y a) (am_bc a) (am_nL a) (am_rty a) ∈ am_good := lt_s am_cv82 am_cw82
theorem am_cv84 : ∀ a, a < 84 → Cond.code (am_y a) (am_bc a) (am_nL a) (am_rty a) ∈ am_good := lt_s am_cv83 am_cw83
theorem am_cv85 : ∀ a, a < 85 → Cond.code (am_y a) (am_bc a) (am_nL a) (am_rty a) ∈ am_good := lt_s am_cv84 am_cw84
theorem am_cv86 : ∀ a, a < 86 → Cond.code (am_y a) (am_bc a) (am_nL a) (am_rty a) ∈ am_good := lt_s am_cv85 am_cw85
theorem am_cv87 : ∀ a, a < 87 → Cond.code (am_y a) (am_bc a) (am_nL a) (am_rty a) ∈ am_good := lt_s am_cv86 am_cw86
theorem am_cv88 : ∀ a, a < 88 → Cond.code (am_y a) (am_bc a) (am_nL a) (am_rty a) ∈ am_good := lt_s am_cv87 am_cw87
theorem am_cv89 : ∀ a, a < 89 → Cond.code (am_y a) (am_bc a) (am_nL a) (am_rty a) ∈ am_good := lt_s am_cv88 am_cw88
theorem am_cv90 : ∀ a, a < 90 → Cond.code (am_y a) (am_bc a) (am_nL a) (am_rty a) ∈ am_good := lt_s am_cv89 am_cw89
theorem am_cv91 : ∀ a, a < 91 → Cond.code (am_y a) (am_bc a) (am_nL a) (am_rty a) ∈ am_good := lt_s am_cv90 am_cw90
theorem am_cv92 : ∀ a, a < 92 → Cond.code (am_y a) (am_bc a) (am_nL a) (am_rty a) ∈ am_good := lt_s am_cv91 am_cw91
theorem am_cv93 : ∀ a, a < 93 → Cond.code (am_y a) (am_bc a) (am_nL a) (am_rty a) ∈ am_good := lt_s am_cv92 am_cw92
theorem am_cv94 : ∀ a, a < 94 → Cond.code (am_y a) (am_bc a) (am_nL a) (am_rty a) ∈ am_good := lt_s am_cv93 am_cw93
theorem am_cv95 : ∀ a, a < 95 → Cond.code (am_y a) (am_bc a) (am_nL a) (am_rty a) ∈ am_good := lt_s am_cv94 am_cw94
theorem am_cv96 : ∀ a, a < 96 → Cond.code (am_y a) (am_bc a) (am_nL a) (am_rty a) ∈ am_good := lt_s am_cv95 am_cw95
theorem am_cv97 : ∀ a, a < 97 → Cond.code (am_y a) (am_bc a) (am_nL a) (am_rty a) ∈ am_good := lt_s am_cv96 am_cw96
theorem am_cv98 : ∀ a, a < 98 → Cond.code (am_y a) (am_bc a) (am_nL a) (am_rty a) ∈ am_good := lt_s am_cv97 am_cw97
theorem am_cv99 : ∀ a, a < 99 → Cond.code (am_y a) (am_bc a) (am_nL a) (am_rty a) ∈ am_good := lt_s am_cv98 am_cw98
theorem am_cv100 : ∀ a, a < 100 → Cond.code (am_y a) (am_bc a) (am_nL a) (am_rty a) ∈ am_good := lt_s am_cv99 am_cw99
theorem am_cv101 : ∀ a, a < 101 → Cond.code (am_y a) (am_bc a) (am_nL a) (am_rty a) ∈ am_good := lt_s am_cv100 am_cw100
theorem am_cv102 : ∀ a, a < 102 → Cond.code (am_y a) (am_bc a) (am_nL a) (am_rty a) ∈ am_good := lt_s am_cv101 am_cw101
theorem am_cv103 : ∀ a, a < 103 → Cond.code (am_y a) (am_bc a) (am_nL a) (am_rty a) ∈ am_good := lt_s am_cv102 am_cw102
theorem am_cv104 : ∀ a, a < 104 → Cond.code (am_y a) (am_bc a) (am_nL a) (am_rty a) ∈ am_good := lt_s am_cv103 am_cw103
theorem am_cv105 : ∀ a, a < 105 → Cond.code (am_y a) (am_bc a) (am_nL a) (am_rty a) ∈ am_good := lt_s am_cv104 am_cw104
theorem am_cv106 : ∀ a, a < 106 → Cond.code (am_y a) (am_bc a) (am_nL a) (am_rty a) ∈ am_good := lt_s am_cv105 am_cw105
theorem am_cv107 : ∀ a, a < 107 → Cond.code (am_y a) (am_bc a) (am_nL a) (am_rty a) ∈ am_good := lt_s am_cv106 am_cw106
theorem am_cv108 : ∀ a, a < 108 → Cond.code (am_y a) (am_bc a) (am_nL a) (am_rty a) ∈ am_good := lt_s am_cv107 am_cw107
theorem am_cv109 : ∀ a, a < 109 → Cond.code (am_y a) (am_bc a) (am_nL a) (am_rty a) ∈ am_good := lt_s am_cv108 am_cw108
theorem am_cv110 : ∀ a, a < 110 → Cond.code (am_y a) (am_bc a) (am_nL a) (am_rty a) ∈ am_good := lt_s am_cv109 am_cw109
theorem am_cv111 : ∀ a, a < 111 → Cond.code (am_y a) (am_bc a) (am_nL a) (am_rty a) ∈ am_good := lt_s am_cv110 am_cw110
theorem am_cv112 : ∀ a, a < 112 → Cond.code (am_y a) (am_bc a) (am_nL a) (am_rty a) ∈ am_good := lt_s am_cv111 am_cw111
theorem am_cv113 : ∀ a, a < 113 → Cond.code (am_y a) (am_bc a) (am_nL a) (am_rty a) ∈ am_good := lt_s am_cv112 am_cw112
theorem am_cv114 : ∀ a, a < 114 → Cond.code (am_y a) (am_bc a) (am_nL a) (am_rty a) ∈ am_good := lt_s am_cv113 am_cw113
theorem am_cv115 : ∀ a, a < 115 → Cond.code (am_y a) (am_bc a) (am_nL a) (am_rty a) ∈ am_good := lt_s am_cv114 am_cw114
theorem am_cv116 : ∀ a, a < 116 → Cond.code (am_y a) (am_bc a) (am_nL a) (am_rty a) ∈ am_good := lt_s am_cv115 am_cw115
theorem am_cv117 : ∀ a, a < 117 → Cond.code (am_y a) (am_bc a) (am_nL a) (am_rty a) ∈ am_good := lt_s am_cv116 am_cw116
theorem am_cv118 : ∀ a, a < 118 → Cond.code (am_y a) (am_bc a) (am_nL a) (am_rty a) ∈ am_good := lt_s am_cv117 am_cw117
theorem am_cv119 : ∀ a, a < 119 → Cond.code (am_y a) (am_bc a) (am_nL a) (am_rty a) ∈ am_good := lt_s am_cv118 am_cw118
theorem am_cv120 : ∀ a, a < 120 → Cond.code (am_y a) (am_bc a) (am_nL a) (am_rty a) ∈ am_good := lt_s am_cv119 am_cw119
theorem am_cv121 : ∀ a, a < 121 → Cond.code (am_y a) (am_bc a) (am_nL a) (am_rty a) ∈ am_good := lt_s am_cv120 am_cw120
theorem am_cv122 : ∀ a, a < 122 → Cond.code (am_y a) (am_bc a) (am_nL a) (am_rty a) ∈ am_good := lt_s am_cv121 am_cw121
theorem am_cv123 : ∀ a, a < 123 → Cond.code (am_y a) (am_bc a) (am_nL a) (am_rty a) ∈ am_good := lt_s am_cv122 am_cw122
theorem am_cv124 : ∀ a, a < 124 → Cond.code (am_y a) (am_bc a) (am_nL a) (am_rty a) ∈ am_good := lt_s am_cv123 am_cw123
theorem am_cv125 : ∀ a, a < 125 → Cond.code (am_y a) (am_bc a) (am_nL a) (am_rty a) ∈ am_good := lt_s am_cv124 am_cw124
theorem am_cv126 : ∀ a, a < 126 → Cond.code (am_y a) (am_bc a) (am_nL a) (am_rty a) ∈ am_good := lt_s am_cv125 am_cw125
theorem am_cv127 : ∀ a, a < 127 → Cond.code (am_y a) (am_bc a) (am_nL a) (am_rty a) ∈ am_good := lt_s am_cv126 am_cw126
theorem am_cv128 : ∀ a, a < 128 → Cond.code (am_y a) (am_bc a) (am_nL a) (am_rty a) ∈ am_good := lt_s am_cv127 am_cw127
theorem am_cv129 : ∀ a, a < 129 → Cond.code (am_y a) (am_bc a) (am_nL a) (am_rty a) ∈ am_good := lt_s am_cv128 am_cw128
theorem am_cv130 : ∀ a, a < 130 → Cond.code (am_y a) (am_bc a) (am_nL a) (am_rty a) ∈ am_good := lt_s am_cv129 am_cw129
theorem am_cv131 : ∀ a, a < 131 → Cond.code (am_y a) (am_bc a) (am_nL a) (am_rty a) ∈ am_good := lt_s am_cv130 am_cw130
theorem am_cv132 : ∀ a, a < 132 → Cond.code (am_y a) (am_bc a) (am_nL a) (am_rty a) ∈ am_good := lt_s am_cv131 am_cw131
theorem am_cv133 : ∀ a, a < 133 → Cond.code (am_y a) (am_bc a) (am_nL a) (am_rty a) ∈ am_good := lt_s am_cv132 am_cw132
theorem am_cv134 : ∀ a, a < 134 → Cond.code (am_y a) (am_bc a) (am_nL a) (am_rty a) ∈ am_good := lt_s am_cv133 am_cw133
theorem am_cv135 : ∀ a, a < 135 → Cond.code (am_y a) (am_bc a) (am_nL a) (am_rty a) ∈ am_good := lt_s am_cv134 am_cw134
theorem am_cv136 : ∀ a, a < 136 → Cond.code (am_y a) (am_bc a) (am_nL a) (am_rty a) ∈ am_good := lt_s am_cv135 am_cw135
theorem am_cv137 : ∀ a, a < 137 → Cond.code (am_y a) (am_bc a) (am_nL a) (am_rty a) ∈ am_good := lt_s am_cv136 am_cw136
theorem am_cv138 : ∀ a, a < 138 → Cond.code (am_y a) (am_bc a) (am_nL a) (am_rty a) ∈ am_good := lt_s am_cv137 am_cw137
theorem am_cv139 : ∀ a, a < 139 → Cond.code (am_y a) (am_bc a) (am_nL a) (am_rty a) ∈ am_good := lt_s am_cv138 am_cw138
theorem am_cv140 : ∀ a, a < 140 → Cond.code (am_y a) (am_bc a) (am_nL a) (am_rty a) ∈ am_good := lt_s am_cv139 am_cw139
theorem am_cv141 : ∀ a, a < 141 → Cond.code (am_y a) (am_bc a) (am_nL a) (am_rty a) ∈ am_good := lt_s am_cv140 am_cw140
theorem am_cv142 : ∀ a, a < 142 → Cond.code (am_y a) (am_bc a) (am_nL a) (am_rty a) ∈ am_good := lt_s am_cv141 am_cw141
theorem am_cv143 : ∀ a, a < 143 → Cond.code (am_y a) (am_bc a) (am_nL a) (am_rty a) ∈ am_good := lt_s am_cv142 am_cw142
theorem am_cv144 : ∀ a, a < 144 → Cond.code (am_y a) (am_bc a) (am_nL a) (am_rty a) ∈ am_good := lt_s am_cv143 am_cw143
theorem am_cv145 : ∀ a, a < 145 → Cond.code (am_y a) (am_bc a) (am_nL a) (am_rty a) ∈ am_good := lt_s am_cv144 am_cw144
theorem am_cv146 : ∀ a, a < 146 → Cond.code (am_y a) (am_bc a) (am_nL a) (am_rty a) ∈ am_good := lt_s am_cv145 am_cw145
theorem am_cv147 : ∀ a, a < 147 → Cond.code (am_y a) (am_bc a) (am_nL a) (am_rty a) ∈ am_good := lt_s am_cv146 am_cw146
theorem am_cv148 : ∀ a, a < 148 → Cond.code (am_y a) (am_bc a) (am_nL a) (am_rty a) ∈ am_good := lt_s am_cv147 am_cw147
theorem am_cv149 : ∀ a, a < 149 → Cond.code (am_y a) (am_bc a) (am_nL a) (am_rty a) ∈ am_good := lt_s am_cv148 am_cw148
theorem am_cv150 : ∀ a, a < 150 → Cond.code (am_y a) (am_bc a) (am_nL a) (am_rty a) ∈ am_good := lt_s am_cv149 am_cw149
theorem am_cv151 : ∀ a, a < 151 → Cond.code (am_y a) (am_bc a) (am_nL a) (am_rty a) ∈ am_good := lt_s am_cv150 am_cw150
theorem am_cv152 : ∀ a, a < 152 → Cond.code (am_y a) (am_bc a) (am_nL a) (am_rty a) ∈ am_good := lt_s am_cv151 am_cw151
theorem am_cv153 : ∀ a, a < 153 → Cond.code (am_y a) (am_bc a) (am_nL a) (am_rty a) ∈ am_good := lt_s am_cv152 am_cw152
theorem am_cv154 : ∀ a, a < 154 → Cond.code (am_y a) (am_bc a) (am_nL a) (am_rty a) ∈ am_good := lt_s am_cv153 am_cw153
theorem am_cv155 : ∀ a, a < 155 → Cond.code (am_y a) (am_bc a) (am_nL a) (am_rty a) ∈ am_good := lt_s am_cv154 am_cw154
theorem am_cv156 : ∀ a, a < 156 → Cond.code (am_y a) (am_bc a) (am_nL a) (am_rty a) ∈ am_good := lt_s am_cv155 am_cw155
theorem am_cv157 : ∀ a, a < 157 → Cond.code (am_y a) (am_bc a) (am_nL a) (am_rty a) ∈ am_good := lt_s am_cv156 am_cw156
theorem am_cv158 : ∀ a, a < 158 → Cond.code (am_y a) (am_bc a) (am_nL a) (am_rty a) ∈ am_good := lt_s am_cv157 am_cw157
theorem am_cv159 : ∀ a, a < 159 → Cond.code (am_y a) (am_bc a) (am_nL a) (am_rty a) ∈ am_good := lt_s am_cv158 am_cw158
theorem am_cv160 : ∀ a, a < 160 → Cond.code (am_y a) (am_bc a) (am_nL a) (am_rty a) ∈ am_good := lt_s am_cv159 am_cw159
theorem am_cv161 : ∀ a, a < 161 → Cond.code (am_y a) (am_bc a) (am_nL a) (am_rty a) ∈ am_good := lt_s am_cv160 am_cw160
theorem am_cv162 : ∀ a, a < 162 → Cond.code (am_y a) (am_bc a) (am_nL a) (am_rty a) ∈ am_good := lt_s am_cv161 am_cw161
theorem am_cv163 : ∀ a, a < 163 → Cond.code (am_y a) (am_bc a) (am_nL a) (am_rty a) ∈ am_good := lt_s am_cv162 am_cw162
theorem am_cv164 : ∀ a, a < 164 → Cond.code (am_y a) (am_bc a) (am_nL a) (am_rty a) ∈ am_good := lt_s am_cv163 am_cw163
theorem am_cv165 : ∀ a, a < 165 → Cond.code (am_y a) (am_bc a) (am_nL a) (am_rty a) ∈ am_good := lt_s am_cv164 am_cw164
theorem am_cv166 : ∀ a, a < 166 → Cond.code (am_y a) (am_bc a) (am_nL a) (am_rty a) ∈ am_good := lt_s am_cv165 am_cw165
theorem am_cv167 : ∀ a, a < 167 → Cond.code (am_y a) (am_bc a) (am_nL a) (am_rty a) ∈ am_good := lt_s am_cv166 am_cw166
theorem am_cv168 : ∀ a, a < 168 → Cond.code (am_y a) (am_bc a) (am_nL a) (am_rty a) ∈ am_good := lt_s am_cv167 am_cw167
theorem am_cv169 : ∀ a, a < 169 → Cond.code (am_y a) (am_bc a) (am_nL a) (am_rty a) ∈ am_good := lt_s am_cv168 am_cw168
theorem am_cv170 : ∀ a, a < 170 → Cond.code (am_y a) (am_bc a) (am_nL a) (am_rty a) ∈ am_good := lt_s am_cv169 am_cw169
theorem am_cv171 : ∀ a, a < 171 → Cond.code (am_y a) (am_bc a) (am_nL a) (am_rty a) ∈ am_good := lt_s am_cv170 am_cw170
theorem am_cv172 : ∀ a, a < 172 → Cond.code (am_y a) (am_bc a) (am_nL a) (am_rty a) ∈ am_good := lt_s am_cv171 am_cw171
theorem am_cv173 : ∀ a, a < 173 → Cond.code (am_y a) (am_bc a) (am_nL a) (am_rty a) ∈ am_good := lt_s am_cv172 am_cw172
theorem am_cv174 : ∀ a, a < 174 → Cond.code (am_y a) (am_bc a) (am_nL a) (am_rty a) ∈ am_good := lt_s am_cv173 am_cw173
theorem am_cv175 : ∀ a, a < 175 → Cond.code (am_y a) (am_bc a) (am_nL a) (am_rty a) ∈ am_good := lt_s am_cv174 am_cw174
theorem am_cv176 : ∀ a, a < 176 → Cond.code (am_y a) (am_bc a) (am_nL a) (am_rty a) ∈ am_good := lt_s am_cv175 am_cw175
theorem am_cv177 : ∀ a, a < 177 → Cond.code (am_y a) (am_bc a) (am_nL a) (am_rty a) ∈ am_good := lt_s am_cv176 am_cw176
theorem am_cv178 : ∀ a, a < 178 → Cond.code (am_y a) (am_bc a) (am_nL a) (am_rty a) ∈ am_good := lt_s am_cv177 am_cw177
theorem am_cv179 : ∀ a, a < 179 → Cond.code (am_y a) (am_bc a) (am_nL a) (am_rty a) ∈ am_good := lt_s am_cv178 am_cw178
theorem am_code_ok : ∀ a, a < 179 → Cond.code (am_y a) (am_bc a) (am_nL a) (am_rty a) ∈ am_good := am_cv179
def am_frs : List (List (Nat × Nat)) := [[(1, 22), (1, 22), (1, 21), (1, 22), (2, 45), (1, 22), (1, 22), (1, 20), (1, 22), (1, 22), (1, 22), (2, 42), (2, 42), (6, 137), (5, 113), (4, 88)], [(3, 77), (1, 22), (3, 67), (2, 43), (1, 20), (3, 67), (2, 43), (3, 70), (2, 45), (0, 0), (0, 0), (0, 0), (1, 20), (0, 0), (0, 0), (1, 23)], [(2, 49), (2, 49), (2, 49), (2, 45), (2, 45), (1, 22), (1, 22), (2, 40), (2, 42), (1, 22), (0, 0), (3, 60), (8, 180), (0, 0), (0, 0), (1, 21)], [(5, 109), (0, 0), (2, 49), (2, 49), (6, 135), (5, 109), (0, 0), (0, 0), (7, 154), (0, 0), (5, 109), (6, 130), (2, 49), (7, 154), (6, 130), (7, 154)], [(3, 73), (1, 22), (1, 22), (1, 20), (1, 22), (0, 0), (4, 85), (1, 23), (4, 80), (2, 46), (0, 0), (9, 203), (0, 0), (0, 0), (3, 62), (1, 22)], [(7, 160), (7, 160), (1, 21), (1, 21), (2, 43), (2, 43), (0, 0), (0, 0), (0, 0), (0, 0), (0, 0), (0, 0), (0, 0), (0, 0), (1, 21), (0, 0)], [(0, 0), (0, 0), (0, 0), (0, 0), (0, 0), (0, 0), (0, 0), (0, 0), (1, 20), (0, 0), (2, 44), (2, 44), (0, 0), (1, 21), (0, 0), (3, 67)], [(0, 0), (0, 0), (4, 93), (1, 22), (4, 93), (4, 88), (3, 67), (0, 0), (3, 67), (4, 89), (2, 42), (4, 93), (5, 118), (3, 67), (4, 93), (6, 139)], [(0, 0), (7, 162), (0, 0), (0, 0), (0, 0), (1, 21), (0, 0), (0, 0), (0, 0), (1, 25), (0, 0), (0, 0), (0, 0), (1, 20), (2, 42), (3, 65)], [(3, 65), (1, 23), (4, 87), (5, 110), (1, 23), (6, 135), (7, 157), (7, 157), (0, 0), (1, 21), (1, 21), (1, 21), (1, 21), (1, 21), (0, 0), (0, 0)], [(0, 0), (0, 0), (0, 0), (0, 0), (0, 0), (1, 20), (3, 64), (3, 70), (2, 48), (0, 0), (0, 0), (1, 22), (1, 23), (2, 43), (0, 0), (1, 25)], [(0, 0), (0, 0), (0, 0), (10, 224)]]
def am_fr (m : Nat) : Nat := ((am_frs.getD (m / 16) []).getD (m % 16) (0, 0)).1
def am_lo (m : Nat) : Nat := ((am_frs.getD (m / 16) []).getD (m % 16) (0, 0)).2
def am_rk1 (m i : Nat) : Bool := match am_ins m i with
  | (ir, a, _, c) => match ir with
    | .invokevirtual _ => cond (Nat.beq c 98) true (Nat.ble (am_fr a + 1) (am_fr m) && Nat.ble (8 + (am_nL a + 11) + am_lo a) (am_lo m))
    | .invokestatic _ => cond (Nat.beq c 98) true (Nat.ble (am_fr a + 1) (am_fr m) && Nat.ble (8 + (am_nL a + 11) + am_lo a) (am_lo m))
    | .invokespecial _ => cond (Nat.beq c 99) (Nat.ble 1 (am_fr m) && Nat.ble 20 (am_lo m)) (Nat.ble (am_fr a + 1) (am_fr m) && Nat.ble (8 + (am_nL a + 11) + am_lo a) (am_lo m))
    | _ => true
def am_rkp (m : Nat) : Bool := (List.range (16 * (am_cc m).length)).all (am_rk1 m)
theorem am_rk_all : (List.range 180).all am_rkp = true := by decide +kernel

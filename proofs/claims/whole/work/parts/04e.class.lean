/-! CLASS FACTS by kind, and what an invocation stands on. -/
def am_good : List Cond := lw_tbl.filter goodWord
theorem am_good_in {w : Cond} (h : w ∈ lw_tbl) (g : goodWord w = true) : w ∈ am_good := List.mem_filter.mpr ⟨h, g⟩
theorem am_lw_in {i : Nat} {x : Cond} (h : am_lw i x = true) (g : goodWord x = true) : x ∈ am_good := am_good_in (List.mem_of_getElem? (of_decide_eq_true h)) g
theorem am_good_word {w : Cond} (h : w ∈ am_good) : (w.onTables && w.keeps) = true ∨ ∃ ty, w = .arrayClass ty := good_of_word (List.mem_filter.mp h).2
theorem am_gi1 : GoodIn lw_tbl wsX10 := goodIn_p _ [] rfl (by decide +kernel)
theorem am_gi2 : GoodIn lw_tbl wsX20 := goodIn_p _ [] rfl (by decide +kernel)
theorem am_gi3 : GoodIn lw_tbl wsX30 := goodIn_p _ [] rfl (by decide +kernel)
theorem am_gi4 : GoodIn lw_tbl wsX50 := goodIn_p _ [] rfl (by decide +kernel)
theorem am_gi5 : GoodIn lw_tbl wsX60 := goodIn_p _ [] rfl (by decide +kernel)
theorem am_gi6 : GoodIn lw_tbl wsX70 := goodIn_p _ [] rfl (by decide +kernel)
theorem am_gi7 : GoodIn lw_tbl wsX80 := goodIn_p _ [] rfl (by decide +kernel)
theorem am_gi8 : GoodIn lw_tbl wsX90 := goodIn_p _ [] rfl (by decide +kernel)
theorem am_gi9 : GoodIn lw_tbl wsX100 := goodIn_p _ [] rfl (by decide +kernel)
theorem am_gi_lay {C : String} {T : u_T} {N : Nat} (h : GoodIn lw_tbl (u_ws C T N)) : ∀ w ∈ u_ws C T N, w ∈ am_good := fun w hw => am_good_in (h w hw).1 (by
  obtain ⟨k, -, rfl⟩ := List.mem_map.mp hw
  unfold u_lay
  split <;> rfl)
theorem am_cases9 {P : Nat → Prop} (h1 : P 1) (h2 : P 2) (h3 : P 3) (h4 : P 4) (h5 : P 5) (h6 : P 6) (h7 : P 7) (h8 : P 8) (h9 : P 9) {b : Nat} (a : 1 ≤ b) (z : b ≤ 9) : P b := by
  rcases (show b = 1 ∨ b = 2 ∨ b = 3 ∨ b = 4 ∨ b = 5 ∨ b = 6 ∨ b = 7 ∨ b = 8 ∨ b = 9 by omega) with rfl | rfl | rfl | rfl | rfl | rfl | rfl | rfl | rfl <;> assumption
theorem am_cl_at {b : Nat} (a : 1 ≤ b) (z : b ≤ 9) : vwCl[b - 1]? = some ((am_fldD b).1, (am_fldD b).2.1, (am_fldD b).2.2) := am_cases9 (P := fun b => vwCl[b - 1]? = some ((am_fldD b).1, (am_fldD b).2.1, (am_fldD b).2.2)) rfl rfl rfl rfl rfl rfl rfl rfl rfl a z
theorem am_cl_in {b : Nat} (a : 1 ≤ b) (z : b ≤ 9) : ∀ w ∈ u_ws (am_fldD b).1 (am_fldD b).2.1 (am_fldD b).2.2, w ∈ am_good := am_cases9 (P := fun b => ∀ w ∈ u_ws (am_fldD b).1 (am_fldD b).2.1 (am_fldD b).2.2, w ∈ am_good) (am_gi_lay am_gi1) (am_gi_lay am_gi2) (am_gi_lay am_gi3) (am_gi_lay am_gi4) (am_gi_lay am_gi5) (am_gi_lay am_gi6) (am_gi_lay am_gi7) (am_gi_lay am_gi8) (am_gi_lay am_gi9) a z
def am_tyD (b : Nat) : Nat → FieldType := match b with
  | 1 => tyX1
  | 2 => tyX2
  | 3 => tyX3
  | 4 => tyX5
  | 5 => tyX6
  | 6 => tyX7
  | 7 => tyX8
  | 8 => tyX9
  | _ => tyX10
theorem am_ty_ok {b : Nat} (a : 1 ≤ b) (z : b ≤ 9) : ∀ k, k < (am_fldD b).2.2 → parseFieldDescriptor ((am_fldD b).2.1 k).2.2.1 = some (am_tyD b k) := am_cases9 (P := fun b => ∀ k, k < (am_fldD b).2.2 → parseFieldDescriptor ((am_fldD b).2.1 k).2.2.1 = some (am_tyD b k)) tyX1_ok tyX2_ok tyX3_ok tyX5_ok tyX6_ok tyX7_ok tyX8_ok tyX9_ok tyX10_ok a z
theorem am_nm_ok {b : Nat} (a : 1 ≤ b) (z : b ≤ 9) : ∀ i, i < (am_fldD b).2.2 → ∀ j, j < (am_fldD b).2.2 → i ≠ j → ((am_fldD b).2.1 i).2.1 ≠ ((am_fldD b).2.1 j).2.1 := am_cases9 (P := fun b => ∀ i, i < (am_fldD b).2.2 → ∀ j, j < (am_fldD b).2.2 → i ≠ j → ((am_fldD b).2.1 i).2.1 ≠ ((am_fldD b).2.1 j).2.1) nmX1 nmX2 nmX3 nmX5 nmX6 nmX7 nmX8 nmX9 nmX10 a z
def am_tk (t : FieldType) : Nat := match t with
  | .int => 0
  | .boolean => 5
  | .long => 1
  | .object _ => 2
  | .array _ => 2
  | _ => 9
theorem am_tk_ok {b : Nat} (a : 1 ≤ b) (z : b ≤ 9) : ∀ k, k < (am_fldD b).2.2 → am_tk (am_tyD b k) = am_ft b k := am_cases9 (P := fun b => ∀ k, k < (am_fldD b).2.2 → am_tk (am_tyD b k) = am_ft b k) (by decide +kernel) (by decide +kernel) (by decide +kernel) (by decide +kernel) (by decide +kernel) (by decide +kernel) (by decide +kernel) (by decide +kernel) (by decide +kernel) a z
theorem am_own_ok {b : Nat} (a : 1 ≤ b) (z : b ≤ 9) : ∀ k, k < (am_fldD b).2.2 → ((am_fldD b).2.1 k).1 = (am_fldD b).1 := am_cases9 (P := fun b => ∀ k, k < (am_fldD b).2.2 → ((am_fldD b).2.1 k).1 = (am_fldD b).1) (by decide +kernel) (by decide +kernel) (by decide +kernel) (by decide +kernel) (by decide +kernel) (by decide +kernel) (by decide +kernel) (by decide +kernel) (by decide +kernel) a z
theorem am_inst_ok {b : Nat} (a : 1 ≤ b) (z : b ≤ 9) : Cond.instantiable (am_fldD b).1 (am_fldD b).2.2 ∈ am_good := am_cases9 (P := fun b => Cond.instantiable (am_fldD b).1 (am_fldD b).2.2 ∈ am_good) (am_good_in (List.mem_of_getElem? (i := 273) (by decide +kernel)) rfl) (am_good_in (List.mem_of_getElem? (i := 138) (by decide +kernel)) rfl) (am_good_in (List.mem_of_getElem? (i := 267) (by decide +kernel)) rfl) (am_good_in (List.mem_of_getElem? (i := 297) (by decide +kernel)) rfl) (am_good_in (List.mem_of_getElem? (i := 132) (by decide +kernel)) rfl) (am_good_in (List.mem_of_getElem? (i := 110) (by decide +kernel)) rfl) (am_good_in (List.mem_of_getElem? (i := 116) (by decide +kernel)) rfl) (am_good_in (List.mem_of_getElem? (i := 102) (by decide +kernel)) rfl) (am_good_in (List.mem_of_getElem? (i := 1015) (by decide +kernel)) rfl) a z
theorem am_init_ok {b : Nat} (a : 1 ≤ b) (z : b ≤ 9) : Cond.initialized (am_fldD b).1 ∈ am_good := am_cases9 (P := fun b => Cond.initialized (am_fldD b).1 ∈ am_good) (am_good_in (List.mem_of_getElem? (i := 84) (by decide +kernel)) rfl) (am_good_in (List.mem_of_getElem? (i := 82) (by decide +kernel)) rfl) (am_good_in (List.mem_of_getElem? (i := 83) (by decide +kernel)) rfl) (am_good_in (List.mem_of_getElem? (i := 85) (by decide +kernel)) rfl) (am_good_in (List.mem_of_getElem? (i := 81) (by decide +kernel)) rfl) (am_good_in (List.mem_of_getElem? (i := 79) (by decide +kernel)) rfl) (am_good_in (List.mem_of_getElem? (i := 80) (by decide +kernel)) rfl) (am_good_in (List.mem_of_getElem? (i := 78) (by decide +kernel)) rfl) (am_good_in (List.mem_of_getElem? (i := 86) (by decide +kernel)) rfl) a z
theorem am_arr_ok : Cond.arrayClass .int ∈ am_good ∧ Cond.arrayClass .boolean ∈ am_good ∧ Cond.arrayClass .long ∈ am_good := ⟨am_good_in (List.mem_of_getElem? (i := 130) (by decide +kernel)) rfl, am_good_in (List.mem_of_getElem? (i := 1209) (by decide +kernel)) rfl, am_good_in (List.mem_of_getElem? (i := 336) (by decide +kernel)) rfl⟩
theorem am_objInit_ok : Cond.instanceMethod Lib.objectInit ∈ am_good ∧ Cond.code Lib.objectInit ⟨#[0xb1]⟩ 1 none ∈ am_good := ⟨am_good_in (List.mem_of_getElem? (i := 107) (by decide +kernel)) rfl, am_good_in (List.mem_of_getElem? (i := 108) (by decide +kernel)) rfl⟩
theorem am_cw0 : Cond.code (am_y 0) (am_bc 0) (am_nL 0) (am_rty 0) ∈ am_good := am_good_in (List.mem_of_getElem? (i := 276) (by decide +kernel)) rfl
theorem am_cw1 : Cond.code (am_y 1) (am_bc 1) (am_nL 1) (am_rty 1) ∈ am_good := am_good_in (List.mem_of_getElem? (i := 682) (by decide +kernel)) rfl
theorem am_cw2 : Cond.code (am_y 2) (am_bc 2) (am_nL 2) (am_rty 2) ∈ am_good := am_good_in (List.mem_of_getElem? (i := 893) (by decide +kernel)) rfl
theorem am_cw3 : Cond.code (am_y 3) (am_bc 3) (am_nL 3) (am_rty 3) ∈ am_good := am_good_in (List.mem_of_getElem? (i := 901) (by decide +kernel)) rfl
theorem am_cw4 : Cond.code (am_y 4) (am_bc 4) (am_nL 4) (am_rty 4) ∈ am_good := am_good_in (List.mem_of_getElem? (i := 941) (by decide +kernel)) rfl
theorem am_cw5 : Cond.code (am_y 5) (am_bc 5) (am_nL 5) (am_rty 5) ∈ am_good := am_good_in (List.mem_of_getElem? (i := 875) (by decide +kernel)) rfl
theorem am_cw6 : Cond.code (am_y 6) (am_bc 6) (am_nL 6) (am_rty 6) ∈ am_good := am_good_in (List.mem_of_getElem? (i := 897) (by decide +kernel)) rfl
theorem am_cw7 : Cond.code (am_y 7) (am_bc 7) (am_nL 7) (am_rty 7) ∈ am_good := am_good_in (List.mem_of_getElem? (i := 141) (by decide +kernel)) rfl
theorem am_cw8 : Cond.code (am_y 8) (am_bc 8) (am_nL 8) (am_rty 8) ∈ am_good := am_good_in (List.mem_of_getElem? (i := 418) (by decide +kernel)) rfl
theorem am_cw9 : Cond.code (am_y 9) (am_bc 9) (am_nL 9) (am_rty 9) ∈ am_good := am_good_in (List.mem_of_getElem? (i := 635) (by decide +kernel)) rfl
theorem am_cw10 : Cond.code (am_y 10) (am_bc 10) (am_nL 10) (am_rty 10) ∈ am_good := am_good_in (List.mem_of_getElem? (i := 655) (by decide +kernel)) rfl
theorem am_cw11 : Cond.code (am_y 11) (am_bc 11) (am_nL 11) (am_rty 11) ∈ am_good := am_good_in (List.mem_of_getElem? (i := 270) (by decide +kernel)) rfl
theorem am_cw12 : Cond.code (am_y 12) (am_bc 12) (am_nL 12) (am_rty 12) ∈ am_good := am_good_in (List.mem_of_getElem? (i := 678) (by decide +kernel)) rfl
theorem am_cw13 : Cond.code (am_y 13) (am_bc 13) (am_nL 13) (am_rty 13) ∈ am_good := am_good_in (List.mem_of_getElem? (i := 832) (by decide +kernel)) rfl
theorem am_cw14 : Cond.code (am_y 14) (am_bc 14) (am_nL 14) (am_rty 14) ∈ am_good := am_good_in (List.mem_of_getElem? (i := 837) (by decide +kernel)) rfl
theorem am_cw15 : Cond.code (am_y 15) (am_bc 15) (am_nL 15) (am_rty 15) ∈ am_good := am_good_in (List.mem_of_getElem? (i := 919) (by decide +kernel)) rfl
theorem am_cw16 : Cond.code (am_y 16) (am_bc 16) (am_nL 16) (am_rty 16) ∈ am_good := am_good_in (List.mem_of_getElem? (i := 850) (by decide +kernel)) rfl
theorem am_cw17 : Cond.code (am_y 17) (am_bc 17) (am_nL 17) (am_rty 17) ∈ am_good := am_good_in (List.mem_of_getElem? (i := 927) (by decide +kernel)) rfl
theorem am_cw18 : Cond.code (am_y 18) (am_bc 18) (am_nL 18) (am_rty 18) ∈ am_good := am_good_in (List.mem_of_getElem? (i := 949) (by decide +kernel)) rfl
theorem am_cw19 : Cond.code (am_y 19) (am_bc 19) (am_nL 19) (am_rty 19) ∈ am_good := am_good_in (List.mem_of_getElem? (i := 931) (by decide +kernel)) rfl
theorem am_cw20 : Cond.code (am_y 20) (am_bc 20) (am_nL 20) (am_rty 20) ∈ am_good := am_good_in (List.mem_of_getElem? (i := 937) (by decide +kernel)) rfl
theorem am_cw21 : Cond.code (am_y 21) (am_bc 21) (am_nL 21) (am_rty 21) ∈ am_good := am_good_in (List.mem_of_getElem? (i := 957) (by decide +kernel)) rfl
theorem am_cw22 : Cond.code (am_y 22) (am_bc 22) (am_nL 22) (am_rty 22) ∈ am_good := am_good_in (List.mem_of_getElem? (i := 961) (by decide +kernel)) rfl
theorem am_cw23 : Cond.code (am_y 23) (am_bc 23) (am_nL 23) (am_rty 23) ∈ am_good := am_good_in (List.mem_of_getElem? (i := 965) (by decide +kernel)) rfl
theorem am_cw24 : Cond.code (am_y 24) (am_bc 24) (am_nL 24) (am_rty 24) ∈ am_good := am_good_in (List.mem_of_getElem? (i := 970) (by decide +kernel)) rfl
theorem am_cw25 : Cond.code (am_y 25) (am_bc 25) (am_nL 25) (am_rty 25) ∈ am_good := am_good_in (List.mem_of_getElem? (i := 923) (by decide +kernel)) rfl
theorem am_cw26 : Cond.code (am_y 26) (am_bc 26) (am_nL 26) (am_rty 26) ∈ am_good := am_good_in (List.mem_of_getElem? (i := 845) (by decide +kernel)) rfl
theorem am_cw27 : Cond.code (am_y 27) (am_bc 27) (am_nL 27) (am_rty 27) ∈ am_good := am_good_in (List.mem_of_getElem? (i := 953) (by decide +kernel)) rfl
theorem am_cw28 : Cond.code (am_y 28) (am_bc 28) (am_nL 28) (am_rty 28) ∈ am_good := am_good_in (List.mem_of_getElem? (i := 300) (by decide +kernel)) rfl
theorem am_cw29 : Cond.code (am_y 29) (am_bc 29) (am_nL 29) (am_rty 29) ∈ am_good := am_good_in (List.mem_of_getElem? (i := 687) (by decide +kernel)) rfl
theorem am_cw30 : Cond.code (am_y 30) (am_bc 30) (am_nL 30) (am_rty 30) ∈ am_good := am_good_in (List.mem_of_getElem? (i := 866) (by decide +kernel)) rfl
theorem am_cw31 : Cond.code (am_y 31) (am_bc 31) (am_nL 31) (am_rty 31) ∈ am_good := am_good_in (List.mem_of_getElem? (i := 870) (by decide +kernel)) rfl
theorem am_cw32 : Cond.code (am_y 32) (am_bc 32) (am_nL 32) (am_rty 32) ∈ am_good := am_good_in (List.mem_of_getElem? (i := 862) (by decide +kernel)) rfl
theorem am_cw33 : Cond.code (am_y 33) (am_bc 33) (am_nL 33) (am_rty 33) ∈ am_good := am_good_in (List.mem_of_getElem? (i := 881) (by decide +kernel)) rfl
theorem am_cw34 : Cond.code (am_y 34) (am_bc 34) (am_nL 34) (am_rty 34) ∈ am_good := am_good_in (List.mem_of_getElem? (i := 885) (by decide +kernel)) rfl
theorem am_cw35 : Cond.code (am_y 35) (am_bc 35) (am_nL 35) (am_rty 35) ∈ am_good := am_good_in (List.mem_of_getElem? (i := 889) (by decide +kernel)) rfl
theorem am_cw36 : Cond.code (am_y 36) (am_bc 36) (am_nL 36) (am_rty 36) ∈ am_good := am_good_in (List.mem_of_getElem? (i := 905) (by decide +kernel)) rfl
theorem am_cw37 : Cond.code (am_y 37) (am_bc 37) (am_nL 37) (am_rty 37) ∈ am_good := am_good_in (List.mem_of_getElem? (i := 910) (by decide +kernel)) rfl
theorem am_cw38 : Cond.code (am_y 38) (am_bc 38) (am_nL 38) (am_rty 38) ∈ am_good := am_good_in (List.mem_of_getElem? (i := 914) (by decide +kernel)) rfl
theorem am_cw39 : Cond.code (am_y 39) (am_bc 39) (am_nL 39) (am_rty 39) ∈ am_good := am_good_in (List.mem_of_getElem? (i := 135) (by decide +kernel)) rfl
theorem am_cw40 : Cond.code (am_y 40) (am_bc 40) (am_nL 40) (am_rty 40) ∈ am_good := am_good_in (List.mem_of_getElem? (i := 411) (by decide +kernel)) rfl
theorem am_cw41 : Cond.code (am_y 41) (am_bc 41) (am_nL 41) (am_rty 41) ∈ am_good := am_good_in (List.mem_of_getElem? (i := 668) (by decide +kernel)) rfl
theorem am_cw42 : Cond.code (am_y 42) (am_bc 42) (am_nL 42) (am_rty 42) ∈ am_good := am_good_in (List.mem_of_getElem? (i := 841) (by decide +kernel)) rfl
theorem am_cw43 : Cond.code (am_y 43) (am_bc 43) (am_nL 43) (am_rty 43) ∈ am_good := am_good_in (List.mem_of_getElem? (i := 113) (by decide +kernel)) rfl
theorem am_cw44 : Cond.code (am_y 44) (am_bc 44) (am_nL 44) (am_rty 44) ∈ am_good := am_good_in (List.mem_of_getElem? (i := 407) (by decide +kernel)) rfl
theorem am_cw45 : Cond.code (am_y 45) (am_bc 45) (am_nL 45) (am_rty 45) ∈ am_good := am_good_in (List.mem_of_getElem? (i := 453) (by decide +kernel)) rfl
theorem am_cw46 : Cond.code (am_y 46) (am_bc 46) (am_nL 46) (am_rty 46) ∈ am_good := am_good_in (List.mem_of_getElem? (i := 644) (by decide +kernel)) rfl
theorem am_cw47 : Cond.code (am_y 47) (am_bc 47) (am_nL 47) (am_rty 47) ∈ am_good := am_good_in (List.mem_of_getElem? (i := 424) (by decide +kernel)) rfl
theorem am_cw48 : Cond.code (am_y 48) (am_bc 48) (am_nL 48) (am_rty 48) ∈ am_good := am_good_in (List.mem_of_getElem? (i := 552) (by decide +kernel)) rfl
theorem am_cw49 : Cond.code (am_y 49) (am_bc 49) (am_nL 49) (am_rty 49) ∈ am_good := am_good_in (List.mem_of_getElem? (i := 539) (by decide +kernel)) rfl
theorem am_cw50 : Cond.code (am_y 50) (am_bc 50) (am_nL 50) (am_rty 50) ∈ am_good := am_good_in (List.mem_of_getElem? (i := 432) (by decide +kernel)) rfl
theorem am_cw51 : Cond.code (am_y 51) (am_bc 51) (am_nL 51) (am_rty 51) ∈ am_good := am_good_in (List.mem_of_getElem? (i := 448) (by decide +kernel)) rfl
theorem am_cw52 : Cond.code (am_y 52) (am_bc 52) (am_nL 52) (am_rty 52) ∈ am_good := am_good_in (List.mem_of_getElem? (i := 461) (by decide +kernel)) rfl
theorem am_cw53 : Cond.code (am_y 53) (am_bc 53) (am_nL 53) (am_rty 53) ∈ am_good := am_good_in (List.mem_of_getElem? (i := 465) (by decide +kernel)) rfl
theorem am_cw54 : Cond.code (am_y 54) (am_bc 54) (am_nL 54) (am_rty 54) ∈ am_good := am_good_in (List.mem_of_getElem? (i := 523) (by decide +kernel)) rfl
theorem am_cw55 : Cond.code (am_y 55) (am_bc 55) (am_nL 55) (am_rty 55) ∈ am_good := am_good_in (List.mem_of_getElem? (i := 527) (by decide +kernel)) rfl
theorem am_cw56 : Cond.code (am_y 56) (am_bc 56) (am_nL 56) (am_rty 56) ∈ am_good := am_good_in (List.mem_of_getElem? (i := 659) (by decide +kernel)) rfl
theorem am_cw57 : Cond.code (am_y 57) (am_bc 57) (am_nL 57) (am_rty 57) ∈ am_good := am_good_in (List.mem_of_getElem? (i := 663) (by decide +kernel)) rfl
theorem am_cw58 : Cond.code (am_y 58) (am_bc 58) (am_nL 58) (am_rty 58) ∈ am_good := am_good_in (List.mem_of_getElem? (i := 562) (by decide +kernel)) rfl
theorem am_cw59 : Cond.code (am_y 59) (am_bc 59) (am_nL 59) (am_rty 59) ∈ am_good := am_good_in (List.mem_of_getElem? (i := 558) (by decide +kernel)) rfl
theorem am_cw60 : Cond.code (am_y 60) (am_bc 60) (am_nL 60) (am_rty 60) ∈ am_good := am_good_in (List.mem_of_getElem? (i := 543) (by decide +kernel)) rfl
theorem am_cw61 : Cond.code (am_y 61) (am_bc 61) (am_nL 61) (am_rty 61) ∈ am_good := am_good_in (List.mem_of_getElem? (i := 640) (by decide +kernel)) rfl
theorem am_cw62 : Cond.code (am_y 62) (am_bc 62) (am_nL 62) (am_rty 62) ∈ am_good := am_good_in (List.mem_of_getElem? (i := 648) (by decide +kernel)) rfl
theorem am_cw63 : Cond.code (am_y 63) (am_bc 63) (am_nL 63) (am_rty 63) ∈ am_good := am_good_in (List.mem_of_getElem? (i := 531) (by decide +kernel)) rfl
theorem am_cw64 : Cond.code (am_y 64) (am_bc 64) (am_nL 64) (am_rty 64) ∈ am_good := am_good_in (List.mem_of_getElem? (i := 535) (by decide +kernel)) rfl
theorem am_cw65 : Cond.code (am_y 65) (am_bc 65) (am_nL 65) (am_rty 65) ∈ am_good := am_good_in (List.mem_of_getElem? (i := 547) (by decide +kernel)) rfl
theorem am_cw66 : Cond.code (am_y 66) (am_bc 66) (am_nL 66) (am_rty 66) ∈ am_good := am_good_in (List.mem_of_getElem? (i := 673) (by decide +kernel)) rfl
theorem am_cw67 : Cond.code (am_y 67) (am_bc 67) (am_nL 67) (am_rty 67) ∈ am_good := am_good_in (List.mem_of_getElem? (i := 119) (by decide +kernel)) rfl
theorem am_cw68 : Cond.code (am_y 68) (am_bc 68) (am_nL 68) (am_rty 68) ∈ am_good := am_good_in (List.mem_of_getElem? (i := 790) (by decide +kernel)) rfl
theorem am_cw69 : Cond.code (am_y 69) (am_bc 69) (am_nL 69) (am_rty 69) ∈ am_good := am_good_in (List.mem_of_getElem? (i := 428) (by decide +kernel)) rfl
theorem am_cw70 : Cond.code (am_y 70) (am_bc 70) (am_nL 70) (am_rty 70) ∈ am_good := am_good_in (List.mem_of_getElem? (i := 471) (by decide +kernel)) rfl
theorem am_cw71 : Cond.code (am_y 71) (am_bc 71) (am_nL 71) (am_rty 71) ∈ am_good := am_good_in (List.mem_of_getElem? (i := 436) (by decide +kernel)) rfl
theorem am_cw72 : Cond.code (am_y 72) (am_bc 72) (am_nL 72) (am_rty 72) ∈ am_good := am_good_in (List.mem_of_getElem? (i := 105) (by decide +kernel)) rfl
theorem am_cw73 : Cond.code (am_y 73) (am_bc 73) (am_nL 73) (am_rty 73) ∈ am_good := am_good_in (List.mem_of_getElem? (i := 720) (by decide +kernel)) rfl
theorem am_cw74 : Cond.code (am_y 74) (am_bc 74) (am_nL 74) (am_rty 74) ∈ am_good := am_good_in (List.mem_of_getElem? (i := 399) (by decide +kernel)) rfl
theorem am_cw75 : Cond.code (am_y 75) (am_bc 75) (am_nL 75) (am_rty 75) ∈ am_good := am_good_in (List.mem_of_getElem? (i := 403) (by decide +kernel)) rfl
theorem am_cw76 : Cond.code (am_y 76) (am_bc 76) (am_nL 76) (am_rty 76) ∈ am_good := am_good_in (List.mem_of_getElem? (i := 692) (by decide +kernel)) rfl
theorem am_cw77 : Cond.code (am_y 77) (am_bc 77) (am_nL 77) (am_rty 77) ∈ am_good := am_good_in (List.mem_of_getElem? (i := 696) (by decide +kernel)) rfl
theorem am_cw78 : Cond.code (am_y 78) (am_bc 78) (am_nL 78) (am_rty 78) ∈ am_good := am_good_in (List.mem_of_getElem? (i := 700) (by decide +kernel)) rfl
theorem am_cw79 : Cond.code (am_y 79) (am_bc 79) (am_nL 79) (am_rty 79) ∈ am_good := am_good_in (List.mem_of_getElem? (i := 800) (by decide +kernel)) rfl
theorem am_cw80 : Cond.code (am_y 80) (am_bc 80) (am_nL 80) (am_rty 80) ∈ am_good := am_good_in (List.mem_of_getElem? (i := 826) (by decide +kernel)) rfl
theorem am_cw81 : Cond.code (am_y 81) (am_bc 81) (am_nL 81) (am_rty 81) ∈ am_good := am_good_in (List.mem_of_getElem? (i := 978) (by decide +kernel)) rfl
theorem am_cw82 : Cond.code (am_y 82) (am_bc 82) (am_nL 82) (am_rty 82) ∈ am_good := am_good_in (List.mem_of_getElem? (i := 986) (by decide +kernel)) rfl
theorem am_cw83 : Cond.code (am_y 83) (am_bc 83) (am_nL 83) (am_rty 83) ∈ am_good := am_good_in (List.mem_of_getElem? (i := 994) (by decide +kernel)) rfl
theorem am_cw84 : Cond.code (am_y 84) (am_bc 84) (am_nL 84) (am_rty 84) ∈ am_good := am_good_in (List.mem_of_getElem? (i := 1003) (by decide +kernel)) rfl
theorem am_cw85 : Cond.code (am_y 85) (am_bc 85) (am_nL 85) (am_rty 85) ∈ am_good := am_good_in (List.mem_of_getElem? (i := 1011) (by decide +kernel)) rfl
theorem am_cw86 : Cond.code (am_y 86) (am_bc 86) (am_nL 86) (am_rty 86) ∈ am_good := am_good_in (List.mem_of_getElem? (i := 704) (by decide +kernel)) rfl
theorem am_cw87 : Cond.code (am_y 87) (am_bc 87) (am_nL 87) (am_rty 87) ∈ am_good := am_good_in (List.mem_of_getElem? (i := 708) (by decide +kernel)) rfl
theorem am_cw88 : Cond.code (am_y 88) (am_bc 88) (am_nL 88) (am_rty 88) ∈ am_good := am_good_in (List.mem_of_getElem? (i := 712) (by decide +kernel)) rfl
theorem am_cw89 : Cond.code (am_y 89) (am_bc 89) (am_nL 89) (am_rty 89) ∈ am_good := am_good_in (List.mem_of_getElem? (i := 456) (by decide +kernel)) rfl

/-! THE START: the two constructors, counted out. -/
def st_00 : am_H := ((fun _ _ => 0, fun _ _ => 0, fun _ _ => 0), (fun _ _ => 0, am_S0 0, 0), (0, 0))
def st_r1 : am_R := am_exQ 900 72 0 (am_ent [.ref 1] (am_nL 72)) [] (am_new st_00 8 4)
def st_A1 : am_H := (st_r1.getD (.null, st_00)).2
def st_r2 : am_R := am_exQ 3000 94 0 (am_ent [.ref 49] (am_nL 94)) [] (am_new st_A1 9 61)
def st_A2 : am_H := (st_r2.getD (.null, st_00)).2
def st_A3 : am_H := am_new st_A2 22 1
def st_ok (r : am_R) : Bool := match r with
  | some (.null, _) => true
  | _ => false
theorem st_get {r : am_R} (h : st_ok r = true) : r = some (.null, (r.getD (.null, st_00)).2) := by
  rcases r with _ | ⟨v, h1⟩
  · cases h
  · cases v <;> first | rfl | cases h
theorem st_e1 : st_r1 = some (.null, st_A1) := st_get (by decide +kernel)
theorem st_e2 : st_r2 = some (.null, st_A2) := st_get (by decide +kernel)
theorem st_n1 : st_A1.2.1.2.2 = 48 := by decide +kernel
theorem st_n2 : st_A2.2.1.2.2 = 91 := by decide +kernel
theorem st_c : st_A3.2.2.1 + 128 ≤ 230 ∧ st_A3.2.2.2 + 1024 ≤ 6413 := by decide +kernel
theorem st_R : ((List.range 96).all fun q => (List.range 64).all fun k => Nat.beq (st_A3.2.1.1 q k) (am_RF q k)) = true := by decide +kernel
theorem st_S : ((List.range 93).all fun q => Nat.beq (am_S st_A3 q).1 (am_get am_sh q (0, 0)).1 && Nat.beq (am_S st_A3 q).2 (am_get am_sh q (0, 0)).2) = true := by decide +kernel
theorem st_v0 : (List.range 700).all (fun i => decide (st_A3.1.1 4 i = 0 ∧ st_A3.1.1 50 i = 0)) = true := by decide +kernel
theorem st_v1 : (List.range 48).all (fun x => decide (st_A3.1.1 59 x = 0 ∧ st_A3.1.1 59 (48 + x) = 0 ∧ st_A3.1.1 41 x = 0)) = true := by decide +kernel
theorem st_v2 : (List.range 32).all (fun j => decide (st_A3.1.1 71 j = am_b01 (am_bt (st_A3.1.1 24 0) j) ∧ st_A3.1.1 72 j = am_b01 (am_bt (st_A3.1.1 24 1) j) ∧ st_A3.1.1 73 j = am_b01 (am_bt (st_A3.1.1 24 2) j) ∧ st_A3.1.1 70 j = am_b01 (am_bt (st_A3.1.1 1 3) j) ∧ st_A3.1.1 80 j = am_b01 (am_bt (st_A3.1.1 22 2) j) ∧ st_A3.1.1 74 j = st_A3.1.1 25 j ∧ (16 ≤ j → am_bt (st_A3.1.1 24 3) j = false))) = true := by decide +kernel
theorem st_v3 : (List.range 16).all (fun j => decide (st_A3.1.1 79 j = am_b01 (am_bt (st_A3.1.1 24 3) j) ∧ st_A3.1.1 88 j = am_b01 (am_bt (st_A3.1.1 28 9) j) ∧ st_A3.1.1 89 j = am_b01 (am_bt (st_A3.1.1 28 10) j))) = true := by decide +kernel
theorem st_v4 : (List.range 8).all (fun j => decide (st_A3.1.1 76 j = am_b01 (am_bt (st_A3.1.1 24 4) j) ∧ st_A3.1.1 78 j = am_b01 (am_bt (st_A3.1.1 24 5) j) ∧ st_A3.1.1 75 j = st_A3.1.1 26 j ∧ st_A3.1.1 77 j = st_A3.1.1 27 j ∧ (am_bt (st_A3.1.1 28 0) j = false ∧ st_A3.1.2.1 81 j = -1) ∧ st_A3.1.1 82 j = am_b01 (am_bt (st_A3.1.1 28 2) j) ∧ (am_bt (st_A3.1.1 28 3) j = false ∧ st_A3.1.2.1 83 j = -1) ∧ (am_bt (st_A3.1.1 28 5) j = false ∧ st_A3.1.2.1 84 j = -1 ∧ st_A3.1.1 85 j = am_b01 false) ∧ st_A3.1.1 86 j = am_b01 (am_bt (st_A3.1.1 28 7) j) ∧ st_A3.1.1 87 j = am_b01 (am_bt (st_A3.1.1 28 8) j))) = true := by decide +kernel
theorem st_v5 : st_A3.1.2.1 49 44 = st_A3.1.2.1 22 1 ∧ st_A3.1.2.1 22 1 = lN 0 ∧ st_A3.1.1 49 45 = st_A3.1.1 22 3 ∧ (st_A3.1.1 22 3 = 0 ∨ st_A3.1.1 22 3 = 2 ∨ st_A3.1.1 22 3 = 3) ∧ st_A3.1.1 49 46 = st_A3.1.1 22 4 ∧ st_A3.1.1 49 47 = st_A3.1.1 22 5 ∧ st_A3.1.1 34 6 = nI 0 ∧ st_A3.1.1 56 0 = nI 0 ∧ st_A3.1.1 49 22 = nI 0 ∧ st_A3.1.1 35 5 = nI 0 ∧ st_A3.1.1 67 0 = nI 0 ∧ st_A3.1.1 3 1 = nI 0 ∧ st_A3.1.1 49 2 = nI 0 ∧ st_A3.1.1 49 3 = st_A3.1.1 2 2 ∧ st_A3.1.1 49 4 = st_A3.1.1 2 3 := by decide +kernel

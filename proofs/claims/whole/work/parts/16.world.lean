/-! THE WORLD behind the constructors, and running the abstract machine up to given stops. -/
abbrev am_W (I : Nat → Nat → Int32) (J : Nat → Nat → Int64) (T : Nat → Nat → Nat) (L : Nat) (C : Nat × Nat) : am_H := ((I, J, T), (am_RF, am_SF L, 92), C)
/-- behind a fetched reference field the reference stands as a numeral -/
def am_g2 (m i : Nat) : Bool := match am_ins m i with
  | (.getfield _, _, _, c) => Nat.beq c 2
  | _ => false
def am_nst (f : List Value → am_R) (st : List Value) : am_R := match st with
  | .ref 0 :: r => f (.ref 0 :: r)
  | .ref (x + 1) :: r => f (.ref (x + 1) :: r)
  | _ => f st
theorem am_nst_eq (f : List Value → am_R) (st : List Value) : am_nst f st = f st := by
  unfold am_nst
  split <;> rfl
noncomputable def am_rn (P : List Nat) : Nat → am_K
  | 0 => am_E
  | n + 1 => am_step (fun m i ls st h => cond (am_g2 m (i - 1)) (am_nst (fun st => cond (Nat.beq i 0 || P.any (Nat.beq i)) (am_E m i ls st h) (am_rn P n m i ls st h)) st) (cond (Nat.beq i 0 || P.any (Nat.beq i)) (am_E m i ls st h) (am_rn P n m i ls st h)))
theorem am_rn_eq (P : List Nat) : ∀ n, am_rn P n = am_E
  | 0 => rfl
  | n + 1 => by
    have e1 : ∀ m i ls st h, cond (Nat.beq i 0 || P.any (Nat.beq i)) (am_E m i ls st h) (am_rn P n m i ls st h) = am_E m i ls st h := by
      intro m i ls st h
      cases (Nat.beq i 0 || P.any (Nat.beq i))
      · show am_rn P n m i ls st h = _
        rw [am_rn_eq P n]
      · rfl
    have e : (fun m i ls st h => cond (am_g2 m (i - 1)) (am_nst (fun st => cond (Nat.beq i 0 || P.any (Nat.beq i)) (am_E m i ls st h) (am_rn P n m i ls st h)) st) (cond (Nat.beq i 0 || P.any (Nat.beq i)) (am_E m i ls st h) (am_rn P n m i ls st h))) = am_E := by
      funext m i ls st h
      rw [am_nst_eq, e1]
      cases am_g2 m (i - 1) <;> rfl
    show am_step _ = am_E
    rw [e]
    funext m i ls st h
    exact (am_E_eq m i ls st h).symm
theorem am_rg (P : List Nat) (n m i : Nat) (ls st : List Value) (h : am_H) : am_E m i ls st h = am_rn P n m i ls st h := by
  rw [am_rn_eq]

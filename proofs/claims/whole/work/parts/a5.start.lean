/-! A RUN THAT DOESN'T TOUCH THE SCRIPT is the same with any script. -/
def tw (L : Nat) (xs : Nat → Int32) (h : am_H) : am_H := ((fun q k => cond (Nat.beq q 4600) (xs k) (h.1.1 q k), h.1.2.1, h.1.2.2), (h.2.1.1, (fun q => cond (Nat.beq q 4600) (24, L) (h.2.1.2.1 q)), h.2.1.2.2), h.2.2)
def nqv (v : Value) : Bool := match v with
  | .ref q => !Nat.beq q 4600
  | _ => true
def chq (m i : Nat) (st : List Value) : Bool := st.all nqv && !(Nat.beq (am_ins m i).2.2.2 97) && !(Nat.beq (am_ins m i).2.2.2 98)
def chp (m i : Nat) (st : List Value) (h : am_H) : Bool := match (am_ins m i).1, st with
  | .putfield _, _ :: .ref q :: _ => Nat.ble q h.2.1.2.2 && Nat.ble (am_ins m i).2.1 63
  | .putfield _, _ => false
  | _, _ => true
def am_exQ : Nat → am_K
  | 0 => fun _ _ _ _ _ => none
  | n + 1 => fun m i ls st h => cond (chq m i st && chp m i st h) (am_step (am_exQ n) m i ls st h) none
theorem beq_f {a b : Nat} (h : a ≠ b) : Nat.beq a b = false := am_nbeq h
def nq (st : List Value) : Prop := ∀ q, Value.ref q ∈ st → q ≠ 4600
theorem nq_of {st : List Value} (h : st.all nqv = true) : nq st := fun q hq e => by
  have := List.all_eq_true.mp h _ hq
  rw [e] at this
  exact absurd this (by decide)
def TR (L : Nat) (xs : Nat → Int32) (F G : am_R) : Prop := ∀ r, F = some r → G = some (r.1, tw L xs r.2)
theorem tw_S {L : Nat} {xs : Nat → Int32} {h : am_H} {q : Nat} (hq : q ≠ 4600) : am_S (tw L xs h) q = am_S h q := by
  show cond (Nat.beq q 4600) (24, L) (h.2.1.2.1 q) = _
  rw [beq_f hq]; rfl
theorem tw_I {L : Nat} {xs : Nat → Int32} {h : am_H} {q : Nat} (hq : q ≠ 4600) : (tw L xs h).1.1 q = h.1.1 q := by
  funext k
  show cond (Nat.beq q 4600) (xs k) (h.1.1 q k) = _
  rw [beq_f hq]; rfl
theorem tw_sI {L : Nat} {xs : Nat → Int32} {h : am_H} {q k : Nat} {v : Int32} (hq : q ≠ 4600) : am_sI (tw L xs h) q k v = tw L xs (am_sI h q k v) := by
  have e : am_up (fun a b => cond (Nat.beq a 4600) (xs b) (h.1.1 a b)) q k v = fun a b => cond (Nat.beq a 4600) (xs b) (am_up h.1.1 q k v a b) := by
    funext a b
    by_cases c : a = 4600
    · rw [c, am_up_ne (fun e => hq e.1.symm)]; rfl
    · rw [beq_f c]
      show cond (Nat.beq a q && Nat.beq b k) v (cond (Nat.beq a 4600) (xs b) (h.1.1 a b)) = _
      rw [beq_f c]; rfl
  show ((am_up (fun a b => cond (Nat.beq a 4600) (xs b) (h.1.1 a b)) q k v, _, _), _) = _
  rw [e]; rfl
theorem tw_new {L : Nat} {xs : Nat → Int32} {h : am_H} {kd len : Nat} (hn : h.2.1.2.2 + 1 ≤ 1000) : am_new (tw L xs h) kd len = tw L xs (am_new h kd len) := by
  have e : am_clr (fun a b => cond (Nat.beq a 4600) (xs b) (h.1.1 a b)) (h.2.1.2.2 + 1) 0 = fun a b => cond (Nat.beq a 4600) (xs b) (am_clr h.1.1 (h.2.1.2.2 + 1) 0 a b) := by
    funext a b
    rw [am_clr_eq]
    by_cases c : a = 4600
    · rw [c, if_neg (by omega)]; rfl
    · rw [beq_f c]
      show _ = am_clr h.1.1 (h.2.1.2.2 + 1) 0 a b
      rw [am_clr_eq]; rfl
  have e2 : (fun q => cond (Nat.beq q (h.2.1.2.2 + 1)) (kd, len) (cond (Nat.beq q 4600) (24, L) (h.2.1.2.1 q))) = fun q => cond (Nat.beq q 4600) (24, L) (cond (Nat.beq q (h.2.1.2.2 + 1)) (kd, len) (h.2.1.2.1 q)) := by
    funext q
    by_cases c : q = 4600
    · rw [c, beq_f (by omega : 4600 ≠ h.2.1.2.2 + 1)]; rfl
    · rw [beq_f c]; rfl
  show ((am_clr (fun a b => cond (Nat.beq a 4600) (xs b) (h.1.1 a b)) (h.2.1.2.2 + 1) 0, _, _), (_, (fun q => cond (Nat.beq q (h.2.1.2.2 + 1)) (kd, len) (cond (Nat.beq q 4600) (24, L) (h.2.1.2.1 q))), _), _) = _
  rw [e, e2]; rfl
theorem TRn {L : Nat} {xs : Nat → Int32} {G : am_R} : TR L xs none G := fun _ e => by cases e
theorem TRi {L : Nat} {xs : Nat → Int32} {c : Prop} [Decidable c] {F F' G G' : am_R} (a : TR L xs F F') (b : TR L xs G G') : TR L xs (if c then F else G) (if c then F' else G') := by
  by_cases h : c
  · rw [if_pos h, if_pos h]; exact a
  · rw [if_neg h, if_neg h]; exact b
theorem TRb {L : Nat} {xs : Nat → Int32} {c : Bool} {F F' G G' : am_R} (a : TR L xs F F') (b : TR L xs G G') : TR L xs (cond c F G) (cond c F' G') := by
  cases c
  · exact b
  · exact a
theorem TRinb {L : Nat} {xs : Nat → Int32} {j : Int32} {n : Nat} {F F' : am_R} (a : TR L xs F F') : TR L xs (am_inb j n F) (am_inb j n F') := TRi TRn (TRi TRn a)
theorem TRbind {L : Nat} {xs : Nat → Int32} {F F' : am_R} {k k' : Value × am_H → am_R} (a : TR L xs F F') (b : ∀ v h, TR L xs (k (v, h)) (k' (v, tw L xs h))) : TR L xs (F.bind k) (F'.bind k') := by
  intro r e
  obtain ⟨⟨v, h⟩, h1, h2⟩ := Option.bind_eq_some_iff.mp e
  rw [a _ h1]
  exact b v h r h2
theorem TRvI {L : Nat} {xs : Nat → Int32} {v : Value} {f g : Int32 → am_R} (h : ∀ x, TR L xs (f x) (g x)) : TR L xs (am_vI v f) (am_vI v g) := by
  cases v <;> first | exact h _ | exact TRn
theorem TRvJ {L : Nat} {xs : Nat → Int32} {v : Value} {f g : Int64 → am_R} (h : ∀ x, TR L xs (f x) (g x)) : TR L xs (am_vJ v f) (am_vJ v g) := by
  cases v <;> first | exact h _ | exact TRn
theorem TRvR {L : Nat} {xs : Nat → Int32} {v : Value} {f g : Nat → am_R} (h : ∀ x, TR L xs (f x) (g x)) : TR L xs (am_vR v f) (am_vR v g) := by
  cases v <;> first | exact h _ | exact TRn
theorem TRi1 {L : Nat} {xs : Nat → Int32} {st : List Value} {f g : Int32 → List Value → am_R} (h : ∀ x r, TR L xs (f x r) (g x r)) : TR L xs (am_i1 st f) (am_i1 st g) := by
  rcases st with _ | ⟨v, r⟩
  · exact TRn
  · cases v <;> first | exact h _ _ | exact TRn
theorem TRj1 {L : Nat} {xs : Nat → Int32} {st : List Value} {f g : Int64 → List Value → am_R} (h : ∀ x r, TR L xs (f x r) (g x r)) : TR L xs (am_j1 st f) (am_j1 st g) := by
  rcases st with _ | ⟨v, r⟩
  · exact TRn
  · cases v <;> first | exact h _ _ | exact TRn
theorem TRr1 {L : Nat} {xs : Nat → Int32} {st : List Value} {f g : Nat → List Value → am_R} (hs : nq st) (h : ∀ x r, x ≠ 4600 → TR L xs (f x r) (g x r)) : TR L xs (am_r1 st f) (am_r1 st g) := by
  rcases st with _ | ⟨v, r⟩
  · exact TRn
  · cases v <;> first | exact h _ _ (hs _ List.mem_cons_self) | exact TRn
theorem TRv1 {L : Nat} {xs : Nat → Int32} {st : List Value} {f g : Value → List Value → am_R} (h : ∀ x r, TR L xs (f x r) (g x r)) : TR L xs (am_v1 st f) (am_v1 st g) := by
  rcases st with _ | ⟨v, r⟩
  · exact TRn
  · cases v <;> first | exact h _ _ | exact TRn
theorem TRi2 {L : Nat} {xs : Nat → Int32} {st : List Value} {f g : Int32 → Int32 → List Value → am_R} (h : ∀ x y r, TR L xs (f x y r) (g x y r)) : TR L xs (am_i2 st f) (am_i2 st g) := by
  rcases st with _ | ⟨v, _ | ⟨w, r⟩⟩
  · exact TRn
  · cases v <;> exact TRn
  · cases v <;> first | exact TRn | (cases w <;> first | exact h _ _ _ | exact TRn)
theorem TRj2 {L : Nat} {xs : Nat → Int32} {st : List Value} {f g : Int64 → Int64 → List Value → am_R} (h : ∀ x y r, TR L xs (f x y r) (g x y r)) : TR L xs (am_j2 st f) (am_j2 st g) := by
  rcases st with _ | ⟨v, _ | ⟨w, r⟩⟩
  · exact TRn
  · cases v <;> exact TRn
  · cases v <;> first | exact TRn | (cases w <;> first | exact h _ _ _ | exact TRn)
theorem TRji {L : Nat} {xs : Nat → Int32} {st : List Value} {f g : Int64 → Int32 → List Value → am_R} (h : ∀ x y r, TR L xs (f x y r) (g x y r)) : TR L xs (am_ji st f) (am_ji st g) := by
  rcases st with _ | ⟨v, _ | ⟨w, r⟩⟩
  · exact TRn
  · cases v <;> exact TRn
  · cases v <;> first | exact TRn | (cases w <;> first | exact h _ _ _ | exact TRn)
theorem TRr2 {L : Nat} {xs : Nat → Int32} {st : List Value} {f g : Nat → Nat → List Value → am_R} (hs : nq st) (h : ∀ x y r, x ≠ 4600 → y ≠ 4600 → TR L xs (f x y r) (g x y r)) : TR L xs (am_r2 st f) (am_r2 st g) := by
  rcases st with _ | ⟨v, _ | ⟨w, r⟩⟩
  · exact TRn
  · cases v <;> exact TRn
  · cases v <;> first | exact TRn | (cases w <;> first | exact h _ _ _ (hs _ (List.mem_cons_of_mem _ List.mem_cons_self)) (hs _ List.mem_cons_self) | exact TRn)
theorem TRir {L : Nat} {xs : Nat → Int32} {st : List Value} {f g : Int32 → Nat → List Value → am_R} (hs : nq st) (h : ∀ x y r, y ≠ 4600 → TR L xs (f x y r) (g x y r)) : TR L xs (am_ir st f) (am_ir st g) := by
  rcases st with _ | ⟨v, _ | ⟨w, r⟩⟩
  · exact TRn
  · cases v <;> exact TRn
  · cases v <;> first | exact TRn | (cases w <;> first | exact h _ _ _ (hs _ (List.mem_cons_of_mem _ List.mem_cons_self)) | exact TRn)
theorem TRvr {L : Nat} {xs : Nat → Int32} {st : List Value} {f g : Value → Nat → List Value → am_R} (hs : nq st) (h : ∀ x y r, y ≠ 4600 → TR L xs (f x y r) (g x y r)) : TR L xs (am_vr st f) (am_vr st g) := by
  rcases st with _ | ⟨v, _ | ⟨w, r⟩⟩
  · exact TRn
  · exact TRn
  · cases w <;> first | exact h _ _ _ (hs _ (List.mem_cons_of_mem _ List.mem_cons_self)) | exact TRn
theorem TRiir {L : Nat} {xs : Nat → Int32} {st : List Value} {f g : Int32 → Int32 → Nat → List Value → am_R} (hs : nq st) (h : ∀ x y z r, z ≠ 4600 → TR L xs (f x y z r) (g x y z r)) : TR L xs (am_iir st f) (am_iir st g) := by
  rcases st with _ | ⟨v, _ | ⟨w, _ | ⟨u, r⟩⟩⟩
  · exact TRn
  · cases v <;> exact TRn
  · cases v <;> first | exact TRn | (cases w <;> exact TRn)
  · cases v <;> first | exact TRn | (cases w <;> first | exact TRn | (cases u <;> first | exact h _ _ _ _ (hs _ (List.mem_cons_of_mem _ (List.mem_cons_of_mem _ List.mem_cons_self))) | exact TRn))
theorem TRjir {L : Nat} {xs : Nat → Int32} {st : List Value} {f g : Int64 → Int32 → Nat → List Value → am_R} (hs : nq st) (h : ∀ x y z r, z ≠ 4600 → TR L xs (f x y z r) (g x y z r)) : TR L xs (am_jir st f) (am_jir st g) := by
  rcases st with _ | ⟨v, _ | ⟨w, _ | ⟨u, r⟩⟩⟩
  · exact TRn
  · cases v <;> exact TRn
  · cases v <;> first | exact TRn | (cases w <;> exact TRn)
  · cases v <;> first | exact TRn | (cases w <;> first | exact TRn | (cases u <;> first | exact h _ _ _ _ (hs _ (List.mem_cons_of_mem _ (List.mem_cons_of_mem _ List.mem_cons_self))) | exact TRn))
theorem TRrir {L : Nat} {xs : Nat → Int32} {st : List Value} {f g : Nat → Int32 → Nat → List Value → am_R} (hs : nq st) (h : ∀ x y z r, x ≠ 4600 → z ≠ 4600 → TR L xs (f x y z r) (g x y z r)) : TR L xs (am_rir st f) (am_rir st g) := by
  rcases st with _ | ⟨v, _ | ⟨w, _ | ⟨u, r⟩⟩⟩
  · exact TRn
  · cases v <;> exact TRn
  · cases v <;> first | exact TRn | (cases w <;> exact TRn)
  · cases v <;> first | exact TRn | (cases w <;> first | exact TRn | (cases u <;> first | exact h _ _ _ _ (hs _ List.mem_cons_self) (hs _ (List.mem_cons_of_mem _ (List.mem_cons_of_mem _ List.mem_cons_self))) | exact TRn))
theorem TRbr {L : Nat} {xs : Nat → Int32} {cnd : ClassFile.Cond} {x y : Int32} {F F' G G' : am_R} (a : TR L xs F F') (b : TR L xs G G') : TR L xs (am_br cnd x y F G) (am_br cnd x y F' G') := by
  rcases am_br_or cnd x y with h | h
  · rw [h, h]; exact a
  · rw [h, h]; exact b
theorem TRabr {L : Nat} {xs : Nat → Int32} {cnd : ClassFile.ACond} {x y : Nat} {F F' G G' : am_R} (a : TR L xs F F') (b : TR L xs G G') : TR L xs (am_abr cnd x y F G) (am_abr cnd x y F' G') := by
  cases cnd
  · exact TRi a b
  · exact TRi b a
theorem TRsel {L : Nat} {xs : Nat → Int32} {k k' : Nat → am_R} (h : ∀ t, TR L xs (k t) (k' t)) (x : Int32) (d : Nat) : ∀ (ts : List Nat) (lo : Int32), TR L xs (am_sel k x d lo ts) (am_sel k' x d lo ts)
  | [], lo => h d
  | t :: ts, lo => TRi (h t) (TRsel h x d ts (lo + 1))
theorem TRback {L : Nat} {xs : Nat → Int32} {t : Nat} {v : Value} {r : List Value} {k k' : List Value → am_R} (h : ∀ x, TR L xs (k x) (k' x)) : TR L xs (am_back t v r k) (am_back t v r k') := by
  rcases t with _ | _ | _ | _ | t
  · exact h _
  · exact TRvI fun _ => h _
  · exact TRvJ fun _ => h _
  · exact TRvR fun _ => h _
  · exact TRvI fun _ => h _
theorem TRrecv {L : Nat} {xs : Nat → Int32} {c : Nat} {as : List Value} {h : am_H} {F F' : am_R} (hs : nq as) (a : TR L xs F F') : TR L xs (am_recv c as h F) (am_recv c as (tw L xs h) F') := by
  rcases c with _ | c
  · exact a
  · rcases as with _ | ⟨v, r⟩
    · exact TRn
    · cases v with
      | ref q =>
        have hq := hs q List.mem_cons_self
        show TR L xs (cond (Nat.beq (am_S h q).1 (c + 1)) F none) (cond (Nat.beq (am_S (tw L xs h) q).1 (c + 1)) F' none)
        rw [tw_S hq]
        exact TRb a TRn
      | _ => exact TRn
theorem TRo1 {L : Nat} {xs : Nat → Int32} {st : List Value} {f g : Value → am_R} (h : ∀ x, TR L xs (f x) (g x)) : TR L xs (am_o1 st f) (am_o1 st g) := by
  rcases st with _ | ⟨v, _ | ⟨w, r⟩⟩
  · exact TRn
  · exact h _
  · exact TRn
theorem TRo0 {L : Nat} {xs : Nat → Int32} {st : List Value} {f g : am_R} (h : TR L xs f g) : TR L xs (am_o0 st f) (am_o0 st g) := by
  rcases st with _ | ⟨v, r⟩
  · exact h
  · exact TRn
theorem TRs {L : Nat} {xs : Nat → Int32} {v : Value} {h : am_H} : TR L xs (some (v, h)) (some (v, tw L xs h)) := fun r e => by
  rw [← Option.some.inj e]
theorem TRfin {L : Nat} {xs : Nat → Int32} (m : Nat) (v : Value) (h : am_H) : TR L xs (am_fin m v h) (am_fin m v (tw L xs h)) := by
  unfold am_fin
  split
  · exact TRs
  · exact TRs
  · exact TRs
  · exact TRb TRs TRn
  · exact TRi TRn (TRi TRn TRs)
  · exact TRi TRs TRn
  · exact TRn
theorem nq_args {st : List Value} {b : Nat} (h : nq st) : nq (st.take b).reverse := fun q hq => h q (List.mem_of_mem_take (List.mem_reverse.mp hq))
theorem TRcall {L : Nat} {xs : Nat → Int32} {K K' : am_K} (hK : ∀ m i ls st h, TR L xs (K m i ls st h) (K' m i ls st (tw L xs h))) (m i : Nat) (ls st : List Value) (h : am_H) (a b c : Nat) (hs : nq st) (h97 : Nat.beq c 97 = false) (h98 : Nat.beq c 98 = false) : TR L xs (am_call K m i ls st h a b c) (am_call K' m i ls st (tw L xs h) a b c) := by
  unfold am_call
  rw [h97, h98]
  refine TRb (TRb (TRb (TRr1 hs fun q r hq => ?_) TRn) ?_) TRn
  · rw [tw_S hq]; exact TRb (hK _ _ _ _ _) TRn
  · exact TRrecv (nq_args hs) (TRb (TRbind (hK _ _ _ _ _) fun v h1 => TRback fun _ => hK _ _ _ _ _) TRn)
set_option maxHeartbeats 4000000 in
theorem TRstep {L : Nat} {xs : Nat → Int32} {K K' : am_K} (hK : ∀ m i ls st h, TR L xs (K m i ls st h) (K' m i ls st (tw L xs h))) (m i : Nat) (ls st : List Value) (h : am_H) (hc : chq m i st = true) : TR L xs (am_step K m i ls st h) (am_step K' m i ls st (tw L xs h)) := by
  unfold chq at hc
  simp only [Bool.and_eq_true, Bool.not_eq_true'] at hc
  obtain ⟨⟨hs, h97⟩, h98⟩ := hc
  have hs := nq_of hs
  unfold am_step
  generalize am_ins m i = z at *
  rcases z with ⟨ir, a, b, c⟩
  cases ir <;> dsimp only at h97 h98 ⊢ <;> first
    | exact TRn
    | exact hK _ _ _ _ _
    | exact TRcall hK _ _ _ _ _ _ _ _ hs h97 h98
    | exact TRvI fun _ => hK _ _ _ _ _
    | exact TRvJ fun _ => hK _ _ _ _ _
    | exact TRvR fun _ => hK _ _ _ _ _
    | exact TRi1 fun _ _ => hK _ _ _ _ _
    | exact TRj1 fun _ _ => hK _ _ _ _ _
    | exact TRr1 hs fun _ _ _ => hK _ _ _ _ _
    | exact TRv1 fun _ _ => hK _ _ _ _ _
    | exact TRi2 fun _ _ _ => hK _ _ _ _ _
    | exact TRi2 fun _ _ _ => TRi TRn (hK _ _ _ _ _)
    | exact TRj2 fun _ _ _ => hK _ _ _ _ _
    | exact TRji fun _ _ _ => hK _ _ _ _ _
    | exact TRir hs fun _ _ _ _ => hK _ _ _ _ _
    | exact TRb (hK _ _ _ _ _) (hK _ _ _ _ _)
    | exact TRi1 fun _ _ => TRbr (hK _ _ _ _ _) (hK _ _ _ _ _)
    | exact TRi2 fun _ _ _ => TRbr (hK _ _ _ _ _) (hK _ _ _ _ _)
    | (refine TRr2 hs fun x y r hx hy => ?_; rw [tw_S hx, tw_S hy]; exact TRb (TRabr (hK _ _ _ _ _) (hK _ _ _ _ _)) TRn)
    | (refine TRr1 hs fun x r hx => ?_; rw [tw_S hx]; exact TRb (TRi (hK _ _ _ _ _) (hK _ _ _ _ _)) TRn)
    | exact TRi1 fun _ _ => TRsel (fun _ => hK _ _ _ _ _) _ _ _ _
    | (refine TRr1 hs fun x r hx => ?_; rw [tw_S hx, tw_I hx]; exact TRb (TRb (hK _ _ _ _ _) (TRb (hK _ _ _ _ _) (TRb (hK _ _ _ _ _) (TRb (hK _ _ _ _ _) (TRb (hK _ _ _ _ _) (TRb (hK _ _ _ _ _) TRn)))))) TRn)
    | (refine TRvr hs fun v x r hx => ?_; rw [tw_S hx]; simp only [tw_sI hx]; exact TRb (TRb (TRvI fun _ => hK _ _ _ _ _) (TRb (TRvJ fun _ => hK _ _ _ _ _) (TRb (TRvR fun _ => hK _ _ _ _ _) (TRb (TRvI fun _ => TRb (hK _ _ _ _ _) TRn) TRn)))) TRn)
    | (refine TRr1 hs fun x r hx => ?_; rw [tw_S hx]; exact TRb (hK _ _ _ _ _) TRn)
    | (refine TRir hs fun j x r hx => ?_; rw [tw_S hx]; exact TRb (TRinb (hK _ _ _ _ _)) TRn)
    | (refine TRir hs fun j x r hx => ?_; rw [tw_S hx, tw_I hx]; exact TRb (TRinb (hK _ _ _ _ _)) (TRb (TRinb (hK _ _ _ _ _)) TRn))
    | (refine TRir hs fun j x r hx => ?_; rw [tw_S hx]; exact TRb (TRinb (hK _ _ _ _ _)) (TRb (TRinb (hK _ _ _ _ _)) TRn))
    | (refine TRiir hs fun v j x r hx => ?_; rw [tw_S hx, tw_sI hx]; exact TRb (TRinb (hK _ _ _ _ _)) TRn)
    | (refine TRiir hs fun v j x r hx => ?_; rw [tw_S hx, tw_sI hx]; exact TRb (TRinb (TRb (hK _ _ _ _ _) TRn)) TRn)
    | (refine TRjir hs fun v j x r hx => ?_; rw [tw_S hx]; exact TRb (TRinb (hK _ _ _ _ _)) TRn)
    | (refine TRrir hs fun v j x r hv hx => ?_; rw [tw_S hx, tw_S hv]; exact TRb (TRinb (TRb (hK _ _ _ _ _) TRn)) TRn)
    | exact TRo1 fun _ => TRvI fun _ => TRfin _ _ _
    | exact TRo1 fun _ => TRvJ fun _ => TRfin _ _ _
    | exact TRo1 fun _ => TRvR fun _ => TRfin _ _ _
    | exact TRo0 (TRb TRs TRn)
    | (by_cases hn : h.2.1.2.2 + 1 ≤ 1000
       · show TR L xs (cond (Nat.ble (h.2.1.2.2 + 1) 1000) _ none) (cond (Nat.ble (h.2.1.2.2 + 1) 1000) (K' m (i + 1) ls (.ref (h.2.1.2.2 + 1) :: st) (am_new (tw L xs h) a b)) none)
         rw [tw_new hn]; exact TRb (hK _ _ _ _ _) TRn
       · rw [show Nat.ble (h.2.1.2.2 + 1) 1000 = false from ble_f (by omega)]; exact TRn)
    | (refine TRi1 fun x r => TRi TRn (TRi TRn ?_)
       by_cases hn : h.2.1.2.2 + 1 ≤ 1000
       · show TR L xs (cond (Nat.ble (h.2.1.2.2 + 1) 1000) _ none) (cond (Nat.ble (h.2.1.2.2 + 1) 1000) (K' m (i + 1) ls (.ref (h.2.1.2.2 + 1) :: r) (am_new (tw L xs h) a x.toNatClampNeg)) none)
         rw [tw_new hn]; exact TRb (hK _ _ _ _ _) TRn
       · rw [show Nat.ble (h.2.1.2.2 + 1) 1000 = false from ble_f (by omega)]; exact TRn)
theorem TRex (L : Nat) (xs : Nat → Int32) : ∀ (n m i : Nat) (ls st : List Value) (h : am_H), TR L xs (am_exQ n m i ls st h) (am_ex n m i ls st (tw L xs h))
  | 0, _, _, _, _, _ => TRn
  | n + 1, m, i, ls, st, h => by
    show TR L xs (cond (chq m i st && chp m i st h) (am_step (am_exQ n) m i ls st h) none) (am_step (am_ex n) m i ls st (tw L xs h))
    cases hc : (chq m i st && chp m i st h) with
    | false => exact TRn
    | true => exact TRstep (TRex L xs n) m i ls st h (Bool.and_eq_true_iff.mp hc).1
/-- beyond the cells made nothing is shaped, no reference written -/
def PN (h : am_H) (F : am_R) : Prop := ∀ r, F = some r → h.2.1.2.2 ≤ r.2.2.1.2.2 ∧ (∀ q, r.2.2.1.2.2 < q → am_S r.2 q = am_S h q ∧ ∀ k, r.2.2.1.1 q k = h.2.1.1 q k) ∧ ∀ q k, 64 ≤ k → r.2.2.1.1 q k = h.2.1.1 q k ∨ r.2.2.1.1 q k = 0
theorem PNn {h : am_H} : PN h none := fun _ e => by cases e
theorem PNs {h : am_H} {v : Value} : PN h (some (v, h)) := fun r e => by
  rw [← Option.some.inj e]
  exact ⟨Nat.le_refl _, fun _ _ => ⟨rfl, fun _ => rfl⟩, fun _ _ _ => Or.inl rfl⟩
theorem PNi {h : am_H} {c : Prop} [Decidable c] {F G : am_R} (a : PN h F) (b : PN h G) : PN h (if c then F else G) := by
  by_cases e : c
  · rw [if_pos e]; exact a
  · rw [if_neg e]; exact b
theorem PNb {h : am_H} {c : Bool} {F G : am_R} (a : PN h F) (b : PN h G) : PN h (cond c F G) := by
  cases c
  · exact b
  · exact a
theorem PNinb {h : am_H} {j : Int32} {n : Nat} {F : am_R} (a : PN h F) : PN h (am_inb j n F) := PNi PNn (PNi PNn a)
theorem PNbind {h : am_H} {F : am_R} {k : Value × am_H → am_R} (a : PN h F) (b : ∀ v h1, PN h1 (k (v, h1))) : PN h (F.bind k) := by
  intro r e
  obtain ⟨⟨v, h1⟩, e1, e2⟩ := Option.bind_eq_some_iff.mp e
  obtain ⟨a1, a2, a3⟩ := a _ e1
  obtain ⟨b1, b2, b3⟩ := b v h1 r e2
  refine ⟨Nat.le_trans a1 b1, fun q hq => ?_, fun q k hk => (b3 q k hk).elim (fun e => (a3 q k hk).elim (fun e' => Or.inl (e.trans e')) fun e' => Or.inr (e.trans e')) Or.inr⟩
  obtain ⟨c1, c2⟩ := b2 q hq
  obtain ⟨d1, d2⟩ := a2 q (Nat.lt_of_le_of_lt b1 hq)
  exact ⟨c1.trans d1, fun k => (c2 k).trans (d2 k)⟩
theorem PNnew {h : am_H} {a b : Nat} {F : am_R} (x : PN (am_new h a b) F) : PN h F := by
  intro r e
  obtain ⟨a1, a2, a3⟩ := x r e
  have a1 : h.2.1.2.2 + 1 ≤ r.2.2.1.2.2 := a1
  refine ⟨by omega, fun q hq => ?_, fun q k hk => (a3 q k hk).elim (fun e => ?_) Or.inr⟩
  obtain ⟨c1, c2⟩ := a2 q hq
  refine ⟨c1.trans (am_S_new_ne (by omega)), fun k => (c2 k).trans ?_⟩
  · show am_clr h.2.1.1 (h.2.1.2.2 + 1) 0 q k = _
    rw [am_clr_eq, if_neg (by omega)]
  · have e : r.2.2.1.1 q k = am_clr h.2.1.1 (h.2.1.2.2 + 1) 0 q k := e
    rw [am_clr_eq] at e
    by_cases c : q = h.2.1.2.2 + 1
    · rw [if_pos c] at e; exact Or.inr e
    · rw [if_neg c] at e; exact Or.inl e
theorem PNsR {h : am_H} {q a v : Nat} {F : am_R} (hq : q ≤ h.2.1.2.2 ∧ a ≤ 63) (x : PN (am_sR h q a v) F) : PN h F := by
  intro r e
  obtain ⟨a1, a2, a3⟩ := x r e
  have a1 : h.2.1.2.2 ≤ r.2.2.1.2.2 := a1
  refine ⟨a1, fun z hz => ?_, fun z k hk => (a3 z k hk).elim (fun e => Or.inl (e.trans (am_up_ne (by omega)))) Or.inr⟩
  obtain ⟨c1, c2⟩ := a2 z hz
  exact ⟨c1, fun k => (c2 k).trans (am_up_ne (by omega))⟩
theorem PNvI {h : am_H} {v : Value} {f : Int32 → am_R} (x : ∀ x, PN h (f x)) : PN h (am_vI v f) := by
  cases v <;> first | exact x _ | exact PNn
theorem PNvJ {h : am_H} {v : Value} {f : Int64 → am_R} (x : ∀ x, PN h (f x)) : PN h (am_vJ v f) := by
  cases v <;> first | exact x _ | exact PNn
theorem PNvR {h : am_H} {v : Value} {f : Nat → am_R} (x : ∀ x, PN h (f x)) : PN h (am_vR v f) := by
  cases v <;> first | exact x _ | exact PNn
theorem PNi1 {h : am_H} {st : List Value} {f : Int32 → List Value → am_R} (x : ∀ x r, PN h (f x r)) : PN h (am_i1 st f) := by
  rcases st with _ | ⟨v, r⟩
  · exact PNn
  · cases v <;> first | exact x _ _ | exact PNn
theorem PNj1 {h : am_H} {st : List Value} {f : Int64 → List Value → am_R} (x : ∀ x r, PN h (f x r)) : PN h (am_j1 st f) := by
  rcases st with _ | ⟨v, r⟩
  · exact PNn
  · cases v <;> first | exact x _ _ | exact PNn
theorem PNr1 {h : am_H} {st : List Value} {f : Nat → List Value → am_R} (x : ∀ x r, PN h (f x r)) : PN h (am_r1 st f) := by
  rcases st with _ | ⟨v, r⟩
  · exact PNn
  · cases v <;> first | exact x _ _ | exact PNn
theorem PNv1 {h : am_H} {st : List Value} {f : Value → List Value → am_R} (x : ∀ x r, PN h (f x r)) : PN h (am_v1 st f) := by
  rcases st with _ | ⟨v, r⟩
  · exact PNn
  · cases v <;> first | exact x _ _ | exact PNn
theorem PNi2 {h : am_H} {st : List Value} {f : Int32 → Int32 → List Value → am_R} (z : ∀ x y r, PN h (f x y r)) : PN h (am_i2 st f) := by
  rcases st with _ | ⟨v, _ | ⟨w, r⟩⟩
  · exact PNn
  · cases v <;> exact PNn
  · cases v <;> first | exact PNn | (cases w <;> first | exact z _ _ _ | exact PNn)
theorem PNj2 {h : am_H} {st : List Value} {f : Int64 → Int64 → List Value → am_R} (z : ∀ x y r, PN h (f x y r)) : PN h (am_j2 st f) := by
  rcases st with _ | ⟨v, _ | ⟨w, r⟩⟩
  · exact PNn
  · cases v <;> exact PNn
  · cases v <;> first | exact PNn | (cases w <;> first | exact z _ _ _ | exact PNn)
theorem PNji {h : am_H} {st : List Value} {f : Int64 → Int32 → List Value → am_R} (z : ∀ x y r, PN h (f x y r)) : PN h (am_ji st f) := by
  rcases st with _ | ⟨v, _ | ⟨w, r⟩⟩
  · exact PNn
  · cases v <;> exact PNn
  · cases v <;> first | exact PNn | (cases w <;> first | exact z _ _ _ | exact PNn)
theorem PNr2 {h : am_H} {st : List Value} {f : Nat → Nat → List Value → am_R} (z : ∀ x y r, PN h (f x y r)) : PN h (am_r2 st f) := by
  rcases st with _ | ⟨v, _ | ⟨w, r⟩⟩
  · exact PNn
  · cases v <;> exact PNn
  · cases v <;> first | exact PNn | (cases w <;> first | exact z _ _ _ | exact PNn)
theorem PNir {h : am_H} {st : List Value} {f : Int32 → Nat → List Value → am_R} (z : ∀ x y r, PN h (f x y r)) : PN h (am_ir st f) := by
  rcases st with _ | ⟨v, _ | ⟨w, r⟩⟩
  · exact PNn
  · cases v <;> exact PNn
  · cases v <;> first | exact PNn | (cases w <;> first | exact z _ _ _ | exact PNn)
theorem PNiir {h : am_H} {st : List Value} {f : Int32 → Int32 → Nat → List Value → am_R} (z : ∀ x y u r, PN h (f x y u r)) : PN h (am_iir st f) := by
  rcases st with _ | ⟨v, _ | ⟨w, _ | ⟨u, r⟩⟩⟩
  · exact PNn
  · cases v <;> exact PNn
  · cases v <;> first | exact PNn | (cases w <;> exact PNn)
  · cases v <;> first | exact PNn | (cases w <;> first | exact PNn | (cases u <;> first | exact z _ _ _ _ | exact PNn))
theorem PNjir {h : am_H} {st : List Value} {f : Int64 → Int32 → Nat → List Value → am_R} (z : ∀ x y u r, PN h (f x y u r)) : PN h (am_jir st f) := by
  rcases st with _ | ⟨v, _ | ⟨w, _ | ⟨u, r⟩⟩⟩
  · exact PNn
  · cases v <;> exact PNn
  · cases v <;> first | exact PNn | (cases w <;> exact PNn)
  · cases v <;> first | exact PNn | (cases w <;> first | exact PNn | (cases u <;> first | exact z _ _ _ _ | exact PNn))
theorem PNrir {h : am_H} {st : List Value} {f : Nat → Int32 → Nat → List Value → am_R} (z : ∀ x y u r, PN h (f x y u r)) : PN h (am_rir st f) := by
  rcases st with _ | ⟨v, _ | ⟨w, _ | ⟨u, r⟩⟩⟩
  · exact PNn
  · cases v <;> exact PNn
  · cases v <;> first | exact PNn | (cases w <;> exact PNn)
  · cases v <;> first | exact PNn | (cases w <;> first | exact PNn | (cases u <;> first | exact z _ _ _ _ | exact PNn))
theorem PNbr {h : am_H} {cnd : ClassFile.Cond} {x y : Int32} {F G : am_R} (a : PN h F) (b : PN h G) : PN h (am_br cnd x y F G) := by
  rcases am_br_or cnd x y with e | e
  · rw [e]; exact a
  · rw [e]; exact b
theorem PNabr {h : am_H} {cnd : ClassFile.ACond} {x y : Nat} {F G : am_R} (a : PN h F) (b : PN h G) : PN h (am_abr cnd x y F G) := by
  cases cnd
  · exact PNi a b
  · exact PNi b a
theorem PNsel {h : am_H} {k : Nat → am_R} (z : ∀ t, PN h (k t)) (x : Int32) (d : Nat) : ∀ (ts : List Nat) (lo : Int32), PN h (am_sel k x d lo ts)
  | [], lo => z d
  | t :: ts, lo => PNi (z t) (PNsel z x d ts (lo + 1))
theorem PNback {h : am_H} {t : Nat} {v : Value} {r : List Value} {k : List Value → am_R} (z : ∀ x, PN h (k x)) : PN h (am_back t v r k) := by
  rcases t with _ | _ | _ | _ | t
  · exact z _
  · exact PNvI fun _ => z _
  · exact PNvJ fun _ => z _
  · exact PNvR fun _ => z _
  · exact PNvI fun _ => z _
theorem PNrecv {h : am_H} {c : Nat} {as : List Value} {F : am_R} (a : PN h F) : PN h (am_recv c as h F) := by
  rcases c with _ | c
  · exact a
  · rcases as with _ | ⟨v, r⟩
    · exact PNn
    · cases v <;> first | exact PNb a PNn | exact PNn
theorem PNo1 {h : am_H} {st : List Value} {f : Value → am_R} (z : ∀ x, PN h (f x)) : PN h (am_o1 st f) := by
  rcases st with _ | ⟨v, _ | ⟨w, r⟩⟩
  · exact PNn
  · exact z _
  · exact PNn
theorem PNo0 {h : am_H} {st : List Value} {f : am_R} (z : PN h f) : PN h (am_o0 st f) := by
  rcases st with _ | ⟨v, r⟩
  · exact z
  · exact PNn
theorem PNfin (m : Nat) (v : Value) (h : am_H) : PN h (am_fin m v h) := by
  unfold am_fin
  split
  · exact PNs
  · exact PNs
  · exact PNs
  · exact PNb PNs PNn
  · exact PNi PNn (PNi PNn PNs)
  · exact PNi PNs PNn
  · exact PNn
theorem PNcall {K : am_K} (hK : ∀ m i ls st h, PN h (K m i ls st h)) (m i : Nat) (ls st : List Value) (h : am_H) (a b c : Nat) (h97 : Nat.beq c 97 = false) (h98 : Nat.beq c 98 = false) : PN h (am_call K m i ls st h a b c) := by
  unfold am_call
  rw [h97, h98]
  exact PNb (PNb (PNb (PNr1 fun _ _ => PNb (hK _ _ _ _ _) PNn) PNn) (PNrecv (PNb (PNbind (hK _ _ _ _ _) fun v h1 => PNback fun _ => hK _ _ _ _ _) PNn))) PNn
theorem PNput {h : am_H} {st : List Value} {b a c : Nat} {K : am_K} {m i : Nat} {ls : List Value} (hK : ∀ m i ls st h, PN h (K m i ls st h)) (hp : ∀ v q r, st = v :: .ref q :: r → q ≤ h.2.1.2.2 ∧ a ≤ 63) : PN h (am_vr st fun v q r => cond (Nat.beq (am_S h q).1 b) (cond (Nat.beq c 0) (am_vI v fun x => K m (i + 1) ls r (am_sI h q a x)) (cond (Nat.beq c 1) (am_vJ v fun x => K m (i + 1) ls r (am_sJ h q a x)) (cond (Nat.beq c 2) (am_vR v fun x => K m (i + 1) ls r (am_sR h q a x)) (cond (Nat.beq c 5) (am_vI v fun x => cond (am_bit x) (K m (i + 1) ls r (am_sI h q a x)) none) none)))) none) := by
  rcases st with _ | ⟨v, _ | ⟨w, r⟩⟩
  · exact PNn
  · exact PNn
  · cases w with
    | ref q =>
      have hq := hp v q r rfl
      exact PNb (PNb (PNvI fun x => hK m (i + 1) ls r (am_sI h q a x)) (PNb (PNvJ fun x => hK m (i + 1) ls r (am_sJ h q a x)) (PNb (PNvR fun x => PNsR hq (hK m (i + 1) ls r (am_sR h q a x))) (PNb (PNvI fun x => PNb (hK m (i + 1) ls r (am_sI h q a x)) PNn) PNn)))) PNn
    | _ => exact PNn
set_option maxHeartbeats 4000000 in
theorem PNstep {K : am_K} (hK : ∀ m i ls st h, PN h (K m i ls st h)) (m i : Nat) (ls st : List Value) (h : am_H) (hc : chq m i st = true) (hp : chp m i st h = true) : PN h (am_step K m i ls st h) := by
  unfold chq at hc
  unfold chp at hp
  simp only [Bool.and_eq_true, Bool.not_eq_true'] at hc
  obtain ⟨⟨hs, h97⟩, h98⟩ := hc
  unfold am_step
  generalize am_ins m i = z at *
  rcases z with ⟨ir, a, b, c⟩
  cases ir <;> dsimp only at h97 h98 hp ⊢ <;> first
    | exact PNn
    | exact hK _ _ _ _ _
    | exact PNcall hK _ _ _ _ _ _ _ _ h97 h98
    | exact PNvI fun _ => hK _ _ _ _ _
    | exact PNvJ fun _ => hK _ _ _ _ _
    | exact PNvR fun _ => hK _ _ _ _ _
    | exact PNi1 fun _ _ => hK _ _ _ _ _
    | exact PNj1 fun _ _ => hK _ _ _ _ _
    | exact PNr1 fun _ _ => hK _ _ _ _ _
    | exact PNv1 fun _ _ => hK _ _ _ _ _
    | exact PNi2 fun _ _ _ => hK _ _ _ _ _
    | exact PNi2 fun _ _ _ => PNi PNn (hK _ _ _ _ _)
    | exact PNj2 fun _ _ _ => hK _ _ _ _ _
    | exact PNji fun _ _ _ => hK _ _ _ _ _
    | exact PNir fun _ _ _ => hK _ _ _ _ _
    | exact PNb (hK _ _ _ _ _) (hK _ _ _ _ _)
    | exact PNi1 fun _ _ => PNbr (hK _ _ _ _ _) (hK _ _ _ _ _)
    | exact PNi2 fun _ _ _ => PNbr (hK _ _ _ _ _) (hK _ _ _ _ _)
    | exact PNr2 fun _ _ _ => PNb (PNabr (hK _ _ _ _ _) (hK _ _ _ _ _)) PNn
    | exact PNr1 fun _ _ => PNb (PNi (hK _ _ _ _ _) (hK _ _ _ _ _)) PNn
    | exact PNi1 fun _ _ => PNsel (fun _ => hK _ _ _ _ _) _ _ _ _
    | exact PNr1 fun _ _ => PNb (PNb (hK _ _ _ _ _) (PNb (hK _ _ _ _ _) (PNb (hK _ _ _ _ _) (PNb (hK _ _ _ _ _) (PNb (hK _ _ _ _ _) (PNb (hK _ _ _ _ _) PNn)))))) PNn
    | (refine PNput hK fun v q r e => ?_
       rw [e] at hp
       obtain ⟨hp1, hp2⟩ := Bool.and_eq_true_iff.mp hp
       exact ⟨Nat.le_of_ble_eq_true hp1, Nat.le_of_ble_eq_true hp2⟩)
    | exact PNr1 fun _ _ => PNb (hK _ _ _ _ _) PNn
    | exact PNir fun _ _ _ => PNb (PNinb (hK _ _ _ _ _)) PNn
    | exact PNir fun _ _ _ => PNb (PNinb (hK _ _ _ _ _)) (PNb (PNinb (hK _ _ _ _ _)) PNn)
    | exact PNiir fun v j x r => PNb (PNinb (hK m (i + 1) ls r (am_sI h x j.toNatClampNeg v))) PNn
    | exact PNiir fun v j x r => PNb (PNinb (PNb (hK m (i + 1) ls r (am_sI h x j.toNatClampNeg v)) PNn)) PNn
    | exact PNjir fun v j x r => PNb (PNinb (hK m (i + 1) ls r (am_sJ h x j.toNatClampNeg v))) PNn
    | exact PNrir fun v j x r => PNb (PNinb (PNb (hK m (i + 1) ls r (am_sT h x j.toNatClampNeg v)) PNn)) PNn
    | exact PNo1 fun _ => PNvI fun _ => PNfin _ _ _
    | exact PNo1 fun _ => PNvJ fun _ => PNfin _ _ _
    | exact PNo1 fun _ => PNvR fun _ => PNfin _ _ _
    | exact PNo0 (PNb PNs PNn)
    | exact PNb (PNnew (hK _ _ _ _ _)) PNn
    | exact PNi1 fun _ _ => PNi PNn (PNi PNn (PNb (PNnew (hK _ _ _ _ _)) PNn))
theorem PNex : ∀ (n m i : Nat) (ls st : List Value) (h : am_H), PN h (am_exQ n m i ls st h)
  | 0, _, _, _, _, _ => PNn
  | n + 1, m, i, ls, st, h => by
    show PN h (cond (chq m i st && chp m i st h) (am_step (am_exQ n) m i ls st h) none)
    cases hc : (chq m i st && chp m i st h) with
    | false => exact PNn
    | true =>
      obtain ⟨c1, c2⟩ := Bool.and_eq_true_iff.mp hc
      exact PNstep (PNex n) m i ls st h c1 c2

/-! WHAT A STEP ASKS OF ITS CONTINUATION: finitely many answers; so the machine without fuel satisfies the step's equation. -/
abbrev am_A : Type := (Nat × Nat × List Value × List Value × am_H) × (Value × am_H)
def am_ok (K : am_K) (P : List am_A) : Prop := ∀ p ∈ P, K p.1.1 p.1.2.1 p.1.2.2.1 p.1.2.2.2.1 p.1.2.2.2.2 = some p.2
def am_U (K : am_K) (F : am_K → am_R) : Prop := ∀ r, F K = some r → ∃ P, am_ok K P ∧ ∀ K', am_ok K' P → F K' = some r
theorem am_ok_nil {K : am_K} : am_ok K [] := fun _ h => absurd h List.not_mem_nil
theorem am_ok_app {K : am_K} {P Q : List am_A} : am_ok K (P ++ Q) ↔ am_ok K P ∧ am_ok K Q :=
  ⟨fun h => ⟨fun p q => h p (List.mem_append_left _ q), fun p q => h p (List.mem_append_right _ q)⟩, fun h p q => (List.mem_append.mp q).elim (h.1 p) (h.2 p)⟩
theorem am_Uc {K : am_K} (x : am_R) : am_U K (fun _ => x) := fun _ h => ⟨[], am_ok_nil, fun _ _ => h⟩
theorem am_Ut {K : am_K} (m i : Nat) (ls st : List Value) (h : am_H) : am_U K (fun K => K m i ls st h) := fun r hr => ⟨[((m, i, ls, st, h), r)], fun p hp => by rw [List.mem_singleton.mp hp]; exact hr, fun _ h => h _ List.mem_cons_self⟩
theorem am_Ui {K : am_K} {c : Prop} [Decidable c] {F G : am_K → am_R} (hF : am_U K F) (hG : am_U K G) : am_U K (fun K => if c then F K else G K) := by
  by_cases h : c
  · simp only [h, if_true]; exact hF
  · simp only [h, if_false]; exact hG
theorem am_Ub {K : am_K} {c : Bool} {F G : am_K → am_R} (hF : am_U K F) (hG : am_U K G) : am_U K (fun K => cond c (F K) (G K)) := by
  cases c
  · exact hG
  · exact hF
theorem am_Ubind {K : am_K} {F : am_K → am_R} {G : am_K → Value × am_H → am_R} (hF : am_U K F) (hG : ∀ x, am_U K (fun K => G K x)) : am_U K (fun K => (F K).bind (G K)) := by
  intro r hr
  have hr' : (F K).bind (G K) = some r := hr
  obtain ⟨x, h1, h2⟩ := Option.bind_eq_some_iff.mp hr'
  obtain ⟨P, p1, p2⟩ := hF x h1
  obtain ⟨Q, q1, q2⟩ := hG x r h2
  refine ⟨P ++ Q, am_ok_app.mpr ⟨p1, q1⟩, fun K' h => ?_⟩
  have h' := am_ok_app.mp h
  exact Option.bind_eq_some_iff.mpr ⟨x, p2 K' h'.1, q2 K' h'.2⟩
theorem am_UvI {K : am_K} {v : Value} {f : am_K → Int32 → am_R} (h : ∀ x, am_U K (fun K => f K x)) : am_U K (fun K => am_vI v (f K)) := by
  cases v <;> first | exact h _ | exact am_Uc _
theorem am_UvJ {K : am_K} {v : Value} {f : am_K → Int64 → am_R} (h : ∀ x, am_U K (fun K => f K x)) : am_U K (fun K => am_vJ v (f K)) := by
  cases v <;> first | exact h _ | exact am_Uc _
theorem am_UvR {K : am_K} {v : Value} {f : am_K → Nat → am_R} (h : ∀ x, am_U K (fun K => f K x)) : am_U K (fun K => am_vR v (f K)) := by
  cases v <;> first | exact h _ | exact am_Uc _
theorem am_Ui1 {K : am_K} {st : List Value} {f : am_K → Int32 → List Value → am_R} (h : ∀ x r, am_U K (fun K => f K x r)) : am_U K (fun K => am_i1 st (f K)) := by
  rcases st with _ | ⟨v, r⟩
  · exact am_Uc _
  · cases v <;> first | exact h _ _ | exact am_Uc _
theorem am_Uj1 {K : am_K} {st : List Value} {f : am_K → Int64 → List Value → am_R} (h : ∀ x r, am_U K (fun K => f K x r)) : am_U K (fun K => am_j1 st (f K)) := by
  rcases st with _ | ⟨v, r⟩
  · exact am_Uc _
  · cases v <;> first | exact h _ _ | exact am_Uc _
theorem am_Ur1 {K : am_K} {st : List Value} {f : am_K → Nat → List Value → am_R} (h : ∀ x r, am_U K (fun K => f K x r)) : am_U K (fun K => am_r1 st (f K)) := by
  rcases st with _ | ⟨v, r⟩
  · exact am_Uc _
  · cases v <;> first | exact h _ _ | exact am_Uc _
theorem am_Uc1 {K : am_K} {st : List Value} {f : am_K → Value → List Value → am_R} (h : ∀ x r, am_U K (fun K => f K x r)) : am_U K (fun K => am_v1 st (f K)) := by
  rcases st with _ | ⟨v, r⟩
  · exact am_Uc _
  · cases v <;> first | exact h _ _ | exact am_Uc _
theorem am_Ui2 {K : am_K} {st : List Value} {f : am_K → Int32 → Int32 → List Value → am_R} (h : ∀ x y r, am_U K (fun K => f K x y r)) : am_U K (fun K => am_i2 st (f K)) := by
  rcases st with _ | ⟨v, _ | ⟨w, r⟩⟩
  · exact am_Uc _
  · cases v <;> exact am_Uc _
  · cases v <;> first | exact am_Uc _ | (cases w <;> first | exact h _ _ _ | exact am_Uc _)
theorem am_Uj2 {K : am_K} {st : List Value} {f : am_K → Int64 → Int64 → List Value → am_R} (h : ∀ x y r, am_U K (fun K => f K x y r)) : am_U K (fun K => am_j2 st (f K)) := by
  rcases st with _ | ⟨v, _ | ⟨w, r⟩⟩
  · exact am_Uc _
  · cases v <;> exact am_Uc _
  · cases v <;> first | exact am_Uc _ | (cases w <;> first | exact h _ _ _ | exact am_Uc _)
theorem am_Uji {K : am_K} {st : List Value} {f : am_K → Int64 → Int32 → List Value → am_R} (h : ∀ x y r, am_U K (fun K => f K x y r)) : am_U K (fun K => am_ji st (f K)) := by
  rcases st with _ | ⟨v, _ | ⟨w, r⟩⟩
  · exact am_Uc _
  · cases v <;> exact am_Uc _
  · cases v <;> first | exact am_Uc _ | (cases w <;> first | exact h _ _ _ | exact am_Uc _)
theorem am_Ur2 {K : am_K} {st : List Value} {f : am_K → Nat → Nat → List Value → am_R} (h : ∀ x y r, am_U K (fun K => f K x y r)) : am_U K (fun K => am_r2 st (f K)) := by
  rcases st with _ | ⟨v, _ | ⟨w, r⟩⟩
  · exact am_Uc _
  · cases v <;> exact am_Uc _
  · cases v <;> first | exact am_Uc _ | (cases w <;> first | exact h _ _ _ | exact am_Uc _)
theorem am_Uir {K : am_K} {st : List Value} {f : am_K → Int32 → Nat → List Value → am_R} (h : ∀ x y r, am_U K (fun K => f K x y r)) : am_U K (fun K => am_ir st (f K)) := by
  rcases st with _ | ⟨v, _ | ⟨w, r⟩⟩
  · exact am_Uc _
  · cases v <;> exact am_Uc _
  · cases v <;> first | exact am_Uc _ | (cases w <;> first | exact h _ _ _ | exact am_Uc _)
theorem am_Uvr {K : am_K} {st : List Value} {f : am_K → Value → Nat → List Value → am_R} (h : ∀ x y r, am_U K (fun K => f K x y r)) : am_U K (fun K => am_vr st (f K)) := by
  rcases st with _ | ⟨v, _ | ⟨w, r⟩⟩
  · exact am_Uc _
  · exact am_Uc _
  · cases w <;> first | exact h _ _ _ | exact am_Uc _
theorem am_Uiir {K : am_K} {st : List Value} {f : am_K → Int32 → Int32 → Nat → List Value → am_R} (h : ∀ x y z r, am_U K (fun K => f K x y z r)) : am_U K (fun K => am_iir st (f K)) := by
  rcases st with _ | ⟨v, _ | ⟨w, _ | ⟨u, r⟩⟩⟩
  · exact am_Uc _
  · cases v <;> exact am_Uc _
  · cases v <;> first | exact am_Uc _ | (cases w <;> exact am_Uc _)
  · cases v <;> first | exact am_Uc _ | (cases w <;> first | exact am_Uc _ | (cases u <;> first | exact h _ _ _ _ | exact am_Uc _))
theorem am_Ujir {K : am_K} {st : List Value} {f : am_K → Int64 → Int32 → Nat → List Value → am_R} (h : ∀ x y z r, am_U K (fun K => f K x y z r)) : am_U K (fun K => am_jir st (f K)) := by
  rcases st with _ | ⟨v, _ | ⟨w, _ | ⟨u, r⟩⟩⟩
  · exact am_Uc _
  · cases v <;> exact am_Uc _
  · cases v <;> first | exact am_Uc _ | (cases w <;> exact am_Uc _)
  · cases v <;> first | exact am_Uc _ | (cases w <;> first | exact am_Uc _ | (cases u <;> first | exact h _ _ _ _ | exact am_Uc _))
theorem am_Urir {K : am_K} {st : List Value} {f : am_K → Nat → Int32 → Nat → List Value → am_R} (h : ∀ x y z r, am_U K (fun K => f K x y z r)) : am_U K (fun K => am_rir st (f K)) := by
  rcases st with _ | ⟨v, _ | ⟨w, _ | ⟨u, r⟩⟩⟩
  · exact am_Uc _
  · cases v <;> exact am_Uc _
  · cases v <;> first | exact am_Uc _ | (cases w <;> exact am_Uc _)
  · cases v <;> first | exact am_Uc _ | (cases w <;> first | exact am_Uc _ | (cases u <;> first | exact h _ _ _ _ | exact am_Uc _))
theorem am_br_or (cnd : ClassFile.Cond) (x y : Int32) : (∀ t f, am_br cnd x y t f = t) ∨ (∀ t f, am_br cnd x y t f = f) := by
  cases cnd <;> simp only [am_br]
  · by_cases h : x = y
    · exact Or.inl fun t f => if_pos h
    · exact Or.inr fun t f => if_neg h
  · by_cases h : x = y
    · exact Or.inr fun t f => if_pos h
    · exact Or.inl fun t f => if_neg h
  · by_cases h : x < y
    · exact Or.inl fun t f => if_pos h
    · exact Or.inr fun t f => if_neg h
  · by_cases h : y ≤ x
    · exact Or.inl fun t f => if_pos h
    · exact Or.inr fun t f => if_neg h
  · by_cases h : y < x
    · exact Or.inl fun t f => if_pos h
    · exact Or.inr fun t f => if_neg h
  · by_cases h : x ≤ y
    · exact Or.inl fun t f => if_pos h
    · exact Or.inr fun t f => if_neg h
theorem am_Ubr {K : am_K} {cnd : ClassFile.Cond} {x y : Int32} {F G : am_K → am_R} (hF : am_U K F) (hG : am_U K G) : am_U K (fun K => am_br cnd x y (F K) (G K)) := by
  rcases am_br_or cnd x y with h | h
  · simp only [h]; exact hF
  · simp only [h]; exact hG
theorem am_Uabr {K : am_K} {cnd : ClassFile.ACond} {x y : Nat} {F G : am_K → am_R} (hF : am_U K F) (hG : am_U K G) : am_U K (fun K => am_abr cnd x y (F K) (G K)) := by
  cases cnd
  · exact am_Ui hF hG
  · exact am_Ui hG hF
theorem am_Usel {K : am_K} {k : am_K → Nat → am_R} (h : ∀ t, am_U K (fun K => k K t)) (x : Int32) (d : Nat) : ∀ (ts : List Nat) (lo : Int32), am_U K (fun K => am_sel (k K) x d lo ts)
  | [], lo => h d
  | t :: ts, lo => am_Ui (h t) (am_Usel h x d ts (lo + 1))
theorem am_Uinb {K : am_K} {j : Int32} {n : Nat} {F : am_K → am_R} (hF : am_U K F) : am_U K (fun K => am_inb j n (F K)) := am_Ui (am_Uc _) (am_Ui (am_Uc _) hF)
theorem am_Urecv {K : am_K} {c : Nat} {as : List Value} {h : am_H} {F : am_K → am_R} (hF : am_U K F) : am_U K (fun K => am_recv c as h (F K)) := by
  rcases c with _ | c
  · exact hF
  · rcases as with _ | ⟨v, r⟩
    · exact am_Uc _
    · cases v <;> first | exact am_Ub hF (am_Uc _) | exact am_Uc _
theorem am_Uback {K : am_K} {t : Nat} {v : Value} {r : List Value} {k : am_K → List Value → am_R} (h : ∀ x, am_U K (fun K => k K x)) : am_U K (fun K => am_back t v r (k K)) := by
  rcases t with _ | _ | _ | _ | t
  · exact h _
  · exact am_UvI fun _ => h _
  · exact am_UvJ fun _ => h _
  · exact am_UvR fun _ => h _
  · exact am_UvI fun _ => h _
theorem am_thr_or (a : Nat) (as : List Value) : (∀ t1 t2 ok, am_thr a as t1 t2 ok = none) ∨ (∀ t1 t2 ok, am_thr a as t1 t2 ok = t1) ∨ (∀ t1 t2 ok, am_thr a as t1 t2 ok = t2) ∨ (∀ t1 t2 ok, am_thr a as t1 t2 ok = ok) := by
  unfold am_thr
  split <;> (repeat' split) <;> simp
theorem am_Uthr {K : am_K} {a : Nat} {as : List Value} {F G J : am_K → am_R} (hF : am_U K F) (hG : am_U K G) (hJ : am_U K J) : am_U K (fun K => am_thr a as (F K) (G K) (J K)) := by
  rcases am_thr_or a as with h | h | h | h
  · simp only [h]; exact am_Uc _
  · simp only [h]; exact hF
  · simp only [h]; exact hG
  · simp only [h]; exact hJ
theorem am_okw_or (a : Nat) (as : List Value) (h : am_H) : (∀ k, am_okw a as h k = none) ∨ (∀ k, am_okw a as h k = k) := by
  have key : ∀ b : Bool, (∀ k : am_R, cond b k none = none) ∨ (∀ k : am_R, cond b k none = k) := fun b => by
    cases b
    · exact Or.inl fun _ => rfl
    · exact Or.inr fun _ => rfl
  unfold am_okw
  split <;> first | exact key _ | exact Or.inl fun _ => rfl
theorem am_Uokw {K : am_K} {a : Nat} {as : List Value} {h : am_H} {F : am_K → am_R} (hF : am_U K F) : am_U K (fun K => am_okw a as h (F K)) := by
  rcases am_okw_or a as h with q | q
  · simp only [q]; exact am_Uc _
  · simp only [q]; exact hF
theorem am_Uout {K : am_K} {a : Nat} {as : List Value} {v : Value} {h : am_H} {k : am_K → am_H → am_R} (hk : ∀ x, am_U K (fun K => k K x)) : am_U K (fun K => am_out a as v h (k K)) := by
  unfold am_out
  split
  · exact hk _
  · split
    · exact am_Ub (am_Uinb (am_UvI fun _ => am_Ui (hk _) (hk _))) (am_Uc _)
    · exact am_Uc _
  · split
    · exact am_Ub (am_Uinb (am_UvI fun _ => hk _)) (am_Uc _)
    · exact am_Uc _
theorem am_Urun {K : am_K} {a : Nat} {as : List Value} {h : am_H} {k : am_K → Value × am_H → am_R} (hk : ∀ x, am_U K (fun K => k K x)) : am_U K (fun K => am_run K a as h (k K)) := am_Ub (am_Ubind (am_Ut _ _ _ _ _) hk) (am_Uc _)
theorem am_Ucall {K : am_K} (m i : Nat) (ls st : List Value) (h : am_H) (a b c : Nat) : am_U K (fun K => am_call K m i ls st h a b c) := by
  unfold am_call
  exact am_Ub (am_Ub (am_Ub (am_Ur1 fun _ _ => am_Ub (am_Ut _ _ _ _ _) (am_Uc _)) (am_Uc _)) (am_Ub (am_Uokw (am_Uthr (am_Ut _ _ _ _ _) (am_Ut _ _ _ _ _) (am_Urun fun _ => am_Uout fun _ => am_Ut _ _ _ _ _))) (am_Ub (am_Ub (am_Urecv (am_Urun fun _ => am_UvI fun _ => am_Ub (am_Ut _ _ _ _ _) (am_Ut _ _ _ _ _))) (am_Uc _)) (am_Urecv (am_Urun fun _ => am_Uback fun _ => am_Ut _ _ _ _ _))))) (am_Uc _)
theorem am_Uo1 {K : am_K} {st : List Value} {f : am_K → Value → am_R} (h : ∀ x, am_U K (fun K => f K x)) : am_U K (fun K => am_o1 st (f K)) := by
  rcases st with _ | ⟨v, _ | ⟨w, r⟩⟩
  · exact am_Uc _
  · exact h _
  · exact am_Uc _
set_option maxHeartbeats 4000000 in
theorem am_Ustep {K : am_K} (m i : Nat) (ls st : List Value) (h : am_H) : am_U K (fun K => am_step K m i ls st h) := by
  unfold am_step
  rcases am_ins m i with ⟨ir, a, b, c⟩
  cases ir <;> dsimp only <;> first
    | exact am_Uc _
    | exact am_Ut _ _ _ _ _
    | exact am_Ucall _ _ _ _ _ _ _ _
    | exact am_UvI fun _ => am_Ut _ _ _ _ _
    | exact am_UvJ fun _ => am_Ut _ _ _ _ _
    | exact am_UvR fun _ => am_Ut _ _ _ _ _
    | exact am_Ui1 fun _ _ => am_Ut _ _ _ _ _
    | exact am_Uj1 fun _ _ => am_Ut _ _ _ _ _
    | exact am_Ur1 fun _ _ => am_Ut _ _ _ _ _
    | exact am_Uc1 fun _ _ => am_Ut _ _ _ _ _
    | exact am_Ui2 fun _ _ _ => am_Ut _ _ _ _ _
    | exact am_Ui2 fun _ _ _ => am_Ui (am_Uc _) (am_Ut _ _ _ _ _)
    | exact am_Uj2 fun _ _ _ => am_Ut _ _ _ _ _
    | exact am_Uji fun _ _ _ => am_Ut _ _ _ _ _
    | exact am_Uir fun _ _ _ => am_Ut _ _ _ _ _
    | exact am_Ub (am_Ut _ _ _ _ _) (am_Ut _ _ _ _ _)
    | exact am_Ui1 fun _ _ => am_Ubr (am_Ut _ _ _ _ _) (am_Ut _ _ _ _ _)
    | exact am_Ui2 fun _ _ _ => am_Ubr (am_Ut _ _ _ _ _) (am_Ut _ _ _ _ _)
    | exact am_Ur2 fun _ _ _ => am_Ub (am_Uabr (am_Ut _ _ _ _ _) (am_Ut _ _ _ _ _)) (am_Uc _)
    | exact am_Ur1 fun _ _ => am_Ub (am_Ui (am_Ut _ _ _ _ _) (am_Ut _ _ _ _ _)) (am_Uc _)
    | exact am_Ui1 fun _ _ => am_Usel (fun _ => am_Ut _ _ _ _ _) _ _ _ _
    | exact am_Ur1 fun _ _ => am_Ub (am_Ub (am_Ut _ _ _ _ _) (am_Ub (am_Ut _ _ _ _ _) (am_Ub (am_Ut _ _ _ _ _) (am_Ub (am_Ut _ _ _ _ _) (am_Ub (am_Ut _ _ _ _ _) (am_Ub (am_Ut _ _ _ _ _) (am_Uc _))))))) (am_Uc _)
    | exact am_Uvr fun _ _ _ => am_Ub (am_Ub (am_UvI fun _ => am_Ut _ _ _ _ _) (am_Ub (am_UvJ fun _ => am_Ut _ _ _ _ _) (am_Ub (am_UvR fun _ => am_Ut _ _ _ _ _) (am_Ub (am_UvI fun _ => am_Ub (am_Ut _ _ _ _ _) (am_Uc _)) (am_Uc _))))) (am_Uc _)
    | exact am_Ur1 fun _ _ => am_Ub (am_Ut _ _ _ _ _) (am_Uc _)
    | exact am_Uir fun _ _ _ => am_Ub (am_Uinb (am_Ut _ _ _ _ _)) (am_Uc _)
    | exact am_Uir fun _ _ _ => am_Ub (am_Uinb (am_Ut _ _ _ _ _)) (am_Ub (am_Uinb (am_Ut _ _ _ _ _)) (am_Uc _))
    | exact am_Uiir fun _ _ _ _ => am_Ub (am_Uinb (am_Ut _ _ _ _ _)) (am_Uc _)
    | exact am_Uiir fun _ _ _ _ => am_Ub (am_Uinb (am_Ub (am_Ut _ _ _ _ _) (am_Uc _))) (am_Uc _)
    | exact am_Ujir fun _ _ _ _ => am_Ub (am_Uinb (am_Ut _ _ _ _ _)) (am_Uc _)
    | exact am_Urir fun _ _ _ _ => am_Ub (am_Uinb (am_Ub (am_Ut _ _ _ _ _) (am_Uc _))) (am_Uc _)
    | exact am_Ub (am_Ut _ _ _ _ _) (am_Uc _)
    | exact am_Ui1 fun _ _ => am_Ui (am_Uc _) (am_Ui (am_Uc _) (am_Ub (am_Ut _ _ _ _ _) (am_Uc _)))
theorem am_mono {K K' : am_K} (hK : ∀ m i ls st h r, K m i ls st h = some r → K' m i ls st h = some r) {m i : Nat} {ls st : List Value} {h : am_H} {r : Value × am_H} (e : am_step K m i ls st h = some r) : am_step K' m i ls st h = some r := by
  obtain ⟨P, p1, p2⟩ := am_Ustep (K := K) m i ls st h r e
  exact p2 K' fun p hp => hK _ _ _ _ _ _ (p1 p hp)
theorem am_ex_succ : ∀ (n m i : Nat) (ls st : List Value) (h : am_H) (r : Value × am_H), am_ex n m i ls st h = some r → am_ex (n + 1) m i ls st h = some r
  | 0, _, _, _, _, _, _, e => by cases e
  | n + 1, _, _, _, _, _, _, e => am_mono (am_ex_succ n) e
theorem am_ex_le {n k : Nat} (hk : n ≤ k) {m i : Nat} {ls st : List Value} {h : am_H} {r : Value × am_H} (e : am_ex n m i ls st h = some r) : am_ex k m i ls st h = some r := by
  induction hk with
  | refl => exact e
  | step _ ih => exact am_ex_succ _ _ _ _ _ _ _ ih
/-- the machine without fuel -/
noncomputable def am_E : am_K := fun m i ls st h => Classical.epsilon fun r : am_R => (∃ n, r = am_ex n m i ls st h ∧ r ≠ none) ∨ ((∀ n, am_ex n m i ls st h = none) ∧ r = none)
theorem am_E_spec (m i : Nat) (ls st : List Value) (h : am_H) : (∃ n, am_E m i ls st h = am_ex n m i ls st h ∧ am_E m i ls st h ≠ none) ∨ ((∀ n, am_ex n m i ls st h = none) ∧ am_E m i ls st h = none) := by
  have := Classical.epsilon_spec (p := fun r : am_R => (∃ n, r = am_ex n m i ls st h ∧ r ≠ none) ∨ ((∀ n, am_ex n m i ls st h = none) ∧ r = none)) (by
    by_cases q : ∀ n, am_ex n m i ls st h = none
    · exact ⟨none, Or.inr ⟨q, rfl⟩⟩
    · obtain ⟨n, hn⟩ := Classical.not_forall.mp q
      exact ⟨_, Or.inl ⟨n, rfl, hn⟩⟩)
  exact this
theorem am_E_iff {m i : Nat} {ls st : List Value} {h : am_H} {r : Value × am_H} : am_E m i ls st h = some r ↔ ∃ n, am_ex n m i ls st h = some r := by
  constructor
  · intro e
    rcases am_E_spec m i ls st h with ⟨n, e1, -⟩ | ⟨-, e1⟩
    · exact ⟨n, by rw [← e1]; exact e⟩
    · rw [e] at e1; cases e1
  · rintro ⟨n, e⟩
    rcases am_E_spec m i ls st h with ⟨k, e1, e2⟩ | ⟨e1, -⟩
    · cases hr : am_E m i ls st h with
      | none => exact absurd hr e2
      | some r' =>
        rw [hr] at e1
        have h1 := am_ex_le (Nat.le_max_left n k) e
        have h2 := am_ex_le (Nat.le_max_right n k) e1.symm
        rw [h1] at h2
        exact h2.symm
    · rw [e1 n] at e; cases e
theorem am_E_ok {P : List am_A} (hP : am_ok am_E P) : ∃ n, am_ok (am_ex n) P := by
  induction P with
  | nil => exact ⟨0, am_ok_nil⟩
  | cons p P ih =>
    obtain ⟨n, hn⟩ := ih fun q hq => hP q (List.mem_cons_of_mem _ hq)
    obtain ⟨k, hk⟩ := am_E_iff.mp (hP p List.mem_cons_self)
    refine ⟨max n k, fun q hq => ?_⟩
    rcases List.mem_cons.mp hq with rfl | hq
    · exact am_ex_le (Nat.le_max_right _ _) hk
    · exact am_ex_le (Nat.le_max_left _ _) (hn q hq)
/-- THE EQUATION -/
theorem am_E_eq (m i : Nat) (ls st : List Value) (h : am_H) : am_E m i ls st h = am_step am_E m i ls st h := by
  cases hr : am_step am_E m i ls st h with
  | some r =>
    obtain ⟨P, p1, p2⟩ := am_Ustep m i ls st h r hr
    obtain ⟨n, hn⟩ := am_E_ok p1
    exact am_E_iff.mpr ⟨n + 1, p2 _ hn⟩
  | none =>
    cases he : am_E m i ls st h with
    | none => rfl
    | some r =>
      obtain ⟨n, hn⟩ := am_E_iff.mp he
      cases n with
      | zero => cases hn
      | succ n =>
        have := am_mono (K' := am_E) (fun m i ls st h r e => am_E_iff.mpr ⟨n, e⟩) hn
        rw [hr] at this; cases this
def am_steps : Nat → am_K → am_K
  | 0, K => K
  | n + 1, K => am_step (am_steps n K)
theorem am_E_n (n : Nat) : am_E = am_steps n am_E := by
  induction n with
  | zero => rfl
  | succ n ih =>
    funext m i ls st h
    rw [am_E_eq]
    show am_step am_E m i ls st h = am_step (am_steps n am_E) m i ls st h
    rw [← ih]

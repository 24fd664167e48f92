/-! what a step that comes to an answer says of its stack; the counters only grow -/
theorem am_vI_inv {v : Value} {f : Int32 → am_R} {z : Value × am_H} (e : am_vI v f = some z) : ∃ x, v = .int x ∧ f x = some z := by
  cases v <;> first | exact ⟨_, rfl, e⟩ | cases e
theorem am_vJ_inv {v : Value} {f : Int64 → am_R} {z : Value × am_H} (e : am_vJ v f = some z) : ∃ x, v = .long x ∧ f x = some z := by
  cases v <;> first | exact ⟨_, rfl, e⟩ | cases e
theorem am_vR_inv {v : Value} {f : Nat → am_R} {z : Value × am_H} (e : am_vR v f = some z) : ∃ x, v = .ref x ∧ f x = some z := by
  cases v <;> first | exact ⟨_, rfl, e⟩ | cases e
theorem am_i1_inv {st : List Value} {f : Int32 → List Value → am_R} {z : Value × am_H} (e : am_i1 st f = some z) : ∃ x r, st = .int x :: r ∧ f x r = some z := by
  rcases st with _ | ⟨v, r⟩
  · cases e
  · cases v <;> first | exact ⟨_, _, rfl, e⟩ | cases e
theorem am_j1_inv {st : List Value} {f : Int64 → List Value → am_R} {z : Value × am_H} (e : am_j1 st f = some z) : ∃ x r, st = .long x :: r ∧ f x r = some z := by
  rcases st with _ | ⟨v, r⟩
  · cases e
  · cases v <;> first | exact ⟨_, _, rfl, e⟩ | cases e
theorem am_r1_inv {st : List Value} {f : Nat → List Value → am_R} {z : Value × am_H} (e : am_r1 st f = some z) : ∃ x r, st = .ref x :: r ∧ f x r = some z := by
  rcases st with _ | ⟨v, r⟩
  · cases e
  · cases v <;> first | exact ⟨_, _, rfl, e⟩ | cases e
theorem am_v1_inv {st : List Value} {f : Value → List Value → am_R} {z : Value × am_H} (e : am_v1 st f = some z) : ∃ x r, st = x :: r ∧ x.category = 1 ∧ f x r = some z := by
  rcases st with _ | ⟨v, r⟩
  · cases e
  · cases v <;> first | exact ⟨_, _, rfl, rfl, e⟩ | cases e
theorem am_i2_inv {st : List Value} {f : Int32 → Int32 → List Value → am_R} {z : Value × am_H} (e : am_i2 st f = some z) : ∃ x y r, st = .int y :: .int x :: r ∧ f x y r = some z := by
  rcases st with _ | ⟨v, _ | ⟨w, r⟩⟩
  · cases e
  · cases v <;> cases e
  · cases v <;> first | (cases e; done) | (cases w <;> first | exact ⟨_, _, _, rfl, e⟩ | cases e)
theorem am_j2_inv {st : List Value} {f : Int64 → Int64 → List Value → am_R} {z : Value × am_H} (e : am_j2 st f = some z) : ∃ x y r, st = .long y :: .long x :: r ∧ f x y r = some z := by
  rcases st with _ | ⟨v, _ | ⟨w, r⟩⟩
  · cases e
  · cases v <;> cases e
  · cases v <;> first | (cases e; done) | (cases w <;> first | exact ⟨_, _, _, rfl, e⟩ | cases e)
theorem am_ji_inv {st : List Value} {f : Int64 → Int32 → List Value → am_R} {z : Value × am_H} (e : am_ji st f = some z) : ∃ x y r, st = .int y :: .long x :: r ∧ f x y r = some z := by
  rcases st with _ | ⟨v, _ | ⟨w, r⟩⟩
  · cases e
  · cases v <;> cases e
  · cases v <;> first | (cases e; done) | (cases w <;> first | exact ⟨_, _, _, rfl, e⟩ | cases e)
theorem am_r2_inv {st : List Value} {f : Nat → Nat → List Value → am_R} {z : Value × am_H} (e : am_r2 st f = some z) : ∃ x y r, st = .ref y :: .ref x :: r ∧ f x y r = some z := by
  rcases st with _ | ⟨v, _ | ⟨w, r⟩⟩
  · cases e
  · cases v <;> cases e
  · cases v <;> first | (cases e; done) | (cases w <;> first | exact ⟨_, _, _, rfl, e⟩ | cases e)
theorem am_ir_inv {st : List Value} {f : Int32 → Nat → List Value → am_R} {z : Value × am_H} (e : am_ir st f = some z) : ∃ j q r, st = .int j :: .ref q :: r ∧ f j q r = some z := by
  rcases st with _ | ⟨v, _ | ⟨w, r⟩⟩
  · cases e
  · cases v <;> cases e
  · cases v <;> first | (cases e; done) | (cases w <;> first | exact ⟨_, _, _, rfl, e⟩ | cases e)
theorem am_vr_inv {st : List Value} {f : Value → Nat → List Value → am_R} {z : Value × am_H} (e : am_vr st f = some z) : ∃ v q r, st = v :: .ref q :: r ∧ f v q r = some z := by
  rcases st with _ | ⟨v, _ | ⟨w, r⟩⟩
  · cases e
  · cases e
  · cases w <;> first | exact ⟨_, _, _, rfl, e⟩ | cases e
theorem am_iir_inv {st : List Value} {f : Int32 → Int32 → Nat → List Value → am_R} {z : Value × am_H} (e : am_iir st f = some z) : ∃ x j q r, st = .int x :: .int j :: .ref q :: r ∧ f x j q r = some z := by
  rcases st with _ | ⟨v, _ | ⟨w, _ | ⟨u, r⟩⟩⟩
  · cases e
  · cases v <;> cases e
  · cases v <;> first | (cases e; done) | (cases w <;> cases e)
  · cases v <;> first | (cases e; done) | (cases w <;> first | (cases e; done) | (cases u <;> first | exact ⟨_, _, _, _, rfl, e⟩ | cases e))
theorem am_jir_inv {st : List Value} {f : Int64 → Int32 → Nat → List Value → am_R} {z : Value × am_H} (e : am_jir st f = some z) : ∃ x j q r, st = .long x :: .int j :: .ref q :: r ∧ f x j q r = some z := by
  rcases st with _ | ⟨v, _ | ⟨w, _ | ⟨u, r⟩⟩⟩
  · cases e
  · cases v <;> cases e
  · cases v <;> first | (cases e; done) | (cases w <;> cases e)
  · cases v <;> first | (cases e; done) | (cases w <;> first | (cases e; done) | (cases u <;> first | exact ⟨_, _, _, _, rfl, e⟩ | cases e))
theorem am_rir_inv {st : List Value} {f : Nat → Int32 → Nat → List Value → am_R} {z : Value × am_H} (e : am_rir st f = some z) : ∃ x j q r, st = .ref x :: .int j :: .ref q :: r ∧ f x j q r = some z := by
  rcases st with _ | ⟨v, _ | ⟨w, _ | ⟨u, r⟩⟩⟩
  · cases e
  · cases v <;> cases e
  · cases v <;> first | (cases e; done) | (cases w <;> cases e)
  · cases v <;> first | (cases e; done) | (cases w <;> first | (cases e; done) | (cases u <;> first | exact ⟨_, _, _, _, rfl, e⟩ | cases e))
theorem am_o1_inv {st : List Value} {f : Value → am_R} {z : Value × am_H} (e : am_o1 st f = some z) : ∃ v, st = [v] ∧ f v = some z := by
  rcases st with _ | ⟨v, _ | ⟨w, r⟩⟩
  · cases e
  · exact ⟨v, rfl, e⟩
  · cases e
theorem am_o0_inv {st : List Value} {f : am_R} {z : Value × am_H} (e : am_o0 st f = some z) : st = [] ∧ f = some z := by
  rcases st with _ | ⟨v, r⟩
  · exact ⟨rfl, e⟩
  · cases e
theorem am_cond_inv {b : Bool} {f : am_R} {z : Value × am_H} (e : cond b f none = some z) : b = true ∧ f = some z := by
  cases b
  · cases e
  · exact ⟨rfl, e⟩
theorem am_inb_inv {j : Int32} {n : Nat} {f : am_R} {z : Value × am_H} (e : am_inb j n f = some z) : vp_in j n ∧ f = some z := by
  unfold am_inb at e
  by_cases h1 : j < 0
  · rw [if_pos h1] at e; cases e
  · rw [if_neg h1] at e
    by_cases h2 : n ≤ j.toNatClampNeg
    · rw [if_pos h2] at e; cases e
    · rw [if_neg h2] at e
      exact ⟨fun h => h.elim h1 h2, e⟩
theorem am_ite_inv {c : Prop} [Decidable c] {f : am_R} {z : Value × am_H} (e : (if c then none else f) = some z) : ¬ c ∧ f = some z := by
  by_cases h : c
  · rw [if_pos h] at e; cases e
  · rw [if_neg h] at e; exact ⟨h, e⟩
theorem am_recv_inv {c : Nat} {as : List Value} {h : am_H} {f : am_R} {z : Value × am_H} (e : am_recv c as h f = some z) : f = some z ∧ (c = 0 ∨ ∃ q r, as = .ref q :: r ∧ (am_S h q).1 = c) := by
  rcases c with _ | c
  · exact ⟨e, Or.inl rfl⟩
  · rcases as with _ | ⟨v, r⟩
    · cases e
    · cases v <;> first | (cases e; done) | (obtain ⟨h1, h2⟩ := am_cond_inv e; exact ⟨h2, Or.inr ⟨_, _, rfl, Nat.eq_of_beq_eq_true h1⟩⟩)
def am_M (h : am_H) (F : am_R) : Prop := ∀ r h', F = some (r, h') → h.2.2.1 ≤ h'.2.2.1 ∧ h.2.2.2 ≤ h'.2.2.2 ∧ h.2.1.2.2 ≤ h'.2.1.2.2
theorem am_Mn {h : am_H} : am_M h none := fun _ _ e => by cases e
theorem am_Ms {h : am_H} {v : Value} : am_M h (some (v, h)) := fun _ _ e => by cases e; exact ⟨Nat.le_refl _, Nat.le_refl _, Nat.le_refl _⟩
theorem am_Mle {h h1 : am_H} {F : am_R} (k : am_M h1 F) (a : h.2.2.1 ≤ h1.2.2.1) (b : h.2.2.2 ≤ h1.2.2.2) (d : h.2.1.2.2 ≤ h1.2.1.2.2) : am_M h F := fun r h' e => by
  obtain ⟨x, y, z⟩ := k r h' e
  exact ⟨Nat.le_trans a x, Nat.le_trans b y, Nat.le_trans d z⟩
theorem am_Mite {h : am_H} {c : Prop} [Decidable c] {F G : am_R} (a : am_M h F) (b : am_M h G) : am_M h (if c then F else G) := by
  by_cases q : c
  · rw [if_pos q]; exact a
  · rw [if_neg q]; exact b
theorem am_Mb {h : am_H} {c : Bool} {F G : am_R} (a : am_M h F) (b : am_M h G) : am_M h (cond c F G) := by
  cases c
  · exact b
  · exact a
theorem am_Mbind {h : am_H} {F : am_R} {G : Value × am_H → am_R} (a : am_M h F) (b : ∀ x, am_M x.2 (G x)) : am_M h (F.bind G) := fun r h' e => by
  obtain ⟨x, h1, h2⟩ := Option.bind_eq_some_iff.mp e
  obtain ⟨p, q, z⟩ := a x.1 x.2 h1
  obtain ⟨p', q', z'⟩ := b x r h' h2
  exact ⟨Nat.le_trans p p', Nat.le_trans q q', Nat.le_trans z z'⟩
theorem am_Minb {h : am_H} {j : Int32} {n : Nat} {F : am_R} (a : am_M h F) : am_M h (am_inb j n F) := fun r h' e => a r h' (am_inb_inv e).2
theorem am_Mbr {h : am_H} {cnd : ClassFile.Cond} {x y : Int32} {F G : am_R} (a : am_M h F) (b : am_M h G) : am_M h (am_br cnd x y F G) := by
  rcases am_br_or cnd x y with q | q <;> rw [q]
  · exact a
  · exact b
theorem am_Mabr {h : am_H} {cnd : ClassFile.ACond} {x y : Nat} {F G : am_R} (a : am_M h F) (b : am_M h G) : am_M h (am_abr cnd x y F G) := by
  cases cnd
  · exact am_Mite a b
  · exact am_Mite b a
theorem am_Msel {h : am_H} {k : Nat → am_R} (a : ∀ t, am_M h (k t)) (x : Int32) (d : Nat) : ∀ (ts : List Nat) (lo : Int32), am_M h (am_sel k x d lo ts)
  | [], _ => a d
  | t :: ts, lo => am_Mite (a t) (am_Msel a x d ts (lo + 1))
theorem am_Mthr {h : am_H} {a : Nat} {as : List Value} {F G J : am_R} (hF : am_M h F) (hG : am_M h G) (hJ : am_M h J) : am_M h (am_thr a as F G J) := by
  rcases am_thr_or a as with q | q | q | q <;> rw [q]
  · exact am_Mn
  · exact hF
  · exact hG
  · exact hJ
theorem am_Mokw {h : am_H} {a : Nat} {as : List Value} {F : am_R} (hF : am_M h F) : am_M h (am_okw a as h F) := by
  rcases am_okw_or a as h with q | q <;> rw [q]
  · exact am_Mn
  · exact hF
theorem am_Mout {h : am_H} {a : Nat} {as : List Value} {v : Value} {k : am_H → am_R} (hk : ∀ x, am_M x (k x)) : am_M h (am_out a as v h k) := by
  have hJ : ∀ o q (x : Int64), am_M h (k (am_sJ h o q x)) := fun o q x => am_Mle (hk _) (Nat.le_refl _) (Nat.le_refl _) (Nat.le_refl _)
  unfold am_out
  split
  · exact hk _
  · split
    · refine am_Mb (am_Minb ?_) am_Mn
      intro r h' e
      obtain ⟨x, -, e⟩ := am_vI_inv e
      exact am_Mite (hJ _ _ _) (hJ _ _ _) r h' e
    · exact am_Mn
  · split
    · refine am_Mb (am_Minb ?_) am_Mn
      intro r h' e
      obtain ⟨x, -, e⟩ := am_vI_inv e
      exact hJ _ _ _ r h' e
    · exact am_Mn
theorem am_Mback {h : am_H} {t : Nat} {v : Value} {r : List Value} {k : List Value → am_R} (hk : ∀ x, am_M h (k x)) : am_M h (am_back t v r k) := by
  rcases t with _ | _ | _ | _ | t
  · exact hk _
  · intro z h' e; obtain ⟨x, -, e⟩ := am_vI_inv e; exact hk _ z h' e
  · intro z h' e; obtain ⟨x, -, e⟩ := am_vJ_inv e; exact hk _ z h' e
  · intro z h' e; obtain ⟨x, -, e⟩ := am_vR_inv e; exact hk _ z h' e
  · intro z h' e; obtain ⟨x, -, e⟩ := am_vI_inv e; exact hk _ z h' e
theorem am_fin_inv {m : Nat} {v : Value} {h : am_H} {z : Value × am_H} (e : am_fin m v h = some z) : z = (v, h) ∧ am_rt m ≠ 0 := by
  unfold am_fin at e
  split at e
  · rename_i h1; exact ⟨(Option.some.inj e).symm, by omega⟩
  · rename_i h1; exact ⟨(Option.some.inj e).symm, by omega⟩
  · rename_i h1; exact ⟨(Option.some.inj e).symm, by omega⟩
  · rename_i h1; obtain ⟨-, e⟩ := am_cond_inv e; exact ⟨(Option.some.inj e).symm, by omega⟩
  · rename_i h1; obtain ⟨-, e⟩ := am_ite_inv e; obtain ⟨-, e⟩ := am_ite_inv e; exact ⟨(Option.some.inj e).symm, by omega⟩
  · rename_i h1; split at e
    · exact ⟨(Option.some.inj e).symm, by omega⟩
    · cases e
  · cases e
theorem am_Mfin {m : Nat} {v : Value} {h : am_H} : am_M h (am_fin m v h) := fun r h' e => by
  obtain ⟨q, -⟩ := am_fin_inv e
  cases q
  exact ⟨Nat.le_refl _, Nat.le_refl _, Nat.le_refl _⟩
theorem am_run_inv {K : am_K} {a : Nat} {as : List Value} {h : am_H} {k : Value × am_H → am_R} {z : Value × am_H} (e : am_run K a as h k = some z) : (am_exp as).length ≤ am_nL a ∧ ∃ x, K a 0 (am_ent as (am_nL a)) [] h = some x ∧ k x = some z := by
  obtain ⟨h1, e⟩ := am_cond_inv e
  obtain ⟨x, h2, h3⟩ := Option.bind_eq_some_iff.mp e
  exact ⟨Nat.le_of_ble_eq_true h1, x, h2, h3⟩
theorem am_Mrun {K : am_K} (hK : ∀ m i ls st h, am_M h (K m i ls st h)) {a : Nat} {as : List Value} {h : am_H} {k : Value × am_H → am_R} (hk : ∀ x, am_M x.2 (k x)) : am_M h (am_run K a as h k) := am_Mb (am_Mbind (hK _ _ _ _ _) hk) am_Mn
theorem am_Mcall {K : am_K} (hK : ∀ m i ls st h, am_M h (K m i ls st h)) (m i : Nat) (ls st : List Value) (h : am_H) (a b c : Nat) : am_M h (am_call K m i ls st h a b c) := by
  unfold am_call
  refine am_Mb (am_Mb ?_ (am_Mb ?_ (am_Mb ?_ ?_))) am_Mn
  · intro r h' e
    obtain ⟨-, e⟩ := am_cond_inv e
    obtain ⟨x, t, -, e⟩ := am_r1_inv e
    exact am_Mb (hK _ _ _ _ _) am_Mn r h' e
  · refine am_Mokw (am_Mthr ?_ ?_ ?_)
    · exact am_Mle (hK _ _ _ _ _) (Nat.le_add_right _ _) (Nat.le_add_right _ _) (Nat.le_refl _)
    · exact am_Mle (hK _ _ _ _ _) (Nat.le_add_right _ _) (Nat.le_add_right _ _) (Nat.le_refl _)
    · exact am_Mrun hK fun x => am_Mout fun y => hK _ _ _ _ _
  · intro r h' e
    obtain ⟨-, e⟩ := am_cond_inv e
    obtain ⟨e, -⟩ := am_recv_inv e
    refine am_Mrun hK (fun x => ?_) r h' e
    intro r h' e
    obtain ⟨y, -, e⟩ := am_vI_inv e
    have hw : am_M x.2 (K m (i + 1) (ls.map am_ren) (.int y :: (st.drop b).map am_ren) (am_swap x.2)) := am_Mle (hK _ _ _ _ (am_swap x.2)) (Nat.le_refl _) (Nat.le_refl _) (Nat.le_refl _)
    exact am_Mb (hK _ _ _ _ _) hw r h' e
  · intro r h' e
    obtain ⟨e, -⟩ := am_recv_inv e
    exact am_Mrun hK (fun x => am_Mback fun y => hK _ _ _ _ _) r h' e
theorem am_Mnew {h : am_H} {kd len : Nat} {F : am_R} (k : am_M (am_new h kd len) F) : am_M h F := am_Mle k (Nat.le_add_right _ _) (Nat.le_add_right _ _) (Nat.le_add_right _ _)
set_option maxHeartbeats 4000000 in
theorem am_Mstep {K : am_K} (hK : ∀ m i ls st h, am_M h (K m i ls st h)) (m i : Nat) (ls st : List Value) (h : am_H) : am_M h (am_step K m i ls st h) := by
  unfold am_step
  rcases am_ins m i with ⟨ir, a, b, c⟩
  have hSI : ∀ m i ls st q k v, am_M h (K m i ls st (am_sI h q k v)) := fun m i ls st q k v => am_Mle (hK m i ls st _) (Nat.le_refl _) (Nat.le_refl _) (Nat.le_refl _)
  have hSJ : ∀ m i ls st q k v, am_M h (K m i ls st (am_sJ h q k v)) := fun m i ls st q k v => am_Mle (hK m i ls st _) (Nat.le_refl _) (Nat.le_refl _) (Nat.le_refl _)
  have hST : ∀ m i ls st q k v, am_M h (K m i ls st (am_sT h q k v)) := fun m i ls st q k v => am_Mle (hK m i ls st _) (Nat.le_refl _) (Nat.le_refl _) (Nat.le_refl _)
  have hR : ∀ m i ls st q k v, am_M h (K m i ls st (am_sR h q k v)) := fun m i ls st q k v => am_Mle (hK m i ls st _) (Nat.le_refl _) (Nat.le_refl _) (Nat.le_refl _)
  cases ir <;> dsimp only <;> first
    | exact am_Mn
    | exact hK _ _ _ _ _
    | exact am_Mcall hK _ _ _ _ _ _ _ _
    | exact am_Mb (hK _ _ _ _ _) (hK _ _ _ _ _)
    | exact am_Mb (am_Mnew (hK _ _ _ _ _)) am_Mn
    | (intro r h' e; obtain ⟨x, -, e⟩ := am_vI_inv e; exact hK _ _ _ _ _ _ _ e)
    | (intro r h' e; obtain ⟨x, -, e⟩ := am_vJ_inv e; exact hK _ _ _ _ _ _ _ e)
    | (intro r h' e; obtain ⟨x, -, e⟩ := am_vR_inv e; exact hK _ _ _ _ _ _ _ e)
    | (intro r h' e; obtain ⟨x, t, -, e⟩ := am_i1_inv e; exact hK _ _ _ _ _ _ _ e)
    | (intro r h' e; obtain ⟨x, t, -, e⟩ := am_j1_inv e; exact hK _ _ _ _ _ _ _ e)
    | (intro r h' e; obtain ⟨x, t, -, e⟩ := am_r1_inv e; exact hK _ _ _ _ _ _ _ e)
    | (intro r h' e; obtain ⟨x, t, -, -, e⟩ := am_v1_inv e; exact hK _ _ _ _ _ _ _ e)
    | (intro r h' e; obtain ⟨x, y, t, -, e⟩ := am_i2_inv e; exact hK _ _ _ _ _ _ _ e)
    | (intro r h' e; obtain ⟨x, y, t, -, e⟩ := am_i2_inv e; exact am_Mite am_Mn (hK _ _ _ _ _) _ _ e)
    | (intro r h' e; obtain ⟨x, y, t, -, e⟩ := am_j2_inv e; exact hK _ _ _ _ _ _ _ e)
    | (intro r h' e; obtain ⟨x, y, t, -, e⟩ := am_ji_inv e; exact hK _ _ _ _ _ _ _ e)
    | (intro r h' e; obtain ⟨x, y, t, -, e⟩ := am_ir_inv e; exact hK _ _ _ _ _ _ _ e)
    | (intro r h' e; obtain ⟨x, t, -, e⟩ := am_i1_inv e; exact am_Mbr (hK _ _ _ _ _) (hK _ _ _ _ _) _ _ e)
    | (intro r h' e; obtain ⟨x, y, t, -, e⟩ := am_i2_inv e; exact am_Mbr (hK _ _ _ _ _) (hK _ _ _ _ _) _ _ e)
    | (intro r h' e; obtain ⟨x, y, t, -, e⟩ := am_r2_inv e; exact am_Mb (am_Mabr (hK _ _ _ _ _) (hK _ _ _ _ _)) am_Mn _ _ e)
    | (intro r h' e; obtain ⟨x, t, -, e⟩ := am_r1_inv e; exact am_Mb (am_Mite (hK _ _ _ _ _) (hK _ _ _ _ _)) am_Mn _ _ e)
    | (intro r h' e; obtain ⟨x, t, -, e⟩ := am_i1_inv e; exact am_Msel (fun t => hK _ _ _ _ _) _ _ _ _ _ _ e)
    | (intro r h' e; obtain ⟨x, t, -, e⟩ := am_r1_inv e; exact am_Mb (am_Mb (hK _ _ _ _ _) (am_Mb (hK _ _ _ _ _) (am_Mb (hK _ _ _ _ _) (am_Mb (hK _ _ _ _ _) (am_Mb (hK _ _ _ _ _) (am_Mb (hK _ _ _ _ _) am_Mn)))))) am_Mn _ _ e)
    | (intro r h' e; obtain ⟨x, t, -, e⟩ := am_r1_inv e; exact am_Mb (hK _ _ _ _ _) am_Mn _ _ e)
    | (intro r h' e; obtain ⟨x, y, t, -, e⟩ := am_ir_inv e; exact am_Mb (am_Minb (hK _ _ _ _ _)) am_Mn _ _ e)
    | (intro r h' e; obtain ⟨x, y, t, -, e⟩ := am_ir_inv e; exact am_Mb (am_Minb (hK _ _ _ _ _)) (am_Mb (am_Minb (hK _ _ _ _ _)) am_Mn) _ _ e)
    | (intro r h' e; obtain ⟨x, j, y, t, -, e⟩ := am_iir_inv e; exact am_Mb (am_Minb (hSI _ _ _ _ _ _ _)) am_Mn _ _ e)
    | (intro r h' e; obtain ⟨x, j, y, t, -, e⟩ := am_iir_inv e; exact am_Mb (am_Minb (am_Mb (hSI _ _ _ _ _ _ _) am_Mn)) am_Mn _ _ e)
    | (intro r h' e; obtain ⟨x, j, y, t, -, e⟩ := am_jir_inv e; exact am_Mb (am_Minb (hSJ _ _ _ _ _ _ _)) am_Mn _ _ e)
    | (intro r h' e; obtain ⟨x, j, y, t, -, e⟩ := am_rir_inv e; exact am_Mb (am_Minb (am_Mb (hST _ _ _ _ _ _ _) am_Mn)) am_Mn _ _ e)
    | (intro r h' e; obtain ⟨x, t, -, e⟩ := am_i1_inv e; exact am_Mite am_Mn (am_Mite am_Mn (am_Mb (am_Mnew (hK _ _ _ _ _)) am_Mn)) _ _ e)
    | (intro r h' e; obtain ⟨v, -, e⟩ := am_o1_inv e; obtain ⟨x, -, e⟩ := am_vI_inv e; exact am_Mfin _ _ e)
    | (intro r h' e; obtain ⟨v, -, e⟩ := am_o1_inv e; obtain ⟨x, -, e⟩ := am_vJ_inv e; exact am_Mfin _ _ e)
    | (intro r h' e; obtain ⟨v, -, e⟩ := am_o1_inv e; obtain ⟨x, -, e⟩ := am_vR_inv e; exact am_Mfin _ _ e)
    | (intro r h' e; obtain ⟨-, e⟩ := am_o0_inv e; exact am_Mb am_Ms am_Mn _ _ e)
    | (intro r h' e
       obtain ⟨v, q, t, -, e⟩ := am_vr_inv e
       refine am_Mb (am_Mb ?_ (am_Mb ?_ (am_Mb ?_ (am_Mb ?_ am_Mn)))) am_Mn _ _ e
       · intro r h' e; obtain ⟨x, -, e⟩ := am_vI_inv e; exact hSI _ _ _ _ _ _ _ _ _ e
       · intro r h' e; obtain ⟨x, -, e⟩ := am_vJ_inv e; exact hSJ _ _ _ _ _ _ _ _ _ e
       · intro r h' e; obtain ⟨x, -, e⟩ := am_vR_inv e; exact hR _ _ _ _ _ _ _ _ _ e
       · intro r h' e; obtain ⟨x, -, e⟩ := am_vI_inv e; exact am_Mb (hSI _ _ _ _ _ _ _) am_Mn _ _ e)
theorem am_Mex : ∀ (n m i : Nat) (ls st : List Value) (h : am_H), am_M h (am_ex n m i ls st h)
  | 0, _, _, _, _, _ => am_Mn
  | n + 1, m, i, ls, st, h => am_Mstep (am_Mex n) m i ls st h

/-! AN INVOCATION of a method of the tables: what its walk stands on, what a callee's contract is. -/
def am_vd (n : Nat) (v : Value) : Prop := match v with
  | .ref q => q ≤ n ∨ 1000 < q
  | .int _ => True
  | .long _ => True
  | .null => True
  | _ => False
def am_vs (n : Nat) (l : List Value) : Prop := ∀ v ∈ l, am_vd n v
theorem am_vs.tl {n : Nat} {v : Value} {l : List Value} (h : am_vs n (v :: l)) : am_vs n l := fun w hw => h w (List.mem_cons_of_mem _ hw)
theorem am_vs.hd {n : Nat} {v : Value} {l : List Value} (h : am_vs n (v :: l)) : am_vd n v := h v List.mem_cons_self
theorem am_vs.cons {n : Nat} {v : Value} {l : List Value} (a : am_vd n v) (h : am_vs n l) : am_vs n (v :: l) := fun w hw => (List.mem_cons.mp hw).elim (fun e => e ▸ a) (h w)
theorem am_vs.nil {n : Nat} : am_vs n [] := fun _ h => absurd h List.not_mem_nil
theorem am_vd.le {n k : Nat} (hk : n ≤ k) {v : Value} (h : am_vd n v) : am_vd k v := by
  cases v <;> first | exact h | exact h.elim (fun z => Or.inl (Nat.le_trans z hk)) Or.inr
theorem am_vs.le {n k : Nat} (hk : n ≤ k) {l : List Value} (h : am_vs n l) : am_vs k l := fun v hv => (h v hv).le hk
theorem am_vs.at {n i : Nat} {ls : List Value} (h : am_vs n ls) {v : Value} (hv : ls.getD i .null = v) : am_vd n v := by
  rw [List.getD_eq_getElem?_getD] at hv
  cases h1 : ls[i]? with
  | none => rw [h1] at hv; rw [← hv]; exact trivial
  | some w => rw [h1] at hv; rw [← hv]; exact h w (List.mem_of_getElem? h1)
theorem am_kl_ok {n : Nat} {v : Value} (h : am_vd n v) : am_vd n (am_kl v) := by cases v <;> first | exact h | exact trivial
theorem am_vs.st1 {n : Nat} {v : Value} : ∀ {ls : List Value} {i : Nat}, am_vs n ls → am_vd n v → am_vs n (am_st1 ls i v)
  | [], _, _, _ => am_vs.nil
  | _ :: _, 0, h, hv => am_vs.cons hv h.tl
  | _ :: r, 1, h, hv => am_vs.cons (am_kl_ok h.hd) (am_vs.st1 (ls := r) (i := 0) h.tl hv)
  | _ :: r, k + 2, h, hv => am_vs.cons h.hd (am_vs.st1 (ls := r) (i := k + 1) h.tl hv)
theorem am_vs.set {n : Nat} {v : Value} {ls : List Value} {i : Nat} (h : am_vs n ls) (hv : am_vd n v) : am_vs n (ls.set i v) := fun w hw => (List.mem_or_eq_of_mem_set hw).elim (h w) (fun e => e ▸ hv)
theorem am_vs.st2 {n : Nat} {v : Value} {ls : List Value} {i : Nat} (h : am_vs n ls) (hv : am_vd n v) : am_vs n (am_st2 ls i v) := ((h.st1 (v := .null) trivial).set hv).set (v := .null) trivial
theorem am_vs.exp {n : Nat} : ∀ {as : List Value}, am_vs n as → am_vs n (am_exp as)
  | [], _ => am_vs.nil
  | v :: as, h => by
    have ih := am_vs.exp (as := as) h.tl
    have hv := h.hd
    cases v <;> first | exact am_vs.cons hv ih | exact am_vs.cons hv (am_vs.cons trivial ih)
theorem am_vs.ent {n k : Nat} {as : List Value} (h : am_vs n as) : am_vs n (am_ent as k) := fun v hv => (List.mem_append.mp hv).elim (h.exp v) (fun h => by rw [List.eq_of_mem_replicate h]; exact trivial)
theorem am_vs.long {n : Nat} {as : List Value} (h : am_vs n as) : ∀ v ∈ as, v.category = 2 → ∃ x, v = .long x := fun v hv hc => by
  have := h v hv
  cases v <;> first | exact ⟨_, rfl⟩ | exact this.elim | cases hc
theorem am_cv_eq {n : Nat} {ad ad' : Nat → Option Nat} (h1 : ∀ q, q ≤ n → ad' q = ad q) (h2 : ∀ q, 1000 < q → ad' q = ad q) {v : Value} (h : am_vd n v) : am_cv ad' v = am_cv ad v := by
  cases v <;> first | rfl | exact congrArg va_rf (h.elim (h1 _) (h2 _))
theorem am_cvs_eq {n : Nat} {ad ad' : Nat → Option Nat} (h1 : ∀ q, q ≤ n → ad' q = ad q) (h2 : ∀ q, 1000 < q → ad' q = ad q) {l : List Value} (h : am_vs n l) : l.map (am_cv ad') = l.map (am_cv ad) := List.map_congr_left fun v hv => am_cv_eq h1 h2 (h v hv)
theorem am_Lr.ad {n nL : Nat} {ad ad' : Nat → Option Nat} {ls : List Value} {Ls : Array Slot} (h : am_Lr ad nL ls Ls) (h1 : ∀ q, q ≤ n → ad' q = ad q) (h2 : ∀ q, 1000 < q → ad' q = ad q) (hv : am_vs n ls) : am_Lr ad' nL ls Ls :=
  ⟨h.1, h.2.1, fun i v a b => by rw [am_cv_eq h1 h2 (hv v (List.mem_of_getElem? a))]; exact h.2.2 i v a b⟩
def am_Ctx (p : Program) (s : State) (m : MethodId) (args : Array Value) (meth : Method) (c : Code) (k : Nat) : Prop :=
  p.tables.exec = Jvm.exec ∧ c.code = am_bc k ∧ c.maxLocals = am_nL k ∧ s.vm.findClass (am_own k) = some m.cls ∧ (∀ w ∈ am_good, w.before args s = true) ∧ ((am_y k).name = "<init>" → meth.name = "<init>")
def am_Fx (G : va_G) (cA : Nat → ClassId) (L : Nat) (xs : Nat → Int32) (adc : Nat → Option Nat) (A : Nat → Prop) (s : State) : Prop := va_K G vwCl (am_tys cA) s ∧ am_Cst L xs adc A s s.heap ∧ ∀ q, s.heap.size ≤ q → A q
def am_Wd (G : va_G) (cA : Nat → ClassId) (L : Nat) (xs : Nat → Int32) (adc : Nat → Option Nat) (A : Nat → Prop) (s : State) (ad : Nat → Option Nat) (h : am_H) (H : Heap) (locs : List Loc) : Prop := va_P G vwCl (am_ws cA ad h) H ∧ va_D A (am_ws cA ad h) ∧ va_S A s.heap H locs ∧ am_gd L xs adc ad h
def am_ri (t : Nat) : Instr := match t with
  | 0 => .return_
  | 2 => .lreturn
  | 3 => .areturn
  | _ => .ireturn
def am_rs (t : Nat) (v : Value) : List Value := match t with
  | 0 => []
  | _ => [v]
def am_rv (t : Nat) (v : Value) : Option Value := match t with
  | 0 => none
  | _ => some v
/-- words of a method: its code, and all that are good -/
def am_wsm (k : Nat) : List Cond := Cond.code (am_y k) (am_bc k) (am_nL k) (am_rty k) :: am_good
def am_rm (k : Nat) (h h1 : am_H) : Room := { frames := am_fr k, cells := h1.2.2.1 - h.2.2.1, slots := h1.2.2.2 - h.2.2.2, locals := am_lo k }
def am_Pc (G : va_G) (cA : Nat → ClassId) (L : Nat) (xs : Nat → Int32) (adc ad : Nat → Option Nat) (h : am_H) (sz : Nat) (as : List Value) : Array Value → State → Prop :=
  va_Pc (as.map (am_cv ad)) (fun U => U.heap.size = sz ∧ va_P G vwCl (am_ws cA ad h) U.heap ∧ va_K G vwCl (am_tys cA) U ∧ va_D (fun _ => True) (am_ws cA ad h) ∧ am_Cst L xs adc (va_A (am_ws cA ad h) sz) U U.heap)
def am_Qc (G : va_G) (cA : Nat → ClassId) (L : Nat) (xs : Nat → Int32) (adc ad : Nat → Option Nat) (h h1 : am_H) (sz k : Nat) (r : Value) : Array Value → State → Outcome → State → Prop := fun _ st oc t =>
  (∃ ad' : Nat → Option Nat, oc = .returned (am_rv (am_rt k) (am_cv ad' r)) ∧ va_P G vwCl (am_ws cA ad' h1) t.heap ∧ va_D (va_A (am_ws cA ad h) sz) (am_ws cA ad' h1) ∧ am_gd L xs adc ad' h1 ∧ (∀ q, q ≤ h.2.1.2.2 → ad' q = ad q) ∧ am_vd h1.2.1.2.2 r) ∧ va_F (va_A (am_ws cA ad h) sz) st t
theorem am_Pc_blind {G : va_G} {cA : Nat → ClassId} {L : Nat} {xs : Nat → Int32} {adc ad : Nat → Option Nat} {h : am_H} {sz : Nat} {as : List Value} : FrameBlind (am_Pc G cA L xs adc ad h sz as) := fun a U g mk ⟨ha, hsz, hP, hK, hD, hC⟩ =>
  ⟨ha, hsz, hP, va_K.moved (u := U) (U := U.calling g mk a) (Vm.Alike.refl U.vm) hK, hD, am_Cst.move (U := U.calling g mk a) hC (State.WarmedH.refl U) (fun _ _ _ => rfl) (Nat.le_refl _) (fun _ _ h => h)⟩
/-- the contract of every method that comes to an answer within n steps -/
def am_Met (l : Launch) (n : Nat) : Prop := ∀ (k : Nat) (as : List Value) (h h1 : am_H) (r : Value), k < 179 → am_ex n k 0 (am_ent as (am_nL k)) [] h = some (r, h1) → (am_exp as).length ≤ am_nL k → am_vs h.2.1.2.2 as →
  ∀ (G : va_G) (cA : Nat → ClassId) (L : Nat) (xs : Nat → Int32) (adc ad : Nat → Option Nat) (sz : Nat), am_gd L xs adc ad h →
    Met l (am_y k) (am_wsm k) (am_rm k h h1) (am_Pc G cA L xs adc ad h sz as) (am_Qc G cA L xs adc ad h h1 sz k r) (h1.2.2.1 - h.2.2.1) (h1.2.2.2 - h.2.2.2) (va_A (am_ws cA ad h) sz)
theorem am_wsm_good {k : Nat} (hk : k < 179) : GoodIn am_good (am_wsm k) := fun w hw => by
  rcases List.mem_cons.mp hw with rfl | h
  · exact ⟨am_code_ok k hk, am_good_word (am_code_ok k hk)⟩
  · exact ⟨h, am_good_word h⟩
theorem am_ck {k : Nat} (hk : k < 180) (i : Nat) : am_chk k i = true := by
  by_cases h : i / 16 < (am_cc k).length
  · have := List.all_eq_true.mp (am_k_all k hk (i / 16) h) (i % 16) (List.mem_range.mpr (Nat.mod_lt _ (by decide)))
    rw [show 16 * (i / 16) + i % 16 = i from Nat.div_add_mod i 16] at this
    exact this
  · have e : am_ins k i = (.nop, 0, 0, 0) := by
      show (((am_cc k).getD (i / 16) []).getD (i % 16) (.nop, 0, 0, 0)) = _
      rw [show (am_cc k).getD (i / 16) [] = [] by rw [List.getD_eq_getElem?_getD, List.getElem?_eq_none (by omega)]; rfl]
      rfl
    unfold am_chk
    rw [e]
    rfl
theorem am_rk {k : Nat} (hk : k < 180) (i : Nat) : am_rk1 k i = true := by
  by_cases h : i < 16 * (am_cc k).length
  · exact List.all_eq_true.mp (List.all_eq_true.mp am_rk_all k (List.mem_range.mpr hk)) i (List.mem_range.mpr h)
  · have e : am_ins k i = (.nop, 0, 0, 0) := by
      show (((am_cc k).getD (i / 16) []).getD (i % 16) (.nop, 0, 0, 0)) = _
      rw [show (am_cc k).getD (i / 16) [] = [] by rw [List.getD_eq_getElem?_getD, List.getElem?_eq_none (by omega)]; rfl]
      rfl
    unfold am_rk1
    rw [e]
section AMS
variable {p : Program} {l : Launch} {e : Env} {R : Room} {s : State} {m : MethodId} {args : Array Value} {below : List Frame} {meth : Method} {c : Code} {Q : State → Prop}
/-- the walk from every place, with n steps left, to the answer rf -/
def am_G (p : Program) (l : Launch) (e : Env) (R : Room) (s : State) (m : MethodId) (args : Array Value) (below : List Frame) (meth : Method) (c : Code) (Q : State → Prop) (G : va_G) (cA : Nat → ClassId) (L : Nat) (xs : Nat → Int32) (adc : Nat → Option Nat) (A : Nat → Prop) (k : Nat) (E : (Nat → Option Nat) → Prop) (n0 c0 s0 : Nat) (rf : Value) (hf : am_H) (n : Nat) : Prop :=
  ∀ (i : Nat) (ls st : List Value) (h : am_H) (ad : Nat → Option Nat) (H : Heap) (locs : List Loc) (Ls : Array Slot), am_ex n k i ls st h = some (rf, hf) → am_Wd G cA L xs adc A s ad h H locs → am_Lr ad (am_nL k) ls Ls → am_vs h.2.1.2.2 ls → am_vs h.2.1.2.2 st → E ad → n0 ≤ h.2.1.2.2 → c0 ≤ h.2.2.1 → s0 ≤ h.2.2.2 →
    W p l e R s m args below meth c H locs (h.2.2.1 - c0) (h.2.2.2 - s0) Q (F0 m (am_pc k i) Ls (st.map (am_cv ad)))
def am_Hend (p : Program) (l : Launch) (e : Env) (R : Room) (s : State) (m : MethodId) (args : Array Value) (below : List Frame) (meth : Method) (c : Code) (Q : State → Prop) (G : va_G) (cA : Nat → ClassId) (L : Nat) (xs : Nat → Int32) (adc : Nat → Option Nat) (A : Nat → Prop) (k : Nat) (E : (Nat → Option Nat) → Prop) (c0 s0 : Nat) (rf : Value) (hf : am_H) : Prop :=
  ∀ (ad : Nat → Option Nat) (H : Heap) (locs : List Loc) (Ls : Array Slot) (pcr : Nat), E ad → am_Wd G cA L xs adc A s ad hf H locs → am_vd hf.2.1.2.2 rf → (am_rt k ≠ 0 → am_fin k rf hf = some (rf, hf)) → decode (am_bc k) pcr = .ok (am_ri (am_rt k), 1) →
    W p l e R s m args below meth c H locs (hf.2.2.1 - c0) (hf.2.2.2 - s0) Q (F0 m pcr Ls (am_rs (am_rt k) (am_cv ad rf)))
/-- behind a call -/
theorem am_after {G : va_G} {cA : Nat → ClassId} {L : Nat} {xs : Nat → Int32} {adc ad : Nat → Option Nat} {A : Nat → Prop} {h h1 : am_H} {H : Heap} {locs : List Loc} {cells slots mc ms pc sz a : Nat} {ls : Array Slot} {st0 rest : List Value} {r : Value} {av : Array Value}
    (hr : va_Run p l e R s m args below meth c H locs cells slots mc ms (F0 m pc ls st0) rest (am_Qc G cA L xs adc ad h h1 sz a r av) (va_A (am_ws cA ad h) sz)) (hA : ∀ q, va_A (am_ws cA ad h) sz q → A q) (hS : va_S A s.heap H locs)
    (kk : ∀ (ad' : Nat → Option Nat) (H1 : Heap) (locs1 : List Loc), am_Wd G cA L xs adc A s ad' h1 H1 locs1 → (∀ q, q ≤ h.2.1.2.2 → ad' q = ad q) → am_vd h1.2.1.2.2 r → W p l e R s m args below meth c H1 locs1 (cells + mc) (slots + ms) Q (F0 m (pc + 3) ls ((am_rv (am_rt a) (am_cv ad' r)).toList ++ rest))) :
    W p l e R s m args below meth c H locs cells slots Q (F0 m pc ls st0) := by
  intro T hT X
  obtain ⟨v, st₀, t, T', Lc, h0, X', hL, e1, e2, ⟨⟨ad', hv, hP, hD, hg, had, hrv⟩, hz, hk⟩, st⟩ := hr T hT X
  cases hv
  rw [h0] at hz hk
  obtain ⟨t2, a1, b1⟩ := kk ad' T'.heap (locs ++ Lc) ⟨by rw [e1]; exact hP, hD.weaken (fun _ _ _ z => hA _ z), ⟨Nat.le_trans hS.1 (by rw [e1]; exact hz), fun q h1 h2 => by rw [e1, hk q (Nat.lt_of_lt_of_le h1 hS.1) (fun z => h2 (hA q z))]; exact hS.2.1 q h1 h2, fun q hq => by
      rcases List.mem_append.mp hq with h | h
      · exact hS.2.2 q h
      · exact hA _ (hL q h)⟩, hg⟩ had hrv T' rfl X'
  exact ⟨t2, st t2 a1, b1⟩
end AMS

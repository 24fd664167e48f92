/-! WHAT THE ABSTRACT WORLD MEANS on the machine's heap. -/
def am_cv (ad : Nat → Option Nat) (v : Value) : Value := match v with
  | .ref q => va_rf (ad q)
  | v => v
theorem am_rf_cat (r : Option Nat) : (va_rf r).category = 1 := by cases r <;> rfl
theorem am_cv_cat (ad : Nat → Option Nat) (v : Value) : (am_cv ad v).category = v.category := by
  cases v <;> first | rfl | exact am_rf_cat _
/-- the locals -/
def am_Lr (ad : Nat → Option Nat) (nL : Nat) (ls : List Value) (Ls : Array Slot) : Prop := Ls.size = nL ∧ lv_wf Ls ∧ ∀ (i : Nat) (v : Value), ls[i]? = some v → v ≠ .null → Ls[i]? = some (.val (am_cv ad v))
def am_one (ad : Nat → Option Nat) (i : Nat) (v : Value) : List (Nat × Value) := match v with
  | .null => []
  | v => [(i, am_cv ad v)]
theorem am_one_mem {ad : Nat → Option Nat} {i : Nat} {v : Value} {q : Nat × Value} : q ∈ am_one ad i v ↔ v ≠ .null ∧ q = (i, am_cv ad v) := by
  cases v <;> simp [am_one]
def am_ll (ad : Nat → Option Nat) : Nat → List Value → List (Nat × Value)
  | _, [] => []
  | i, v :: r => am_one ad i v ++ am_ll ad (i + 1) r
theorem am_ll_mem {ad : Nat → Option Nat} {q : Nat × Value} : ∀ {ls : List Value} {k : Nat}, q ∈ am_ll ad k ls ↔ ∃ i v, ls[i]? = some v ∧ v ≠ .null ∧ q = (k + i, am_cv ad v)
  | [], k => by simp [am_ll]
  | w :: ls, k => by
    rw [am_ll, List.mem_append, am_one_mem, am_ll_mem]
    constructor
    · rintro (⟨h1, h2⟩ | ⟨i, v, h1, h2, h3⟩)
      · exact ⟨0, w, rfl, h1, h2⟩
      · exact ⟨i + 1, v, h1, h2, by rw [h3]; congr 1; omega⟩
    · rintro ⟨i, v, h1, h2, h3⟩
      rcases i with _ | i
      · simp at h1
        subst h1
        exact Or.inl ⟨h2, h3⟩
      · exact Or.inr ⟨i, v, by simpa using h1, h2, by rw [h3]; congr 1; omega⟩
theorem am_Lr.has {ad : Nat → Option Nat} {nL : Nat} {ls : List Value} {Ls : Array Slot} (h : am_Lr ad nL ls Ls) : lv_has Ls nL (am_ll ad 0 ls) := by
  refine ⟨h.1, h.2.1, fun q hq => ?_⟩
  obtain ⟨i, v, h1, h2, h3⟩ := am_ll_mem.mp hq
  subst h3
  simpa using h.2.2 i v h1 h2
theorem am_Lr.at {ad : Nat → Option Nat} {nL : Nat} {ls : List Value} {Ls : Array Slot} (h : am_Lr ad nL ls Ls) {i : Nat} {v : Value} (hv : ls.getD i .null = v) (hn : v ≠ .null) : Ls[i]? = some (.val (am_cv ad v)) := by
  refine h.2.2 i v ?_ hn
  rw [List.getD_eq_getElem?_getD] at hv
  cases h1 : ls[i]? with
  | none => rw [h1] at hv; exact absurd hv.symm hn
  | some w => rw [h1] at hv; exact congrArg some hv
theorem am_kl_eq {v w : Value} (h : am_kl v = w) (hw : w ≠ .null) : v = w ∧ w.category = 1 := by
  cases v <;> first | exact ⟨h, by rw [← h]; rfl⟩ | exact absurd h.symm hw
theorem am_st1_get : ∀ (ls : List Value) (i : Nat) (v : Value) (j : Nat) (w : Value), (am_st1 ls i v)[j]? = some w → w ≠ .null → (j = i ∧ w = v) ∨ (j ≠ i ∧ ls[j]? = some w ∧ ¬ (j + 1 = i ∧ w.category = 2))
  | [], i, v, j, w, h, _ => by simp [am_st1] at h
  | x :: r, 0, v, j, w, h, hw => by
    rcases j with _ | j
    · simp [am_st1] at h
      exact Or.inl ⟨rfl, h.symm⟩
    · simp [am_st1] at h
      exact Or.inr ⟨by omega, by simpa using h, by omega⟩
  | x :: r, 1, v, j, w, h, hw => by
    rcases j with _ | j
    · simp [am_st1] at h
      obtain ⟨h1, h2⟩ := am_kl_eq h hw
      exact Or.inr ⟨by omega, by simpa using h1, by omega⟩
    · have h' : (am_st1 r 0 v)[j]? = some w := by simpa [am_st1] using h
      rcases am_st1_get r 0 v j w h' hw with ⟨h1, h2⟩ | ⟨h1, h2, h3⟩
      · exact Or.inl ⟨by omega, h2⟩
      · exact Or.inr ⟨by omega, by simpa using h2, by omega⟩
  | x :: r, n + 2, v, j, w, h, hw => by
    rcases j with _ | j
    · simp [am_st1] at h
      exact Or.inr ⟨by omega, by simpa using h, by omega⟩
    · have h' : (am_st1 r (n + 1) v)[j]? = some w := by simpa [am_st1] using h
      rcases am_st1_get r (n + 1) v j w h' hw with ⟨h1, h2⟩ | ⟨h1, h2, h3⟩
      · exact Or.inl ⟨by omega, h2⟩
      · exact Or.inr ⟨by omega, by simpa using h2, by omega⟩
theorem am_st1_len : ∀ (ls : List Value) (i : Nat) (v : Value), (am_st1 ls i v).length = ls.length
  | [], _, _ => rfl
  | _ :: _, 0, _ => rfl
  | _ :: r, 1, v => congrArg (· + 1) (am_st1_len r 0 v)
  | _ :: r, n + 2, v => congrArg (· + 1) (am_st1_len r (n + 1) v)
theorem am_st2_get {ls : List Value} {i : Nat} {v : Value} {j : Nat} {w : Value} (h : (am_st2 ls i v)[j]? = some w) (hw : w ≠ .null) : (j = i ∧ w = v) ∨ (j ≠ i ∧ j ≠ i + 1 ∧ ls[j]? = some w ∧ ¬ (j + 1 = i ∧ w.category = 2)) := by
  unfold am_st2 at h
  rw [List.getElem?_set] at h
  by_cases h1 : i + 1 = j
  · rw [if_pos h1] at h
    split at h
    · cases h; exact absurd rfl hw
    · cases h
  · rw [if_neg h1, List.getElem?_set] at h
    by_cases h2 : i = j
    · rw [if_pos h2] at h
      split at h
      · cases h; exact Or.inl ⟨h2.symm, rfl⟩
      · cases h
    · rw [if_neg h2] at h
      rcases am_st1_get ls i .null j w h hw with ⟨h3, h4⟩ | ⟨h3, h4, h5⟩
      · exact absurd h3.symm h2
      · exact Or.inr ⟨h3, fun e => h1 e.symm, h4, h5⟩
theorem am_Lr.st1 {ad : Nat → Option Nat} {nL : Nat} {ls : List Value} {Ls : Array Slot} {i : Nat} {v : Value} (h : lv_has Ls nL ((i, am_cv ad v) :: (am_ll ad 0 ls).filter (fun q => !(q.1 == i) && !(q.1 + 1 == i && q.2.category == 2)))) : am_Lr ad nL (am_st1 ls i v) Ls := by
  refine ⟨h.1, h.2.1, fun j w hj hw => ?_⟩
  rcases am_st1_get ls i v j w hj hw with ⟨h1, h2⟩ | ⟨h1, h2, h3⟩
  · subst h1; subst h2
    exact h.2.2 _ List.mem_cons_self
  · refine h.2.2 (j, am_cv ad w) (List.mem_cons_of_mem _ (List.mem_filter.mpr ⟨am_ll_mem.mpr ⟨j, w, h2, hw, by simp⟩, ?_⟩))
    rw [am_cv_cat]
    simp only [Bool.and_eq_true, Bool.not_eq_true', beq_eq_false_iff_ne, Bool.and_eq_false_iff, ne_eq]
    exact ⟨h1, by by_cases q : j + 1 = i
                  · exact Or.inr fun z => h3 ⟨q, z⟩
                  · exact Or.inl q⟩
theorem am_Lr.st2 {ad : Nat → Option Nat} {nL : Nat} {ls : List Value} {Ls : Array Slot} {i : Nat} {v : Value} (h : lv_has Ls nL ((i, am_cv ad v) :: (am_ll ad 0 ls).filter (fun q => !(q.1 == i) && (!(q.1 == i + 1) && !(q.1 + 1 == i && q.2.category == 2))))) : am_Lr ad nL (am_st2 ls i v) Ls := by
  refine ⟨h.1, h.2.1, fun j w hj hw => ?_⟩
  rcases am_st2_get hj hw with ⟨h1, h2⟩ | ⟨h1, h0, h2, h3⟩
  · subst h1; subst h2
    exact h.2.2 _ List.mem_cons_self
  · refine h.2.2 (j, am_cv ad w) (List.mem_cons_of_mem _ (List.mem_filter.mpr ⟨am_ll_mem.mpr ⟨j, w, h2, hw, by simp⟩, ?_⟩))
    rw [am_cv_cat]
    simp only [Bool.and_eq_true, Bool.not_eq_true', beq_eq_false_iff_ne, Bool.and_eq_false_iff, ne_eq]
    exact ⟨h1, h0, by by_cases q : j + 1 = i
                      · exact Or.inr fun z => h3 ⟨q, z⟩
                      · exact Or.inl q⟩
theorem am_exp_len (ad : Nat → Option Nat) : ∀ as : List Value, (∀ v ∈ as, v.category = 2 → ∃ x, v = .long x) → (lg_sl (as.map (am_cv ad))).length = (am_exp as).length
  | [], _ => rfl
  | v :: as, hv => by
    have ih := am_exp_len ad as fun w hw => hv w (List.mem_cons_of_mem _ hw)
    have e : lg_sl ((v :: as).map (am_cv ad)) = (if (am_cv ad v).category = 2 then [.val (am_cv ad v), .second] else [.val (am_cv ad v)]) ++ lg_sl (as.map (am_cv ad)) := by simp [lg_sl]
    rw [e, am_cv_cat]
    cases v with
    | long x => simp [am_exp, Value.category, ih]
    | double x => obtain ⟨y, hy⟩ := hv _ List.mem_cons_self rfl; cases hy
    | _ => simp [am_exp, Value.category, ih]
theorem am_exp_args (ad : Nat → Option Nat) : ∀ (as : List Value) (k i : Nat) (v : Value), (∀ v ∈ as, v.category = 2 → ∃ x, v = .long x) → (am_exp as)[i]? = some v → v ≠ .null → (k + i, am_cv ad v) ∈ lv_args k (as.map (am_cv ad))
  | [], _, _, _, _, h, _ => by simp [am_exp] at h
  | w :: as, k, i, v, hv, h, hn => by
    have hv' : ∀ v ∈ as, v.category = 2 → ∃ x, v = .long x := fun z hz => hv z (List.mem_cons_of_mem _ hz)
    have e : lv_args k ((w :: as).map (am_cv ad)) = (k, am_cv ad w) :: lv_args (if w.category = 2 then k + 2 else k + 1) (as.map (am_cv ad)) := by
      rw [List.map_cons, lv_args, am_cv_cat]
    rw [e]
    cases w with
    | long x =>
      rcases i with _ | _ | i
      · simp [am_exp] at h
        subst h
        exact List.mem_cons_self
      · simp [am_exp] at h
        exact absurd h.symm hn
      · have h' : (am_exp as)[i]? = some v := by simpa [am_exp] using h
        have := am_exp_args ad as (k + 2) i v hv' h' hn
        rw [show k + (i + 1 + 1) = k + 2 + i by omega]
        exact List.mem_cons_of_mem _ this
    | double x => obtain ⟨y, hy⟩ := hv _ List.mem_cons_self rfl; cases hy
    | _ =>
      rcases i with _ | i
      · simp [am_exp] at h
        subst h
        exact List.mem_cons_self
      · have h' : (am_exp as)[i]? = some v := by simpa [am_exp] using h
        have := am_exp_args ad as (k + 1) i v hv' h' hn
        rw [show k + (i + 1) = k + 1 + i by omega]
        exact List.mem_cons_of_mem _ this
theorem am_Lr.entry {ad : Nat → Option Nat} {as : List Value} {n : Nat} (hv : ∀ v ∈ as, v.category = 2 → ∃ x, v = .long x) (h : (am_exp as).length ≤ n) : am_Lr ad n (am_ent as n) ((lg_sl (as.map (am_cv ad)) ++ List.replicate (n - (lg_sl (as.map (am_cv ad))).length) Slot.unset).toArray) := by
  have hl := lv_entry (as.map (am_cv ad)) (n := n) (by rw [am_exp_len ad as hv]; exact h)
  refine ⟨hl.1, hl.2.1, fun i v hi hn => ?_⟩
  unfold am_ent at hi
  by_cases q : i < (am_exp as).length
  · rw [List.getElem?_append_left q] at hi
    have := am_exp_args ad as 0 i v hv hi hn
    rw [Nat.zero_add] at this
    exact hl.2.2 _ this
  · rw [List.getElem?_append_right (by omega)] at hi
    have := List.eq_of_mem_replicate (List.mem_of_getElem? hi)
    exact absurd this hn
/-- the cells -/
def am_fields (ad : Nat → Option Nat) (h : am_H) (q kd n : Nat) : List Value := (List.range n).map fun j => cond (Nat.beq (am_ft kd j) 1) (.long (h.1.2.1 q j)) (cond (Nat.beq (am_ft kd j) 2) (va_rf (ad (h.2.1.1 q j))) (.int (h.1.1 q j)))
def am_ce (cA : Nat → ClassId) (ad : Nat → Option Nat) (h : am_H) (q : Nat) : va_E :=
  cond (Nat.beq (am_S h q).1 20) (.inl (cA 0, (am_S h q).2, .inl (h.1.1 q))) (
  cond (Nat.beq (am_S h q).1 21) (.inl (cA 1, (am_S h q).2, .inl (h.1.1 q))) (
  cond (Nat.beq (am_S h q).1 22) (.inl (cA 2, (am_S h q).2, .inr (.inl (h.1.2.1 q)))) (
  cond (Nat.beq (am_S h q).1 23) (.inl (cA 3, (am_S h q).2, .inr (.inr (.inr (.inr (fun j => ad (h.1.2.2 q j))))))) (
  .inr ((am_S h q).1 - 1, am_fields ad h q (am_S h q).1 (am_S h q).2)))))
def am_ws (cA : Nat → ClassId) (ad : Nat → Option Nat) (h : am_H) : va_W := (List.range h.2.1.2.2).map fun j => ((ad (j + 1)).getD 0, am_ce cA ad h (j + 1))
abbrev am_tys (cA : Nat → ClassId) : List (ClassId × FieldType) := [(cA 0, .int), (cA 1, .boolean), (cA 2, .long), (cA 3, .object "ScanChart$Op")]
theorem am_ws_get {cA : Nat → ClassId} {ad : Nat → Option Nat} {h : am_H} {q : Nat} (h1 : 1 ≤ q) (h2 : q ≤ h.2.1.2.2) : (am_ws cA ad h)[q - 1]? = some ((ad q).getD 0, am_ce cA ad h q) := by
  simp only [am_ws, List.getElem?_map]
  rw [List.getElem?_range (by omega)]
  simp only [Option.map_some]
  rw [show q - 1 + 1 = q by omega]
theorem am_ws_len {cA : Nat → ClassId} {ad : Nat → Option Nat} {h : am_H} : (am_ws cA ad h).length = h.2.1.2.2 := by simp [am_ws]
theorem am_ce_congr {cA : Nat → ClassId} {ad ad' : Nat → Option Nat} {h h' : am_H} {q : Nat} (hS : am_S h' q = am_S h q) (hI : h'.1.1 q = h.1.1 q) (hJ : h'.1.2.1 q = h.1.2.1 q) (hT : ∀ j, ad' (h'.1.2.2 q j) = ad (h.1.2.2 q j)) (hR : ∀ j, ad' (h'.2.1.1 q j) = ad (h.2.1.1 q j)) : am_ce cA ad' h' q = am_ce cA ad h q := by
  unfold am_ce am_fields
  rw [hS, hI, hJ]
  simp only [hT, hR]
theorem am_ws_set {cA : Nat → ClassId} {ad : Nat → Option Nat} {h h' : am_H} {q : Nat} (h1 : 1 ≤ q) (hn : h'.2.1.2.2 = h.2.1.2.2) (ho : ∀ z, z ≠ q → am_ce cA ad h' z = am_ce cA ad h z) : am_ws cA ad h' = (am_ws cA ad h).set (q - 1) ((ad q).getD 0, am_ce cA ad h' q) := by
  apply List.ext_getElem?
  intro j
  by_cases hj : j < h.2.1.2.2
  · have e := am_ws_get (cA := cA) (ad := ad) (h := h') (q := j + 1) (by omega) (by omega)
    have e0 := am_ws_get (cA := cA) (ad := ad) (h := h) (q := j + 1) (by omega) (by omega)
    rw [Nat.add_sub_cancel] at e e0
    rw [e, List.getElem?_set]
    by_cases hq : q - 1 = j
    · rw [if_pos hq, if_pos (by rw [am_ws_len]; omega), show j + 1 = q by omega]
    · rw [if_neg hq, e0, ho (j + 1) (by omega)]
  · rw [List.getElem?_eq_none (by rw [am_ws_len]; omega), List.getElem?_eq_none (by rw [List.length_set, am_ws_len]; omega)]
def am_okk (z : Nat × Nat) : Prop := (1 ≤ z.1 ∧ z.1 ≤ 9 ∧ z.2 = (am_fldD z.1).2.2) ∨ z.1 = 20 ∨ z.1 = 21 ∨ z.1 = 22 ∨ z.1 = 23
def am_gd (L : Nat) (xs : Nat → Int32) (adc ad : Nat → Option Nat) (h : am_H) : Prop :=
  (∀ q, 1 ≤ q → q ≤ h.2.1.2.2 → ∃ a, ad q = some a) ∧ ad 0 = none ∧ h.2.1.2.2 ≤ 1000 ∧ (∀ q, 1 ≤ q → q ≤ h.2.1.2.2 → am_okk (am_S h q)) ∧ (∀ q, q = 0 ∨ h.2.1.2.2 < q → am_S h q = am_S0 L q) ∧
  (∀ q j, (am_S h q).1 = 23 → h.1.2.2 q j = 0 ∨ (am_S h (h.1.2.2 q j)).1 = 30) ∧ h.1.1 4600 = xs ∧ (∀ q, 1000 < q → ad q = adc q) ∧ ∀ q j, h.2.1.1 q j ≤ h.2.1.2.2 ∨ 1000 < h.2.1.1 q j
theorem am_S0_kind (L q : Nat) : (am_S0 L q).1 = 0 ∨ 24 ≤ (am_S0 L q).1 ∧ (am_S0 L q).1 ≤ 31 ∧ 1000 < q := by
  unfold am_S0
  by_cases h : q ≤ 1000
  · rw [Nat.ble_eq_true_of_le h]; exact Or.inl rfl
  · have h' : Nat.ble q 1000 = false := by cases e : Nat.ble q 1000 with
      | false => rfl
      | true => exact absurd (Nat.le_of_ble_eq_true e) h
    rw [h']
    simp only [cond_false]
    cases Nat.ble q 1041 <;> cases Nat.ble q 2000 <;> cases Nat.ble q 2055 <;> cases Nat.ble q 3000 <;> cases Nat.ble q 3055 <;> cases Nat.ble q 4000 <;> cases Nat.beq q 4001 <;> cases Nat.beq q 4600 <;> cases Nat.ble q 4003 <;> first | exact Or.inl rfl | exact Or.inr ⟨Nat.le_of_ble_eq_true rfl, Nat.le_of_ble_eq_true rfl, Nat.lt_of_not_le h⟩
theorem am_live {L : Nat} {xs : Nat → Int32} {adc ad : Nat → Option Nat} {h : am_H} (g : am_gd L xs adc ad h) {q : Nat} (hq : 1 ≤ (am_S h q).1) (hk : (am_S h q).1 < 24) : 1 ≤ q ∧ q ≤ h.2.1.2.2 := by
  by_cases z : q = 0 ∨ h.2.1.2.2 < q
  · have e := g.2.2.2.2.1 q z
    rw [e] at hq hk
    rcases am_S0_kind L q with w | w <;> omega
  · omega
theorem am_dead {L : Nat} {xs : Nat → Int32} {adc ad : Nat → Option Nat} {h : am_H} (g : am_gd L xs adc ad h) {q : Nat} (hq : 24 ≤ (am_S h q).1) : am_S h q = am_S0 L q ∧ 1000 < q := by
  by_cases z : q = 0 ∨ h.2.1.2.2 < q
  · have e := g.2.2.2.2.1 q z
    refine ⟨e, ?_⟩
    rw [e] at hq
    rcases am_S0_kind L q with w | w <;> omega
  · have := g.2.2.2.1 q (by omega) (by omega)
    rcases this with w | w | w | w | w <;> omega
/-- what stands from the start and nobody writes -/
def am_Cst (L : Nat) (xs : Nat → Int32) (adc : Nat → Option Nat) (A : Nat → Prop) (U : State) (H : Heap) : Prop :=
  (∀ q, (am_S0 L q).1 = 30 → 1000 < am_cR q 0 ∧ ∃ a, adc q = some a ∧ va_O "ScanChart$Op" a A U H ∧ ∀ k, k ≤ 3 → va_OF (am_cfn 30 k).1 (am_cfn 30 k).2.1 (am_cfn 30 k).2.2 (cond (Nat.beq k 0) (va_rf (adc (am_cR q k))) (.int (am_cI q k))) a A U H) ∧
  (∀ q q', (am_S0 L q).1 = 30 → (am_S0 L q').1 = 30 → adc q = adc q' → q = q') ∧
  (∀ q, (am_S0 L q).1 = 31 → 1000 < am_cR q 10 ∧ ∃ a, adc q = some a ∧ va_O "java/lang/String" a A U H ∧ va_OF (am_cfn 31 10).1 (am_cfn 31 10).2.1 (am_cfn 31 10).2.2 (va_rf (adc (am_cR q 10))) a A U H ∧ va_OF (am_cfn 31 11).1 (am_cfn 31 11).2.1 (am_cfn 31 11).2.2 (.int (am_cI q 11)) a A U H) ∧
  (∀ q, (am_S0 L q).1 = 27 → ∃ a, adc q = some a ∧ va_T .byte a (am_S0 L q).2 (fun j => .int (am_cI q j)) A U H) ∧
  (∀ q, (am_S0 L q).1 = 26 → ∃ a, adc q = some a ∧ va_T .int a (am_S0 L q).2 (fun j => .int (am_cI q j)) A U H) ∧
  (∀ q, (am_S0 L q).1 = 25 → (∀ j, 1000 < am_cR q j) ∧ ∃ a, adc q = some a ∧ va_T (.object "ScanChart$Op") a (am_S0 L q).2 (fun j => va_rf (adc (am_cR q j))) A U H) ∧
  (∃ b, adc 4600 = some b ∧ va_X b L xs U H ∧ b < H.size ∧ ¬ A b) ∧
  (∀ t ∈ am_stats, 1000 < t.2.2.2.1 + cond (Nat.beq t.2.2.2.2 1) 1001 0 ∧ va_Z t.1 t.2.1 t.2.2.1 (cond (Nat.beq t.2.2.2.2 1) (.int (am_gI t.2.2.2.1)) (va_rf (adc t.2.2.2.1))) A U H) ∧
  (∀ t ∈ am_ldcs, 1000 < t.2.2 ∧ ∃ a tx, adc t.2.2 = some a ∧ vk_R t.1 t.2.1 tx a U) ∧
  (∀ t ∈ am_nests, va_Nw (.methodLinkNest t.1 t.2.1 (am_y t.2.2) "ScanChart") U) ∧
  (∀ t ∈ am_nestf, va_Nw (.fieldLinkNest t.1 t.2.1 t.2.2.1 t.2.2.2.1 t.2.2.2.2 "ScanChart") U) ∧
  va_AO "ScanChart$Op" U
theorem am_Cst.move {L : Nat} {xs : Nat → Int32} {adc : Nat → Option Nat} {A B : Nat → Prop} {s U : State} {H0 H1 : Heap} (C : am_Cst L xs adc A s H0) (hW : s.WarmedH U.vm) (hk : ∀ a : Nat, a < H0.size → ¬ A a → H1[a]? = H0[a]?) (hz : H0.size ≤ H1.size) (hB : ∀ q, q < H0.size → B q → A q) : am_Cst L xs adc B U H1 := by
  obtain ⟨c1, c2, c3, c4, c5, c6, c7, c8, c9, c10, c11, c12⟩ := C
  have hvm := hW.alike
  have hA : ∀ {P : (Nat → Prop) → Prop}, P A → P A := fun h => h
  have kO : ∀ {E : String} {a : Nat}, va_O E a A s H0 → va_O E a B U H1 := fun h => by
    have h1 := (h.moved hvm).kept hk
    obtain ⟨cell, q1, q2, q3, q4⟩ := h
    obtain ⟨cell1, p1, p2, p3, -⟩ := h1
    exact ⟨cell1, p1, p2, p3, fun z => q4 (hB _ (Array.getElem?_eq_some_iff.mp q1).1 z)⟩
  have kF : ∀ {o n d : String} {v : Value} {a : Nat}, va_OF o n d v a A s H0 → va_OF o n d v a B U H1 := fun h => by
    have h1 := (h.moved hvm).kept hk
    obtain ⟨cf, kf, fi, f, cell, q0, q1, q2, q3, q4, q5⟩ := h
    obtain ⟨cf1, kf1, fi1, f1, cell1, p0, p1, p2, p3, p4, -⟩ := h1
    exact ⟨cf1, kf1, fi1, f1, cell1, p0, p1, p2, p3, p4, fun z => q5 (hB _ (Array.getElem?_eq_some_iff.mp q2).1 z)⟩
  have kT : ∀ {ty : FieldType} {a N : Nat} {f : Nat → Value}, va_T ty a N f A s H0 → va_T ty a N f B U H1 := fun h => by
    have h1 := (h.moved hvm).kept hk
    obtain ⟨cell, q1, q2, q3, q4, q5, q6, q7⟩ := h
    obtain ⟨cell1, p1, p2, p3, p4, p5, p6, -⟩ := h1
    exact ⟨cell1, p1, p2, p3, p4, p5, p6, fun z => q7 (hB _ (Array.getElem?_eq_some_iff.mp q1).1 z)⟩
  have kZ : ∀ {C n d : String} {v : Value}, va_Z C n d v A s H0 → va_Z C n d v B U H1 := fun h => by
    have h1 := (h.moved hvm).kept hk
    obtain ⟨cf, kf, fi, f, a, cell, q0, q1, q2, q3, q4, q5, q6, q7⟩ := id h
    obtain ⟨cf', kf', fi', f', a', cell', p0, p1, p2, p3, p4, p5, p6, p7⟩ := id h1
    refine ⟨cf', kf', fi', f', a', cell', p0, p1, p2, p3, p4, p5, p6, fun z => p7 ?_⟩
    refine hB _ ?_ z
    by_cases hl : a' < H0.size
    · exact hl
    · exfalso
      have h2 := (h.moved hvm)
      obtain ⟨cf2, kf2, fi2, f2, a2, cell2, r0, r1, r2, r3, r4, -⟩ := h2
      rw [p0] at r0
      cases r0
      rw [p3] at r3
      cases r3
      exact hl (Array.getElem?_eq_some_iff.mp r4).1
  refine ⟨fun q hq => ?_, c2, fun q hq => ?_, fun q hq => ?_, fun q hq => ?_, fun q hq => ?_, ?_, fun t ht => ⟨(c8 t ht).1, kZ (c8 t ht).2⟩, fun t ht => ?_, fun t ht => va_Nw.warmM hW (c10 t ht), fun t ht => va_Nw.warmF hW (c11 t ht), c12.moved hvm⟩
  · obtain ⟨h0, a, h1, h2, h3⟩ := c1 q hq
    exact ⟨h0, a, h1, kO h2, fun k hk => kF (h3 k hk)⟩
  · obtain ⟨h0, a, h1, h2, h3, h4⟩ := c3 q hq
    exact ⟨h0, a, h1, kO h2, kF h3, kF h4⟩
  · obtain ⟨a, h1, h2⟩ := c4 q hq
    exact ⟨a, h1, kT h2⟩
  · obtain ⟨a, h1, h2⟩ := c5 q hq
    exact ⟨a, h1, kT h2⟩
  · obtain ⟨h0, a, h1, h2⟩ := c6 q hq
    exact ⟨h0, a, h1, kT h2⟩
  · obtain ⟨b, h1, h2, h3, h4⟩ := c7
    exact ⟨b, h1, (h2.kept (hk b h3 h4)).moved hvm, Nat.lt_of_lt_of_le h3 hz, fun z => h4 (hB b h3 z)⟩
  · obtain ⟨h0, a, tx, h1, h2⟩ := c9 t ht
    exact ⟨h0, a, tx, h1, h2.warm hW⟩

/-! ROWS OF CELLS for the soundness of a step. -/
theorem am_nbeq {a b : Nat} (h : a ≠ b) : Nat.beq a b = false := by
  cases e : Nat.beq a b with
  | false => rfl
  | true => exact absurd (Nat.eq_of_beq_eq_true e) h
theorem am_up_eq {α : Type} (f : Nat → Nat → α) (q k : Nat) (v : α) (a b : Nat) : am_up f q k v a b = if a = q ∧ b = k then v else f a b := by
  unfold am_up
  by_cases h1 : a = q
  · by_cases h2 : b = k
    · rw [if_pos ⟨h1, h2⟩, h1, h2, Nat.beq_refl, Nat.beq_refl]; rfl
    · rw [if_neg (fun z => h2 z.2), show Nat.beq b k = false from am_nbeq h2]; simp
  · rw [if_neg (fun z => h1 z.1), show Nat.beq a q = false from am_nbeq h1]; rfl
theorem am_up_row {α : Type} (f : Nat → Nat → α) {q k : Nat} (v : α) {a : Nat} (h : a ≠ q) : am_up f q k v a = f a := by
  funext b
  rw [am_up_eq, if_neg (fun z => h z.1)]
theorem am_clr_eq {α : Type} (f : Nat → Nat → α) (q : Nat) (v : α) (a b : Nat) : am_clr f q v a b = if a = q then v else f a b := by
  unfold am_clr
  by_cases h1 : a = q
  · rw [if_pos h1, h1, Nat.beq_refl]; rfl
  · rw [if_neg h1, show Nat.beq a q = false from am_nbeq h1]; rfl
theorem am_clr_row {α : Type} (f : Nat → Nat → α) {q : Nat} (v : α) {a : Nat} (h : a ≠ q) : am_clr f q v a = f a := by
  funext b
  rw [am_clr_eq, if_neg h]
def am_fv (ad : Nat → Option Nat) (h : am_H) (q kd j : Nat) : Value := cond (Nat.beq (am_ft kd j) 1) (.long (h.1.2.1 q j)) (cond (Nat.beq (am_ft kd j) 2) (va_rf (ad (h.2.1.1 q j))) (.int (h.1.1 q j)))
theorem am_fields_get {ad : Nat → Option Nat} {h : am_H} {q kd n j : Nat} (hj : j < n) : (am_fields ad h q kd n)[j]? = some (am_fv ad h q kd j) := by
  unfold am_fields am_fv
  rw [List.getElem?_map, List.getElem?_range hj]
  rfl
theorem am_fields_len {ad : Nat → Option Nat} {h : am_H} {q kd n : Nat} : (am_fields ad h q kd n).length = n := by simp [am_fields]
theorem am_fields_set {ad : Nat → Option Nat} {h h' : am_H} {q kd n k : Nat} {v : Value} (hv : am_fv ad h' q kd k = v) (ho : ∀ j, j ≠ k → am_fv ad h' q kd j = am_fv ad h q kd j) : am_fields ad h' q kd n = (am_fields ad h q kd n).set k v := by
  apply List.ext_getElem?
  intro j
  by_cases hj : j < n
  · rw [am_fields_get hj, List.getElem?_set]
    by_cases hk : k = j
    · subst hk
      rw [if_pos rfl, if_pos (by rw [am_fields_len]; exact hj), hv]
    · rw [if_neg hk, am_fields_get hj, ho j (fun z => hk z.symm)]
  · rw [List.getElem?_eq_none (by rw [am_fields_len]; omega), List.getElem?_eq_none (by rw [List.length_set, am_fields_len]; omega)]
theorem am_ce_obj {cA : Nat → ClassId} {ad : Nat → Option Nat} {h : am_H} {q b : Nat} (hb : (am_S h q).1 = b) (hl : b ≤ 9) : am_ce cA ad h q = .inr (b - 1, am_fields ad h q b (am_S h q).2) := by
  unfold am_ce
  rw [hb, show Nat.beq b 20 = false from am_nbeq (by omega), show Nat.beq b 21 = false from am_nbeq (by omega), show Nat.beq b 22 = false from am_nbeq (by omega), show Nat.beq b 23 = false from am_nbeq (by omega)]
  rfl
theorem am_ce_20 {cA : Nat → ClassId} {ad : Nat → Option Nat} {h : am_H} {q : Nat} (hb : (am_S h q).1 = 20) : am_ce cA ad h q = .inl (cA 0, (am_S h q).2, .inl (h.1.1 q)) := by
  unfold am_ce; rw [hb]; rfl
theorem am_ce_21 {cA : Nat → ClassId} {ad : Nat → Option Nat} {h : am_H} {q : Nat} (hb : (am_S h q).1 = 21) : am_ce cA ad h q = .inl (cA 1, (am_S h q).2, .inl (h.1.1 q)) := by
  unfold am_ce; rw [hb]; rfl
theorem am_ce_22 {cA : Nat → ClassId} {ad : Nat → Option Nat} {h : am_H} {q : Nat} (hb : (am_S h q).1 = 22) : am_ce cA ad h q = .inl (cA 2, (am_S h q).2, .inr (.inl (h.1.2.1 q))) := by
  unfold am_ce; rw [hb]; rfl
theorem am_ce_23 {cA : Nat → ClassId} {ad : Nat → Option Nat} {h : am_H} {q : Nat} (hb : (am_S h q).1 = 23) : am_ce cA ad h q = .inl (cA 3, (am_S h q).2, .inr (.inr (.inr (.inr (fun j => ad (h.1.2.2 q j)))))) := by
  unfold am_ce; rw [hb]; rfl
theorem am_at {L : Nat} {xs : Nat → Int32} {adc ad : Nat → Option Nat} {h : am_H} {cA : Nat → ClassId} (g : am_gd L xs adc ad h) {q : Nat} (hq : 1 ≤ (am_S h q).1) (hk : (am_S h q).1 < 24) : ∃ a, ad q = some a ∧ 1 ≤ q ∧ q ≤ h.2.1.2.2 ∧ (am_ws cA ad h)[q - 1]? = some (a, am_ce cA ad h q) := by
  obtain ⟨h1, h2⟩ := am_live g hq hk
  obtain ⟨a, ha⟩ := g.1 q h1 h2
  refine ⟨a, ha, h1, h2, ?_⟩
  rw [am_ws_get h1 h2, ha]
  rfl
/-- one cell's row changed -/
theorem am_ws_upd {cA : Nat → ClassId} {ad : Nat → Option Nat} {h h' : am_H} {q a : Nat} (h1 : 1 ≤ q) (ha : ad q = some a) (hz : h'.2.1.2 = h.2.1.2) (hI : ∀ z, z ≠ q → h'.1.1 z = h.1.1 z) (hJ : ∀ z, z ≠ q → h'.1.2.1 z = h.1.2.1 z) (hT : ∀ z, z ≠ q → h'.1.2.2 z = h.1.2.2 z) (hR : ∀ z, z ≠ q → h'.2.1.1 z = h.2.1.1 z) : am_ws cA ad h' = (am_ws cA ad h).set (q - 1) (a, am_ce cA ad h' q) := by
  rw [am_ws_set (h := h) h1 (by rw [hz]) (fun z n => am_ce_congr (by unfold am_S; rw [hz]) (hI z n) (hJ z n) (fun j => by rw [hT z n]) (fun j => by rw [hR z n])), ha]
  rfl
theorem am_gd_sI {L : Nat} {xs : Nat → Int32} {adc ad : Nat → Option Nat} {h : am_H} (g : am_gd L xs adc ad h) {q k : Nat} {v : Int32} (hq : q ≤ 1000) : am_gd L xs adc ad (am_sI h q k v) := by
  obtain ⟨g1, g2, g3, g4, g5, g6, g7, g8, g9⟩ := g
  exact ⟨g1, g2, g3, g4, g5, g6, (am_up_row h.1.1 v (show (4600 : Nat) ≠ q by omega)).trans g7, g8, g9⟩
theorem am_gd_sJ {L : Nat} {xs : Nat → Int32} {adc ad : Nat → Option Nat} {h : am_H} (g : am_gd L xs adc ad h) {q k : Nat} {v : Int64} : am_gd L xs adc ad (am_sJ h q k v) := g
theorem am_gd_sT {L : Nat} {xs : Nat → Int32} {adc ad : Nat → Option Nat} {h : am_H} (g : am_gd L xs adc ad h) {q k : Nat} {v : Nat} (hv : (am_S h v).1 = 30) : am_gd L xs adc ad (am_sT h q k v) := by
  obtain ⟨g1, g2, g3, g4, g5, g6, g7, g8, g9⟩ := g
  refine ⟨g1, g2, g3, g4, g5, fun z j hz => ?_, g7, g8, g9⟩
  show am_up h.1.2.2 q k v z j = 0 ∨ (am_S h (am_up h.1.2.2 q k v z j)).1 = 30
  rw [am_up_eq]
  by_cases c : z = q ∧ j = k
  · rw [if_pos c]; exact Or.inr hv
  · rw [if_neg c]; exact g6 z j hz
theorem am_gd_sR {L : Nat} {xs : Nat → Int32} {adc ad : Nat → Option Nat} {h : am_H} (g : am_gd L xs adc ad h) {q k : Nat} {v : Nat} (hv : v ≤ h.2.1.2.2 ∨ 1000 < v) : am_gd L xs adc ad (am_sR h q k v) := by
  obtain ⟨g1, g2, g3, g4, g5, g6, g7, g8, g9⟩ := g
  refine ⟨g1, g2, g3, g4, g5, g6, g7, g8, fun z j => ?_⟩
  show am_up h.2.1.1 q k v z j ≤ h.2.1.2.2 ∨ 1000 < am_up h.2.1.1 q k v z j
  rw [am_up_eq]
  by_cases c : z = q ∧ j = k
  · rw [if_pos c]; exact hv
  · rw [if_neg c]; exact g9 z j
/-- a new cell -/
def am_adN (ad : Nat → Option Nat) (n a : Nat) : Nat → Option Nat := fun z => if z = n then some a else ad z
theorem am_adN_ne {ad : Nat → Option Nat} {n a z : Nat} (h : z ≠ n) : am_adN ad n a z = ad z := if_neg h
theorem am_adN_eq {ad : Nat → Option Nat} {n a : Nat} : am_adN ad n a n = some a := if_pos rfl
theorem am_S_new_ne {h : am_H} {kd len q : Nat} (z : q ≠ h.2.1.2.2 + 1) : am_S (am_new h kd len) q = am_S h q := by
  show cond (Nat.beq q (h.2.1.2.2 + 1)) (kd, len) (h.2.1.2.1 q) = _
  rw [show Nat.beq q (h.2.1.2.2 + 1) = false from am_nbeq z]
  rfl
theorem am_S_new_eq {h : am_H} {kd len : Nat} : am_S (am_new h kd len) (h.2.1.2.2 + 1) = (kd, len) := by
  show cond (Nat.beq (h.2.1.2.2 + 1) (h.2.1.2.2 + 1)) (kd, len) (h.2.1.2.1 _) = _
  rw [Nat.beq_refl]
  rfl
theorem am_gd_new {L : Nat} {xs : Nat → Int32} {adc ad : Nat → Option Nat} {h : am_H} (g : am_gd L xs adc ad h) {kd len a : Nat} (hk : am_okk (kd, len)) (hn : h.2.1.2.2 + 1 ≤ 1000) : am_gd L xs adc (am_adN ad (h.2.1.2.2 + 1) a) (am_new h kd len) := by
  obtain ⟨g1, g2, g3, g4, g5, g6, g7, g8, g9⟩ := g
  have hkl : kd ≤ 23 := by rcases hk with z | z | z | z | z <;> simp at z <;> omega
  refine ⟨fun q h1 h2 => ?_, by rw [am_adN_ne (by omega)]; exact g2, hn, fun q h1 h2 => ?_, fun q hq => ?_, fun q j hq => ?_, ?_, fun q hq => ?_, fun q j => ?_⟩
  · by_cases z : q = h.2.1.2.2 + 1
    · subst z; exact ⟨a, am_adN_eq⟩
    · rw [am_adN_ne z]
      exact g1 q h1 (by have h3 : q ≤ h.2.1.2.2 + 1 := h2; omega)
  · by_cases z : q = h.2.1.2.2 + 1
    · subst z; rw [am_S_new_eq]; exact hk
    · rw [am_S_new_ne z]
      exact g4 q h1 (by have h3 : q ≤ h.2.1.2.2 + 1 := h2; omega)
  · have h3 : q = 0 ∨ h.2.1.2.2 + 1 < q := hq
    rw [am_S_new_ne (by omega)]
    exact g5 q (by omega)
  · show am_clr h.1.2.2 (h.2.1.2.2 + 1) 0 q j = 0 ∨ (am_S (am_new h kd len) (am_clr h.1.2.2 (h.2.1.2.2 + 1) 0 q j)).1 = 30
    rw [am_clr_eq]
    by_cases z : q = h.2.1.2.2 + 1
    · rw [if_pos z]; exact Or.inl rfl
    · rw [if_neg z]
      rw [am_S_new_ne z] at hq
      rcases g6 q j hq with w | w
      · exact Or.inl w
      · refine Or.inr ?_
        rw [am_S_new_ne (fun y => ?_)]
        · exact w
        · rw [y, g5 _ (Or.inr (by omega))] at w
          rcases am_S0_kind L (h.2.1.2.2 + 1) with v | v <;> omega
  · exact (am_clr_row h.1.1 0 (show (4600 : Nat) ≠ h.2.1.2.2 + 1 by omega)).trans g7
  · rw [am_adN_ne (by omega)]; exact g8 q hq
  · show am_clr h.2.1.1 (h.2.1.2.2 + 1) 0 q j ≤ h.2.1.2.2 + 1 ∨ 1000 < am_clr h.2.1.1 (h.2.1.2.2 + 1) 0 q j
    rw [am_clr_eq]
    by_cases z : q = h.2.1.2.2 + 1
    · rw [if_pos z]; exact Or.inl (Nat.zero_le _)
    · rw [if_neg z]
      exact (g9 q j).elim (fun w => Or.inl (by omega)) Or.inr
theorem am_ws_new {L : Nat} {xs : Nat → Int32} {adc ad : Nat → Option Nat} {h : am_H} {cA : Nat → ClassId} (g : am_gd L xs adc ad h) {kd len a : Nat} (hn : h.2.1.2.2 + 1 ≤ 1000) : am_ws cA (am_adN ad (h.2.1.2.2 + 1) a) (am_new h kd len) = am_ws cA ad h ++ [(a, am_ce cA (am_adN ad (h.2.1.2.2 + 1) a) (am_new h kd len) (h.2.1.2.2 + 1))] := by
  have hv : ∀ {z : Nat}, (z ≤ h.2.1.2.2 ∨ 1000 < z) → am_adN ad (h.2.1.2.2 + 1) a z = ad z := fun hz => am_adN_ne (by omega)
  have hT : ∀ q j, q ≠ h.2.1.2.2 + 1 → (am_S h q).1 = 23 → am_adN ad (h.2.1.2.2 + 1) a (h.1.2.2 q j) = ad (h.1.2.2 q j) := fun q j hq hk => by
    rcases g.2.2.2.2.2.1 q j hk with w | w
    · rw [w]; exact am_adN_ne (by omega)
    · exact hv (Or.inr (am_dead g (by omega)).2)
  apply List.ext_getElem?
  intro j
  by_cases hj : j < h.2.1.2.2
  · have e := am_ws_get (cA := cA) (ad := am_adN ad (h.2.1.2.2 + 1) a) (h := am_new h kd len) (q := j + 1) (by omega) (by show j + 1 ≤ h.2.1.2.2 + 1; omega)
    have e0 := am_ws_get (cA := cA) (ad := ad) (h := h) (q := j + 1) (by omega) (by omega)
    rw [Nat.add_sub_cancel] at e e0
    rw [e, List.getElem?_append_left (by rw [am_ws_len]; exact hj), e0, am_adN_ne (by omega)]
    congr 2
    have hz : j + 1 ≠ h.2.1.2.2 + 1 := by omega
    unfold am_ce
    rw [am_S_new_ne hz]
    rw [show (am_new h kd len).1.1 (j + 1) = h.1.1 (j + 1) from am_clr_row _ _ hz, show (am_new h kd len).1.2.1 (j + 1) = h.1.2.1 (j + 1) from am_clr_row _ _ hz, show (am_new h kd len).1.2.2 (j + 1) = h.1.2.2 (j + 1) from am_clr_row _ _ hz]
    have hF : am_fields (am_adN ad (h.2.1.2.2 + 1) a) (am_new h kd len) (j + 1) (am_S h (j + 1)).1 (am_S h (j + 1)).2 = am_fields ad h (j + 1) (am_S h (j + 1)).1 (am_S h (j + 1)).2 := by
      unfold am_fields
      apply List.map_congr_left
      intro x _
      rw [show (am_new h kd len).1.1 (j + 1) = h.1.1 (j + 1) from am_clr_row _ _ hz, show (am_new h kd len).1.2.1 (j + 1) = h.1.2.1 (j + 1) from am_clr_row _ _ hz, show (am_new h kd len).2.1.1 (j + 1) = h.2.1.1 (j + 1) from am_clr_row _ _ hz, hv (g.2.2.2.2.2.2.2.2 _ _)]
    rw [hF]
    by_cases h23 : (am_S h (j + 1)).1 = 23
    · rw [show (fun i => am_adN ad (h.2.1.2.2 + 1) a (h.1.2.2 (j + 1) i)) = fun i => ad (h.1.2.2 (j + 1) i) from funext fun i => hT _ i hz h23]
    · rw [show Nat.beq (am_S h (j + 1)).1 23 = false from am_nbeq h23]
      rfl
  · by_cases hj2 : j = h.2.1.2.2
    · subst hj2
      have e := am_ws_get (cA := cA) (ad := am_adN ad (h.2.1.2.2 + 1) a) (h := am_new h kd len) (q := h.2.1.2.2 + 1) (by omega) (Nat.le_refl _)
      rw [Nat.add_sub_cancel] at e
      rw [e, List.getElem?_append_right (by rw [am_ws_len]; exact Nat.le_refl _), am_ws_len, Nat.sub_self, am_adN_eq]
      rfl
    · rw [List.getElem?_eq_none (by rw [am_ws_len]; show h.2.1.2.2 + 1 ≤ j; omega), List.getElem?_eq_none (by rw [List.length_append, am_ws_len]; show h.2.1.2.2 + 1 ≤ j; omega)]
section AMR
variable {p : Program} {l : Launch} {e : Env} {R : Room} {s : State} {m : MethodId} {args : Array Value} {below : List Frame} {meth : Method} {c : Code} {H : Heap} {locs : List Loc} {cells slots : Nat} {Q : State → Prop}
variable {cc : ByteArray} {pc : Nat} {ls : Array Slot} {rest : List Value}
theorem am_aload_n (hexec : p.tables.exec = Jvm.exec) (hb : c.code = cc) {k : Fin 4} {i : Nat} {r : Option Nat} (hdg : decode cc pc = .ok (.aload_n k, 1)) (hi : (k : Nat) = i) (hl : ls[i]? = some (.val (va_rf r)))
    (kk : W p l e R s m args below meth c H locs cells slots Q (F0 m (pc + 1) ls (va_rf r :: rest))) : W p l e R s m args below meth c H locs cells slots Q (F0 m pc ls rest) := by
  cases r
  · exact lv_aload_nN hexec hb hdg hi hl kk
  · exact lv_aload_n hexec hb hdg hi hl kk
theorem am_aload (hexec : p.tables.exec = Jvm.exec) (hb : c.code = cc) {i : Nat} {r : Option Nat} (hdg : decode cc pc = .ok (.aload i, 2)) (hl : ls[i]? = some (.val (va_rf r)))
    (kk : W p l e R s m args below meth c H locs cells slots Q (F0 m (pc + 2) ls (va_rf r :: rest))) : W p l e R s m args below meth c H locs cells slots Q (F0 m pc ls rest) := by
  cases r
  · exact lv_aloadN hexec hb hdg hl kk
  · exact lv_aload hexec hb hdg hl kk
theorem am_astore_n (hexec : p.tables.exec = Jvm.exec) (hb : c.code = cc) {k : Fin 4} {i nL : Nat} {r : Option Nat} {lv : List (Nat × Value)} (hdg : decode cc pc = .ok (.astore_n k, 1)) (hi : (k : Nat) = i) (h : lv_has ls nL lv) (hn : i < nL)
    (kk : ∀ ls' : Array Slot, lv_has ls' nL ((i, va_rf r) :: lv.filter (fun q => !(q.1 == i) && !(q.1 + 1 == i && q.2.category == 2))) → W p l e R s m args below meth c H locs cells slots Q (F0 m (pc + 1) ls' rest)) : W p l e R s m args below meth c H locs cells slots Q (F0 m pc ls (va_rf r :: rest)) := by
  cases r
  · exact lv_astore_nN hexec hb hdg hi h hn rfl kk
  · exact lv_astore_n hexec hb hdg hi h hn rfl kk
theorem am_astore (hexec : p.tables.exec = Jvm.exec) (hb : c.code = cc) {i nL : Nat} {r : Option Nat} {lv : List (Nat × Value)} (hdg : decode cc pc = .ok (.astore i, 2)) (h : lv_has ls nL lv) (hn : i < nL)
    (kk : ∀ ls' : Array Slot, lv_has ls' nL ((i, va_rf r) :: lv.filter (fun q => !(q.1 == i) && !(q.1 + 1 == i && q.2.category == 2))) → W p l e R s m args below meth c H locs cells slots Q (F0 m (pc + 2) ls' rest)) : W p l e R s m args below meth c H locs cells slots Q (F0 m pc ls (va_rf r :: rest)) := by
  cases r
  · exact lv_astoreN hexec hb hdg h hn rfl kk
  · exact lv_astore hexec hb hdg h hn rfl kk
/-- a branch on a comparison with 0, and of two ints -/
theorem am_ifc (hexec : p.tables.exec = Jvm.exec) (hb : c.code = cc) {cnd : ClassFile.Cond} {x : Int32} {off : Int} {tgt : Nat} {F1 F2 : am_R} {z : Value × am_H} (hdg : decode cc pc = .ok (.ifCond cnd off, 3)) (ht : (pc : Int) + off = (tgt : Int)) (he : am_br cnd x 0 F1 F2 = some z)
    (kt : F1 = some z → W p l e R s m args below meth c H locs cells slots Q (F0 m tgt ls rest)) (kf : F2 = some z → W p l e R s m args below meth c H locs cells slots Q (F0 m (pc + 3) ls rest)) : W p l e R s m args below meth c H locs cells slots Q (F0 m pc ls (.int x :: rest)) := by
  cases cnd <;> simp only [am_br] at he
  · exact lv_if_eq hexec hb hdg ht (fun q => kt (by rwa [if_pos q] at he)) (fun q => kf (by rwa [if_neg q] at he))
  · exact lv_if_ne hexec hb hdg ht (fun q => kt (by rwa [if_neg q] at he)) (fun q => kf (by rwa [if_pos q] at he))
  · exact lv_if_lt hexec hb hdg ht (fun q => kt (by rwa [if_pos q] at he)) (fun q => kf (by rwa [if_neg q] at he))
  · exact lv_if_ge hexec hb hdg ht (fun q => kt (by rwa [if_pos q] at he)) (fun q => kf (by rwa [if_neg q] at he))
  · exact lv_if_gt hexec hb hdg ht (fun q => kt (by rwa [if_pos q] at he)) (fun q => kf (by rwa [if_neg q] at he))
  · exact lv_if_le hexec hb hdg ht (fun q => kt (by rwa [if_pos q] at he)) (fun q => kf (by rwa [if_neg q] at he))
theorem am_ifi (hexec : p.tables.exec = Jvm.exec) (hb : c.code = cc) {cnd : ClassFile.Cond} {x y : Int32} {off : Int} {tgt : Nat} {F1 F2 : am_R} {z : Value × am_H} (hdg : decode cc pc = .ok (.if_icmp cnd off, 3)) (ht : (pc : Int) + off = (tgt : Int)) (he : am_br cnd x y F1 F2 = some z)
    (kt : F1 = some z → W p l e R s m args below meth c H locs cells slots Q (F0 m tgt ls rest)) (kf : F2 = some z → W p l e R s m args below meth c H locs cells slots Q (F0 m (pc + 3) ls rest)) : W p l e R s m args below meth c H locs cells slots Q (F0 m pc ls (.int y :: .int x :: rest)) := by
  cases cnd <;> simp only [am_br] at he
  · exact lv_icmp_eq hexec hb hdg ht (fun q => kt (by rwa [if_pos q] at he)) (fun q => kf (by rwa [if_neg q] at he))
  · exact lv_icmp_ne hexec hb hdg ht (fun q => kt (by rwa [if_neg q] at he)) (fun q => kf (by rwa [if_pos q] at he))
  · exact lv_icmp_lt hexec hb hdg ht (fun q => kt (by rwa [if_pos q] at he)) (fun q => kf (by rwa [if_neg q] at he))
  · exact lv_icmp_ge hexec hb hdg ht (fun q => kt (by rwa [if_pos q] at he)) (fun q => kf (by rwa [if_neg q] at he))
  · exact lv_icmp_gt hexec hb hdg ht (fun q => kt (by rwa [if_pos q] at he)) (fun q => kf (by rwa [if_neg q] at he))
  · exact lv_icmp_le hexec hb hdg ht (fun q => kt (by rwa [if_pos q] at he)) (fun q => kf (by rwa [if_neg q] at he))
end AMR

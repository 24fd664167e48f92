/-! THE CALL OF load() IN THE LAW: behind it the two programs may stand in changed places; the world is named anew. -/
theorem sig_sig (q : Nat) : am_sig (am_sig q) = q := by
  by_cases h : q < 49
  · exact (by decide +kernel : ∀ q : Nat, q < 49 → am_sig (am_sig q) = q) q h
  · have e := sig_big (a := q) (by omega)
    rw [e, e]
theorem sig_le {q n : Nat} (h : q ≤ n) (hn : 48 ≤ n) : am_sig q ≤ n := by
  by_cases c : q < 49
  · have := (by decide +kernel : ∀ q : Nat, q < 49 → am_sig q ≤ 48) q c
    omega
  · rw [sig_big (by omega)]; exact h
theorem sig_pos {q : Nat} (h : 1 ≤ q) : 1 ≤ am_sig q := by
  by_cases c : q < 49
  · exact (by decide +kernel : ∀ q : Nat, q < 49 → 1 ≤ q → 1 ≤ am_sig q) q c h
  · rw [sig_big (by omega)]; exact h
theorem sw_ce {L : Nat} {xs : Nat → Int32} {adc ad : Nat → Option Nat} {h : am_H} {cA : Nat → ClassId} (g : am_gd L xs adc ad h) (q : Nat) : am_ce cA (fun z => ad (am_sig z)) (am_swap h) q = am_ce cA ad h (am_sig q) := by
  have eT : (am_S h (am_sig q)).1 = 23 → (fun j => ad (am_sig ((am_swap h).1.2.2 q j))) = fun j => ad (h.1.2.2 (am_sig q) j) := fun k => by
    funext j
    show ad (am_sig (h.1.2.2 (am_sig q) j)) = _
    rcases g.2.2.2.2.2.1 (am_sig q) j k with z | z
    · rw [z]; rfl
    · rw [sig_big (by have := (am_dead g (q := h.1.2.2 (am_sig q) j) (by omega)).2; omega)]
  have eR : ∀ j, ad (am_sig ((am_swap h).2.1.1 q j)) = ad (h.2.1.1 (am_sig q) j) := fun j => congrArg ad (sig_sig _)
  have eF : am_fields (fun z => ad (am_sig z)) (am_swap h) q (am_S h (am_sig q)).1 (am_S h (am_sig q)).2 = am_fields ad h (am_sig q) (am_S h (am_sig q)).1 (am_S h (am_sig q)).2 := by
    unfold am_fields
    apply List.map_congr_left
    intro j _
    show cond (Nat.beq (am_ft _ j) 1) (Value.long (h.1.2.1 (am_sig q) j)) (cond (Nat.beq (am_ft _ j) 2) (va_rf (ad (am_sig ((am_swap h).2.1.1 q j)))) (Value.int (h.1.1 (am_sig q) j))) = _
    rw [eR]
  unfold am_ce
  show (cond (Nat.beq (am_S h (am_sig q)).1 20) (.inl (cA 0, (am_S h (am_sig q)).2, .inl (h.1.1 (am_sig q)))) (cond (Nat.beq (am_S h (am_sig q)).1 21) (.inl (cA 1, (am_S h (am_sig q)).2, .inl (h.1.1 (am_sig q)))) (cond (Nat.beq (am_S h (am_sig q)).1 22) (.inl (cA 2, (am_S h (am_sig q)).2, .inr (.inl (h.1.2.1 (am_sig q))))) (cond (Nat.beq (am_S h (am_sig q)).1 23) (.inl (cA 3, (am_S h (am_sig q)).2, .inr (.inr (.inr (.inr (fun j => ad (am_sig ((am_swap h).1.2.2 q j)))))))) (.inr ((am_S h (am_sig q)).1 - 1, am_fields (fun z => ad (am_sig z)) (am_swap h) q (am_S h (am_sig q)).1 (am_S h (am_sig q)).2))))) : va_E) = _
  rw [eF]
  by_cases k : (am_S h (am_sig q)).1 = 23
  · rw [eT k]
  · rw [am_nbeq k]
    rfl
theorem sw_gd {L : Nat} {xs : Nat → Int32} {adc ad : Nat → Option Nat} {h : am_H} (g : am_gd L xs adc ad h) (hn : 48 ≤ h.2.1.2.2) : am_gd L xs adc (fun z => ad (am_sig z)) (am_swap h) := by
  obtain ⟨g1, g2, g3, g4, g5, g6, g7, g8, g9⟩ := id g
  refine ⟨fun q a b => g1 _ (sig_pos a) (sig_le b hn), g2, g3, fun q a b => g4 _ (sig_pos a) (sig_le b hn), fun q a => ?_, fun q j k => ?_, ?_, fun q a => ?_, fun q j => ?_⟩
  · have a : q = 0 ∨ h.2.1.2.2 < q := a
    have e : am_sig q = q := by
      rcases a with z | z
      · rw [z]; rfl
      · exact sig_big (by omega)
    show am_S h (am_sig q) = _
    rw [e]
    exact g5 q a
  · show h.1.2.2 (am_sig q) j = 0 ∨ (am_S h (am_sig (h.1.2.2 (am_sig q) j))).1 = 30
    rcases g6 (am_sig q) j k with z | z
    · exact Or.inl z
    · refine Or.inr ?_
      rw [sig_big (by have := (am_dead g (q := h.1.2.2 (am_sig q) j) (by omega)).2; omega)]
      exact z
  · show h.1.1 (am_sig 4600) = xs
    rw [sig_big (by decide)]
    exact g7
  · show ad (am_sig q) = adc q
    rw [sig_big (by omega)]
    exact g8 q a
  · show am_sig (h.2.1.1 (am_sig q) j) ≤ h.2.1.2.2 ∨ 1000 < am_sig (h.2.1.1 (am_sig q) j)
    rcases g9 (am_sig q) j with z | z
    · exact Or.inl (sig_le z hn)
    · rw [sig_big (by omega)]; exact Or.inr z
theorem sw_ws {L : Nat} {xs : Nat → Int32} {adc ad : Nat → Option Nat} {h : am_H} {cA : Nat → ClassId} (g : am_gd L xs adc ad h) (hn : 48 ≤ h.2.1.2.2) {k : Nat} {x : Nat × va_E} (e : (am_ws cA (fun z => ad (am_sig z)) (am_swap h))[k]? = some x) : k < h.2.1.2.2 ∧ (am_ws cA ad h)[am_sig (k + 1) - 1]? = some x := by
  have hk : k < h.2.1.2.2 := by
    have := (List.getElem?_eq_some_iff.mp e).1
    rw [am_ws_len] at this
    exact this
  have a := am_ws_get (cA := cA) (ad := fun z => ad (am_sig z)) (h := am_swap h) (q := k + 1) (by omega) (show k + 1 ≤ h.2.1.2.2 by omega)
  rw [Nat.add_sub_cancel, e] at a
  refine ⟨hk, ?_⟩
  rw [am_ws_get (sig_pos (by omega)) (sig_le (by omega) hn), a, sw_ce g]
theorem sw_wd {G : va_G} {cA : Nat → ClassId} {L : Nat} {xs : Nat → Int32} {adc ad : Nat → Option Nat} {A : Nat → Prop} {s : State} {h : am_H} {H : Heap} {locs : List Loc} (w : am_Wd G cA L xs adc A s ad h H locs) (hn : 48 ≤ h.2.1.2.2) : am_Wd G cA L xs adc A s (fun z => ad (am_sig z)) (am_swap h) H locs := by
  obtain ⟨hP, hD, hS, hg⟩ := w
  refine ⟨fun k x e => hP _ x (sw_ws hg hn e).2, ⟨fun i j p q a b c => ?_, fun k x e => hD.2 _ x (sw_ws hg hn e).2⟩, hS, sw_gd hg hn⟩
  have h1 := sw_ws hg hn a
  have h2 := sw_ws hg hn b
  have e := hD.1 _ _ p q h1.2 h2.2 c
  have p1 := sig_pos (q := i + 1) (by omega)
  have p2 := sig_pos (q := j + 1) (by omega)
  have e2 : am_sig (i + 1) = am_sig (j + 1) := by omega
  have e3 := congrArg am_sig e2
  rw [sig_sig, sig_sig] at e3
  omega
theorem sw_cv (ad : Nat → Option Nat) (v : Value) : am_cv (fun z => ad (am_sig z)) (am_ren v) = am_cv ad v := by
  cases v <;> first | rfl | (show va_rf (ad (am_sig (am_sig _))) = _; rw [sig_sig]; rfl)
theorem sw_cvs (ad : Nat → Option Nat) (l : List Value) : (l.map am_ren).map (am_cv fun z => ad (am_sig z)) = l.map (am_cv ad) := by
  rw [List.map_map]
  exact List.map_congr_left fun v _ => sw_cv ad v
theorem sw_lr {ad : Nat → Option Nat} {nL : Nat} {ls : List Value} {Ls : Array Slot} (h : am_Lr ad nL ls Ls) : am_Lr (fun z => ad (am_sig z)) nL (ls.map am_ren) Ls := by
  refine ⟨h.1, h.2.1, fun i v a b => ?_⟩
  rw [List.getElem?_map] at a
  obtain ⟨w, hw, e⟩ := Option.map_eq_some_iff.mp a
  subst e
  rw [sw_cv]
  exact h.2.2 i w hw (fun z => b (by rw [z]; rfl))
theorem sw_vs {n : Nat} {l : List Value} (hn : 48 ≤ n) (h : am_vs n l) : am_vs n (l.map am_ren) := fun v hv => by
  obtain ⟨w, hw, e⟩ := List.mem_map.mp hv
  subst e
  have := h w hw
  have key : ∀ q : Nat, (q ≤ n ∨ 1000 < q) → (am_sig q ≤ n ∨ 1000 < am_sig q) := fun q h9 => by
    by_cases c : q ≤ n
    · exact Or.inl (sig_le c hn)
    · have c2 : 1000 < q := by omega
      have e9 := sig_big (a := q) (by omega)
      rw [e9]
      exact Or.inr c2
  cases w with
  | ref q => exact key q this
  | _ => exact this
theorem am_i97 : (List.range (16 * (am_cc 179).length)).all (fun i => !Nat.beq (am_ins 179 i).2.2.2 97 || Nat.beq i 102) = true := by decide +kernel

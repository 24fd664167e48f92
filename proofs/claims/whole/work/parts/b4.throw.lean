/-! A METHOD OF THE CLASS THAT THROWS: its contract, given the walk of its tests. -/
def xt_nm : List String := ["java/lang/RuntimeException", "java/lang/Exception"]
def xt_at (E : String) (ic : Nat) : List Cond := vx_atS "ScanChart" ic E xt_nm
def xt_cd (w : Cond) : Bool := match w with
  | .castable _ _ => true
  | .declares _ => true
  | _ => false
theorem xt_cd_warm {w : Cond} (hc : xt_cd w = true) {s U : State} (hW : s.WarmedH U.vm) (h : va_Nw w s) : va_Nw w U := by
  cases w <;> first | exact va_Nw.warmC hW h | exact va_Nw.warmD hW h | cases hc
def xt_ok (E : String) (ic : Nat) : Bool := ((xt_at E ic).filter (fun w => !goodWord w)).all xt_cd && (xt_at E ic).all vx_ot && (xt_at E ic).all (fun w => decide (w ∈ lw_tbl)) && Bundle.fit E && decide (Cond.initialized E ∈ lw_tbl)
theorem xt_ok1 : xt_ok "java/lang/IllegalArgumentException" 38 = true := by decide +kernel
theorem xt_ok2 : xt_ok "java/lang/IndexOutOfBoundsException" 75 = true := by decide +kernel
theorem xt_fit : ∀ n ∈ xt_nm, Bundle.fit n = true := by decide +kernel
/-- the words of a throw that a call doesn't keep by itself -/
def xt_F (E : String) (ic : Nat) (U : State) : Prop := ∀ w ∈ xt_at E ic, goodWord w = false → va_Nw w U
theorem xt_parts {E : String} {ic : Nat} (h : xt_ok E ic = true) : (∀ w ∈ xt_at E ic, goodWord w = false → xt_cd w = true) ∧ (∀ w ∈ xt_at E ic, vx_ot w = true) ∧ (∀ w ∈ xt_at E ic, w ∈ lw_tbl) ∧ Bundle.fit E = true ∧ Cond.initialized E ∈ lw_tbl := by
  unfold xt_ok at h
  simp only [Bool.and_eq_true] at h
  obtain ⟨⟨⟨⟨h1, h2⟩, h3⟩, h4⟩, h5⟩ := h
  refine ⟨fun w hw hg => List.all_eq_true.mp h1 w (List.mem_filter.mpr ⟨hw, by rw [hg]; rfl⟩), fun w hw => List.all_eq_true.mp h2 w hw, fun w hw => of_decide_eq_true (List.all_eq_true.mp h3 w hw), h4, of_decide_eq_true h5⟩
theorem xt_F.warm {E : String} {ic : Nat} (ok : xt_ok E ic = true) {s U : State} (hW : s.WarmedH U.vm) (h : xt_F E ic s) : xt_F E ic U := fun w hw hg => xt_cd_warm ((xt_parts ok).1 w hw hg) hW (h w hw hg)
theorem xt_Fof {E : String} {ic : Nat} (ok : xt_ok E ic = true) {args : Array Value} {s : State} (hts : ∀ w ∈ lw_tbl, w.before args s = true) : xt_F E ic s := fun w hw hg => by
  have h1 := (xt_parts ok).2.1 w hw
  unfold vx_ot at h1
  rw [hg, Bool.or_false] at h1
  exact va_Nw.of h1 (hts w ((xt_parts ok).2.2.1 w hw))
def xt_Pc (As : List Value) (sz : Nat) (own E text : String) (is ic : Nat) : Array Value → State → Prop := va_Pc As (fun U => U.heap.size = sz ∧ vx_Zq Bundle.tN "UNASSIGNED_STACK" Bundle.steD (fun q => sz ≤ q) U U.heap ∧ vx_Zq Bundle.tN "SUPPRESSED_SENTINEL" Bundle.listD (fun q => sz ≤ q) U U.heap ∧ xt_F E ic U ∧ ∃ q, vk_R own is text q U)
def xt_XC (E : String) : String → State → State → Prop := fun E' st t => E' = E ∧ st.heap.size ≤ t.heap.size ∧ ∀ q : Nat, q < st.heap.size → t.heap[q]? = st.heap[q]?
theorem xt_blind {As : List Value} {sz : Nat} {own E text : String} {is ic : Nat} (ok : xt_ok E ic = true) : FrameBlind (xt_Pc As sz own E text is ic) := fun a U g mk ⟨ha, hsz, hU, hN, hF, q, hq⟩ =>
  ⟨ha, hsz, vx_Zq.moved (u := U) (U := U.calling g mk a) (Vm.Alike.refl U.vm) hU, vx_Zq.moved (u := U) (U := U.calling g mk a) (Vm.Alike.refl U.vm) hN, xt_F.warm (s := U) (U := U.calling g mk a) ok (State.WarmedH.refl U) hF, q, vk_R.warm (s := U) (U := U.calling g mk a) (State.WarmedH.refl U) hq⟩
/-- the tests ahead of the throw, walked -/
def xt_pre (k pcT : Nat) (As : List Value) : Prop := ∀ (p : Program) (l : Launch) (e : Env) (R : Room) (s : State) (m : MethodId) (args : Array Value) (below : List Frame) (meth : Method) (c : Code) (H : Heap) (locs : List Loc) (cells slots : Nat) (Q : State → Prop) (ls : Array Slot), p.tables.exec = Jvm.exec → c.code = am_bc k → (∀ w ∈ am_good, w.before args s = true) → s.vm.findClass (am_own k) = some m.cls → lv_has ls (am_nL k) (lv_args 0 As) → W p l e R s m args below meth c H locs cells slots Q (F0 m pcT ls []) → W p l e R s m args below meth c H locs cells slots Q (F0 m 0 ls [])
def xt_dec (k pcT ik is ic : Nat) : Prop := decode (am_bc k) pcT = .ok (.new ik, 3) ∧ decode (am_bc k) (pcT + 3) = .ok (.dup, 1) ∧ decode (am_bc k) (pcT + 4) = .ok (.ldc is, 2) ∧ decode (am_bc k) (pcT + 6) = .ok (.invokespecial ic, 3) ∧ decode (am_bc k) (pcT + 9) = .ok (.athrow, 1) ∧ am_own k = "ScanChart" ∧ plainName (am_y k).cls = true
theorem xt_met {l : Launch} (hl : l.stackTraces = false) {k pcT ik is ic sz : Nat} {E text : String} {As : List Value} (ok : xt_ok E ic = true) (hk : Cond.classLink "ScanChart" ik E ∈ am_good) (hd : xt_dec k pcT ik is ic) (hlen : (lg_sl As).length ≤ am_nL k) (pre : xt_pre k pcT As) :
    vx_Met l (am_y k) (am_wsm k) { frames := 6, cells := 1, slots := 6, locals := 82 } (xt_Pc As sz "ScanChart" E text is ic) (fun _ _ _ _ => False) (xt_XC E) 1 6 (fun q => sz ≤ q) := by
  obtain ⟨d0, d3, d4, d6, d9, ho, hpl⟩ := hd
  obtain ⟨p1, p2, p3, p4, p5⟩ := xt_parts ok
  refine vx_ofW (ws' := am_good) (cc := am_bc k) (maxL := am_nL k) (ret := am_rty k) hpl rfl ?_
  intro p e s m args below meth c s₁ B hml ht hPc
  obtain ⟨hargs, hsz, hU, hN, hF, sa, hstr⟩ := hPc
  have hts : ∀ w ∈ am_good, w.before args s = true := fun w hw => atoms_spec (ws := am_wsm k) B.pre w (List.mem_cons_of_mem _ hw)
  have hown : s.vm.findClass (am_own k) = some m.cls := findClass_of_methodNamed B.named
  have hx := B.exec
  have hb := B.bytes
  have hlocks := B.notSynchronized
  have hat : ∀ w ∈ vx_atS "ScanChart" ic E xt_nm, w.before args s = true := fun w hw => by
    cases hg : goodWord w with
    | true => exact hts w (am_good_in (p3 w hw) hg)
    | false =>
      have h1 := p2 w hw
      unfold vx_ot at h1
      rw [hg, Bool.or_false] at h1
      exact va_Nw.use h1 (hF w hw hg)
  have hini : (Cond.initialized E).before args s = true := hts _ (am_good_in p5 rfl)
  have hgood : ∀ w ∈ Cond.classLink "ScanChart" ik E :: Cond.initialized E :: vx_atS "ScanChart" ic E xt_nm, vx_ot w = true := fun w hw => by
    rcases List.mem_cons.mp hw with rfl | hw
    · rfl
    · rcases List.mem_cons.mp hw with rfl | hw
      · rfl
      · exact p2 w hw
  have hl0 := lv_entry As (n := am_nL k) hlen
  rw [hargs, lg_entry_eq]
  rw [← hargs]
  generalize (lg_sl As ++ List.replicate (am_nL k - (lg_sl As).length) Slot.unset).toArray = ls at hl0 ⊢
  refine pre p l e _ s m args below meth c s.heap [] 0 0 _ ls hx hb hts hown hl0 ?_
  rw [ho] at hown
  exact vx_throwS (names := xt_nm) (own := "ScanChart") (cls := E) (text := text) (ik := ik) (is := is) (ic := ic) (sa := sa) (A := fun q => sz ≤ q) hx hb hl hown p4 xt_fit (hts _ hk) hini hstr hat hgood hU hN va_S.rf (hl0.1.trans hml.symm) d0 d3 d4 d6 d9 (fun x hx => (ht x hx).elim) (show (5 : Nat) < 6 from by decide) (show (82 : Nat) ≤ 82 from by decide) (show (1 : Nat) ≤ 1 from by decide) (show (6 : Nat) ≤ 6 from by decide) hlocks (fun t _ h1 h2 => ⟨rfl, h1, h2⟩) (fun _ h => nomatch h) (Nat.le_refl _) (Nat.le_refl _)

/-! A WRAPPER OF THE LAW WHOSE CALL THROWS: it answers 1 or 2. -/
def xw_Pc (b : Nat) (As : List Value) (sz : Nat) (E text : String) (is ic : Nat) (N : State → Prop) : Array Value → State → Prop := va_Pc (.ref b :: As) (fun U => U.heap.size = sz ∧ vx_Zq Bundle.tN "UNASSIGNED_STACK" Bundle.steD (fun q => sz ≤ q) U U.heap ∧ vx_Zq Bundle.tN "SUPPRESSED_SENTINEL" Bundle.listD (fun q => sz ≤ q) U U.heap ∧ xt_F E ic U ∧ (∃ q, vk_R "ScanChart" is text q U) ∧ (∃ cellB : Cell, U.heap[b]? = some cellB ∧ cellB.vm.isStatics = false ∧ U.vm.findClass "ScanChart" = some cellB.cls) ∧ N U)
def xw_Qc (v : Int32) : Array Value → State → Outcome → State → Prop := fun _ st o t => o = .returned (some (.int v)) ∧ st.heap.size ≤ t.heap.size ∧ ∀ q : Nat, q < st.heap.size → t.heap[q]? = st.heap[q]?
/-- the wrapper's way to its call -/
def xw_pre (cc : ByteArray) (maxL pcC : Nat) (As st : List Value) : Prop := ∀ (p : Program) (l : Launch) (e : Env) (R : Room) (s : State) (m : MethodId) (args : Array Value) (below : List Frame) (meth : Method) (c : Code) (H : Heap) (locs : List Loc) (cells slots : Nat) (Q : State → Prop) (ls : Array Slot), p.tables.exec = Jvm.exec → c.code = cc → lv_has ls maxL (lv_args 0 As) → W p l e R s m args below meth c H locs cells slots Q (F0 m pcC ls st) → W p l e R s m args below meth c H locs cells slots Q (F0 m 0 ls [])
/-- .. and from the catch to its answer -/
def xw_post (cc : ByteArray) (maxL pcH pcR : Nat) (v : Int32) : Prop := decode cc pcR = .ok (.ireturn, 1) ∧ ∀ (p : Program) (l : Launch) (e : Env) (R : Room) (s : State) (m : MethodId) (args : Array Value) (below : List Frame) (meth : Method) (c : Code) (H : Heap) (locs : List Loc) (cells slots : Nat) (Q : State → Prop) (ls : Array Slot) (q : Nat), p.tables.exec = Jvm.exec → c.code = cc → lv_has ls maxL [] → (∀ ls', W p l e R s m args below meth c H locs cells slots Q (F0 m pcR ls' [.int v])) → W p l e R s m args below meth c H locs cells slots Q (F0 m pcH ls [.ref q])
def xw_dec (yW : MethodName) (cc : ByteArray) (index pcC k : Nat) : Prop := plainName yW.cls = true ∧ yW.cls = "ScanChartLaw" ∧ decode cc pcC = .ok (.invokevirtual index, 3) ∧ (am_y k).cls = "ScanChart" ∧ Cond.methodLink "ScanChartLaw" index (am_y k) ∈ am_good ∧ Cond.instanceMethod (am_y k) ∈ am_good ∧ Cond.selects "ScanChart" (am_y k) (am_y k) ∈ am_good ∧ Cond.initialized (am_y k).cls ∈ am_good
set_option maxHeartbeats 4000000 in
theorem xw_met {l : Launch} {k index pcC pcR sz is ic b maxL n : Nat} {E text nm : String} {yW : MethodName} {cc : ByteArray} {hh : List (Nat × Nat × Nat × Nat)} {As Ac rest : List Value} {v : Int32} {N : State → Prop} (hk : k < 179) (ok : xt_ok E ic = true)
    (hM : vx_Met l (am_y k) (am_wsm k) { frames := 6, cells := 1, slots := 6, locals := 82 } (xt_Pc (.ref b :: Ac) sz "ScanChart" E text is ic) (fun _ _ _ _ => False) (xt_XC E) 1 6 (fun q => sz ≤ q))
    (hd : xw_dec yW cc index pcC k) (hlen : (lg_sl (.ref b :: As)).length ≤ maxL) (hnL : am_nL k ≤ 8) (hrs : (rest.map fun v => v.category).sum ≤ 8) (hn : Ac.length = n) (hpar : (parseMethodDescriptor (am_y k).desc).map (fun d => d.parameters.length) = some n)
    (pre : xw_pre cc maxL pcC (.ref b :: As) (Ac.reverse ++ .ref b :: rest)) (x : ExceptionTableEntry) (pr su : List ExceptionTableEntry) (htab : tableOf hh = pr ++ x :: su) (post : xw_post cc maxL x.handlerPc pcR v) (hcov : covers x pcC = true) (h0 : x.catchType ≠ 0) (hlk : Cond.classLink "ScanChartLaw" x.catchType E ∈ am_good) (hcast : Cond.castable E E ∈ xt_at E ic) (hcg : goodWord (Cond.castable E E) = false)
    (hpass : ∀ z ∈ pr, z.catchType ≠ 0 ∧ ∃ nm : String, Cond.classLink "ScanChartLaw" z.catchType nm ∈ am_good ∧ ∀ U : State, N U → va_Nc E nm U) (hNb : ∀ (a : Array Value) (U : State) (g : JFrame) (mk : MethodId), N U → N (U.calling g mk a)) :
    Met l yW (Cond.codeWith yW cc maxL (some .int) hh :: am_good) { frames := 7, cells := 1, slots := 6, locals := 109 } (xw_Pc b As sz E text is ic N) (xw_Qc v) 1 6 (fun q => sz ≤ q) := by
  obtain ⟨d1, d2, d3, d4, w1, w2, w3, w4⟩ := hd
  refine va_MetW (ws' := am_good) (cc := cc) (maxL := maxL) (ret := some .int) (hh := hh) d1 rfl ?_
  intro p e s m args below meth c s₁ B hml hPc
  obtain ⟨hargs, hsz, hU, hNn, hF, hstr, hrec, hN⟩ := hPc
  have hts0 := atoms_spec (ws := Cond.codeWith yW cc maxL (some .int) hh :: am_good) B.pre
  have hts : ∀ w ∈ am_good, w.before args s = true := fun w hw => hts0 w (List.mem_cons_of_mem _ hw)
  have hown : s.vm.findClass "ScanChartLaw" = some m.cls := by rw [← d2]; exact findClass_of_methodNamed B.named
  have hx := B.exec
  have hb := B.bytes
  have htb := vx_table (x := yW) B (hts0 _ List.mem_cons_self)
  have hl0 := lv_entry (.ref b :: As) (n := maxL) hlen
  have hret := B.returns
  rw [hargs, lg_entry_eq]
  rw [← hargs]
  generalize (lg_sl (.ref b :: As) ++ List.replicate (maxL - (lg_sl (.ref b :: As)).length) Slot.unset).toArray = ls at hl0 ⊢
  refine pre p l e _ s m args below meth c s.heap [] 0 0 _ ls hx hb hl0 ?_
  obtain ⟨m1, m2, m3, -, -⟩ := am_mok_at hk
  have SF : CallFix p m c cc maxL s args am_good "ScanChartLaw" := ⟨hx, hb, hml, hown, hts⟩
  have cw : CallW (headSpec (Cond.codeWith yW cc maxL (some .int) hh :: am_good) { frames := 7, cells := 1, slots := 6, locals := 109 }).room s args "ScanChartLaw" "ScanChart" index (am_y k) (am_bc k) (am_nL k) (am_rty k) (am_wsm k) { frames := 6, cells := 1, slots := 6, locals := 82 } 1 6 n := cwV (ws' := am_good) n hts (fun w hw => by
      unfold wsV at hw
      rcases List.mem_append.mp hw with z1 | z1
      · simp only [List.mem_cons, List.not_mem_nil, or_false] at z1
        have : w ∈ am_good := by
          rcases z1 with z1 | z1 | z1 | z1 <;> rw [z1]
          · exact w1
          · exact w2
          · exact w3
          · rw [← d4]; exact w4
        exact ⟨this, am_good_word this⟩
      · exact am_wsm_good hk w z1) rfl rfl rfl ⟨d4, m2, m3, hpar⟩ ⟨Nat.le_refl 7, by show 8 + (am_nL k + 11) + 82 ≤ 109; omega⟩
  have hr := vx_runV (e := e) (below := below) (meth := meth) (g := F0 m pcC ls (Ac.reverse ++ .ref b :: rest)) (rest := rest) (H := s.heap) (locs := []) (cells := 0) (slots := 0) SF hM cw ⟨xt_blind ok, hrec, fun U hU9 hW => ⟨rfl, by rw [hU9]; exact hsz, by rw [hU9]; exact vx_Zq.moved hW.alike hU, by rw [hU9]; exact vx_Zq.moved hW.alike hNn, xt_F.warm ok hW hF, by obtain ⟨q, hq⟩ := hstr; exact ⟨q, vk_R.warm hW hq⟩⟩⟩ rfl hn hl0.1 rfl (by show 2 * 0 + _ ≤ 8; omega) d3 ⟨Nat.le_refl 1, Nat.le_refl 6⟩
  intro T hT X
  rcases hr T hT X with ⟨v9, st₀, t, T', L, h0', X', hL, e1, e2, hf, st⟩ | ⟨q, st₀, t, T', L, E', ce, h0', X', hL, e1, e2, ⟨rfl, z1, z2⟩, hce, hcv, hcl, st⟩
  · exact hf.elim
  · have hcw : (Cond.castable E' E').before args s = true := va_Nw.use rfl (hF _ hcast hcg)
    have hl2 : lv_has ls maxL [] := ⟨hl0.1, hl0.2.1, fun q hq => absurd hq List.not_mem_nil⟩
    have K : vx_W p l e (headSpec (Cond.codeWith yW cc maxL (some .int) hh :: am_good) { frames := 7, cells := 1, slots := 6, locals := 109 }).room s m args below meth c T'.heap ([] ++ L) (0 + 1) (0 + 6) (MQ below (xw_Qc v) args s 1 6 (fun q => sz ≤ q)) (F0 m pcC ls rest) q := by
      refine vx_catch (E := E') (ce := ce) hown pr x su (htb.trans htab) (fun z hz => ?_) hcov h0 (hts _ hlk) hcw (by rw [e1]; exact hce) hcv hcl ?_
      · obtain ⟨y1, nm9, y2, y3⟩ := hpass z hz
        exact Or.inr ⟨y1, nm9, hts _ y2, y3 s hN⟩
      · refine post.2 p l e _ s m args below meth c T'.heap ([] ++ L) (0 + 1) (0 + 6) _ ls q hx hb hl2 (fun ls' => ?_)
        refine W.iret (v := v) hx hb hret (fun t9 ht9 _ => ⟨rfl, ?_, fun q9 hq9 => ?_⟩) (fun z hz => hL z (by simpa using hz)) post.1
        · rw [ht9, e1, ← h0']; exact z1
        · rw [ht9, e1, z2 q9 (by rw [h0']; exact hq9), h0']
    obtain ⟨t2, a1, b1⟩ := K T' rfl X'
    exact ⟨t2, st.trans a1, b1⟩

/-! WHAT THE READERS DO to their relation. -/
theorem LV_d {D : Nat → Nat} {tx : Nat → Nat} {N h n ng d nc f : Nat} {I : Nat → Nat → Int32} {T : Nat → Nat → Nat} {I' : Nat → Nat → Int32} {d' : Nat} (hd : d' ≤ 8) (v : LV D tx N h n ng d nc f I T I') : LV D tx N h n ng d' nc f (am_up I 2 9 (nI d')) T (am_up I' 49 27 (nI d')) := by
  obtain ⟨a, b, v1, ⟨w1, w2, w3, w4, w5, w6, w7, w8, w9, w10, w11⟩, v3, v4, v5, v6, v7, v8⟩ := v
  exact ⟨a, b, v1, ⟨w1, w2, w3, w4, w5, w6, w7, w8, hd, rfl, rfl⟩, v3, v4, v5, v6, v7, v8⟩
theorem LV_lab {D : Nat → Nat} {tx : Nat → Nat} {N h n ng d nc f : Nat} {I : Nat → Nat → Int32} {T : Nat → Nat → Nat} {I' : Nat → Nat → Int32} {l : Nat} (hl : l < 32) (hD : D n = 0) (v : LV D tx N h n ng d nc f I T I') : LV D tx N h n ng d nc f (am_up I 19 l (nI n)) T (am_up I' 57 (32 * h + l) (nI n)) := by
  obtain ⟨a, b, v1, v2, v3, v4, v5, v6, v7, v8⟩ := v
  refine ⟨a, b, v1, v2, v3, ?_, v5, v6, v7, v8⟩
  intro x hx
  by_cases e : x = l
  · subst e
    rw [am_up_here, am_up_here]
    exact ⟨rfl, Or.inr ⟨n, Nat.le_refl n, rfl, hD⟩⟩
  · rw [am_up_ne (by omega), am_up_ne (by omega)]
    exact v4 x hx
theorem LV_step {D : Nat → Nat} {tx : Nat → Nat} {N h n ng d nc f : Nat} {I : Nat → Nat → Int32} {T : Nat → Nat → Nat} {I' : Nat → Nat → Int32} {s : Nat} (hs : s < 16) (v : LV D tx N h n ng d nc f I T I') : LV D tx N h n ng d nc f (am_up I 6 9 (am_wb (I 6 9) s true)) T (am_up I' 58 (16 * h + s) 1) := by
  obtain ⟨a, b, v1, v2, v3, v4, v5, v6, v7, v8⟩ := v
  refine ⟨a, b, v1, v2, v3, v4, ?_, v6, v7, v8⟩
  intro x hx
  show _ = am_b01 (am_bt (am_wb (I 6 9) s true) x)
  rw [bt_wb (by omega) (by omega)]
  by_cases e : x = s
  · rw [if_pos e, e, am_up_here]; rfl
  · rw [if_neg e, am_up_ne (by omega)]
    exact v5 x hx
theorem LV_act {D : Nat → Nat} {tx : Nat → Nat} {N h n ng d nc f : Nat} {I : Nat → Nat → Int32} {T : Nat → Nat → Nat} {I' : Nat → Nat → Int32} {x ac kd j : Nat} (hx : x < 48) (hac : ac = 1 ∨ ac = 2 ∨ ac = 3) (hkd : kd = 1 ∨ kd = 2) (hj : j < 32) (v : LV D tx N h n ng d nc f I T I') : LV D tx N h n ng d nc f (am_up (am_up (am_up I 12 x (nI ac)) 13 x (nI kd)) 14 x (nI j)) T (am_up (am_up (am_up I' 59 (48 * h + x) (nI ac)) 60 (48 * h + x) (nI (kd + 1))) 61 (48 * h + x) (nI j)) := by
  obtain ⟨a, b, v1, v2, v3, v4, v5, v6, v7, v8⟩ := v
  refine ⟨a, b, v1, v2, v3, v4, v5, ?_, v7, v8⟩
  intro y hy
  have h3 := v6 y hy
  unfold PC rI at h3 ⊢
  have s41 : am_sig 41 = 12 := rfl
  have s42 : am_sig 42 = 13 := rfl
  have s43 : am_sig 43 = 14 := rfl
  simp only [s41, s42, s43] at h3 ⊢
  by_cases e : y = x
  · subst e
    have e12 : am_up (am_up (am_up I 12 y (nI ac)) 13 y (nI kd)) 14 y (nI j) 12 y = nI ac := am_up_here I 12 y (nI ac)
    have e13 : am_up (am_up (am_up I 12 y (nI ac)) 13 y (nI kd)) 14 y (nI j) 13 y = nI kd := am_up_here (am_up I 12 y (nI ac)) 13 y (nI kd)
    have e14 : am_up (am_up (am_up I 12 y (nI ac)) 13 y (nI kd)) 14 y (nI j) 14 y = nI j := am_up_here _ _ _ _
    have e59 : am_up (am_up (am_up I' 59 (48 * h + y) (nI ac)) 60 (48 * h + y) (nI (kd + 1))) 61 (48 * h + y) (nI j) 59 (48 * h + y) = nI ac := am_up_here I' 59 _ _
    have e60 : am_up (am_up (am_up I' 59 (48 * h + y) (nI ac)) 60 (48 * h + y) (nI (kd + 1))) 61 (48 * h + y) (nI j) 60 (48 * h + y) = nI (kd + 1) := am_up_here (am_up I' 59 (48 * h + y) (nI ac)) 60 _ _
    have e61 : am_up (am_up (am_up I' 59 (48 * h + y) (nI ac)) 60 (48 * h + y) (nI (kd + 1))) 61 (48 * h + y) (nI j) 61 (48 * h + y) = nI j := am_up_here _ _ _ _
    rw [e12, e13, e14, e59, e60, e61]
    refine ⟨rfl, Or.inr ⟨?_, kd, j, hkd, rfl, rfl, hj, rfl, rfl⟩⟩
    rcases hac with rfl | rfl | rfl
    · exact Or.inl rfl
    · exact Or.inr (Or.inl rfl)
    · exact Or.inr (Or.inr rfl)
  · have e12 : am_up (am_up (am_up I 12 x (nI ac)) 13 x (nI kd)) 14 x (nI j) 12 y = I 12 y := am_up_ne (f := I) (by omega)
    have e13 : am_up (am_up (am_up I 12 x (nI ac)) 13 x (nI kd)) 14 x (nI j) 13 y = I 13 y := am_up_ne (f := am_up I 12 x (nI ac)) (by omega)
    have e14 : am_up (am_up (am_up I 12 x (nI ac)) 13 x (nI kd)) 14 x (nI j) 14 y = I 14 y := am_up_ne (by omega)
    have e59 : am_up (am_up (am_up I' 59 (48 * h + x) (nI ac)) 60 (48 * h + x) (nI (kd + 1))) 61 (48 * h + x) (nI j) 59 (48 * h + y) = I' 59 (48 * h + y) := am_up_ne (f := I') (by omega)
    have e60 : am_up (am_up (am_up I' 59 (48 * h + x) (nI ac)) 60 (48 * h + x) (nI (kd + 1))) 61 (48 * h + x) (nI j) 60 (48 * h + y) = I' 60 (48 * h + y) := am_up_ne (f := am_up I' 59 (48 * h + x) (nI ac)) (by omega)
    have e61 : am_up (am_up (am_up I' 59 (48 * h + x) (nI ac)) 60 (48 * h + x) (nI (kd + 1))) 61 (48 * h + x) (nI j) 61 (48 * h + y) = I' 61 (48 * h + y) := am_up_ne (by omega)
    rw [e12, e13, e14, e59, e60, e61]
    exact h3
/-- the model writes into a go that doesn't count yet -/
theorem LV_gow {D : Nat → Nat} {tx : Nat → Nat} {N h n ng d nc f : Nat} {I : Nat → Nat → Int32} {T : Nat → Nat → Nat} {I' : Nat → Nat → Int32} {r : Nat} {w : Int32} (hr : 62 ≤ r ∧ r ≤ 66) (v : LV D tx N h n ng d nc f I T I') : LV D tx N h n ng d nc f I T (am_up I' r (16 * h + ng) w) := by
  obtain ⟨a, b, v1, v2, v3, v4, v5, v6, v7, v8⟩ := v
  have row : ∀ x, x ≠ r → am_up I' r (16 * h + ng) w x = I' x := fun x hx => funext fun k => am_up_ne (by omega)
  have rowk : ∀ x k, x ≠ r → am_up I' r (16 * h + ng) w x k = I' x k := fun x k hx => am_up_ne (by omega)
  refine ⟨a, ?_, ?_, ?_, ?_, ?_, ?_, ?_, ?_, ?_⟩
  · unfold TX; rw [rowk 49 2 (by omega), row 50 (by omega)]; exact b
  · unfold V_f; rw [rowk 49 3 (by omega), rowk 49 4 (by omega)]; exact v1
  · unfold V_c; rw [rowk 49 23 (by omega), rowk 56 h (by omega), rowk 67 h (by omega), rowk 49 27 (by omega)]; exact v2
  · refine ⟨v3.1, fun p hp => ?_⟩
    have h3 := v3.2 p hp
    unfold PA PJ0 PE at h3 ⊢
    rw [row 51 (by omega), row 52 (by omega), row 53 (by omega), row 54 (by omega), row 55 (by omega)]
    exact h3
  · intro l hl; rw [row 57 (by omega)]; exact v4 l hl
  · intro s hs; rw [row 58 (by omega)]; exact v5 s hs
  · intro x hx
    have h3 := v6 x hx
    unfold PC at h3 ⊢
    rw [row 59 (by omega), row 60 (by omega), row 61 (by omega)]
    exact h3
  · intro g hg
    have h3 := v7 g hg
    unfold PG at h3 ⊢
    have z : ∀ x, am_up I' r (16 * h + ng) w x (16 * h + g) = I' x (16 * h + g) := fun x => am_up_ne (by omega)
    rw [z 62, z 63, z 64, z 65, z 66]
    exact h3
  · unfold V_n; rw [rowk 49 32 (by omega), row 68 (by omega), row 69 (by omega)]; exact v8
/-- a go more -/
theorem LV_go {D : Nat → Nat} {tx : Nat → Nat} {N h n ng d nc f : Nat} {I : Nat → Nat → Int32} {T : Nat → Nat → Nat} {I' : Nat → Nat → Int32} {u7 u8 u9 u10 u11 : Int32} (hng : ng < 16) (g1 : I' 62 (16 * h + ng) = u7) (g2 : I' 63 (16 * h + ng) = u8) (g3 : I' 64 (16 * h + ng) = u9) (g4 : u9 = 0 ∨ ∃ ck, u10 = nI ck ∧ op_ok ck u11 ∧ I' 65 (16 * h + ng) = nI (cmk ck) ∧ I' 66 (16 * h + ng) = u11) (g5 : R_hi u8) (v : LV D tx N h n ng d nc f I T I') : LV D tx N h n (ng + 1) d nc f (am_up (am_up (am_up (am_up (am_up (am_up I 7 ng u7) 8 ng u8) 9 ng u9) 10 ng u10) 11 ng u11) 6 5 (nI (ng + 1))) T (am_up I' 67 h (nI (ng + 1))) := by
  obtain ⟨a, b, v1, ⟨w1, w2, w3, w4, w5, w6, w7, w8, w9, w10, w11⟩, v3, v4, v5, v6, v7, v8⟩ := v
  refine ⟨a, b, v1, ⟨w1, w2, w3, w4, w5, by omega, rfl, am_up_here _ _ _ _, w9, w10, w11⟩, v3, v4, v5, v6, ?_, v8⟩
  intro g hg
  unfold PG rI
  have s36 : am_sig 36 = 7 := rfl
  have s37 : am_sig 37 = 8 := rfl
  have s38 : am_sig 38 = 9 := rfl
  have s39 : am_sig 39 = 10 := rfl
  have s40 : am_sig 40 = 11 := rfl
  simp only [s36, s37, s38, s39, s40]
  have z : ∀ x, x ≠ 67 → am_up I' 67 h (nI (ng + 1)) x (16 * h + g) = I' x (16 * h + g) := fun x hx => am_up_ne (by omega)
  rw [z 62 (by decide), z 63 (by decide), z 64 (by decide), z 65 (by decide), z 66 (by decide)]
  have e7 : am_up (am_up (am_up (am_up (am_up (am_up I 7 ng u7) 8 ng u8) 9 ng u9) 10 ng u10) 11 ng u11) 6 5 (nI (ng + 1)) 7 g = am_up I 7 ng u7 7 g := rfl
  have e8 : am_up (am_up (am_up (am_up (am_up (am_up I 7 ng u7) 8 ng u8) 9 ng u9) 10 ng u10) 11 ng u11) 6 5 (nI (ng + 1)) 8 g = am_up I 8 ng u8 8 g := rfl
  have e9 : am_up (am_up (am_up (am_up (am_up (am_up I 7 ng u7) 8 ng u8) 9 ng u9) 10 ng u10) 11 ng u11) 6 5 (nI (ng + 1)) 9 g = am_up I 9 ng u9 9 g := rfl
  have e10 : am_up (am_up (am_up (am_up (am_up (am_up I 7 ng u7) 8 ng u8) 9 ng u9) 10 ng u10) 11 ng u11) 6 5 (nI (ng + 1)) 10 g = am_up I 10 ng u10 10 g := rfl
  have e11 : am_up (am_up (am_up (am_up (am_up (am_up I 7 ng u7) 8 ng u8) 9 ng u9) 10 ng u10) 11 ng u11) 6 5 (nI (ng + 1)) 11 g = am_up I 11 ng u11 11 g := rfl
  rw [e7, e8, e9, e10, e11]
  by_cases e : g = ng
  · rw [e, am_up_here, am_up_here, am_up_here, am_up_here, am_up_here]
    exact ⟨g1, g2, g3, g4, g5⟩
  · rw [am_up_ne (by omega), am_up_ne (by omega), am_up_ne (by omega), am_up_ne (by omega), am_up_ne (by omega)]
    have h3 := v7 g (by omega)
    unfold PG rI at h3
    simp only [s36, s37, s38, s39, s40] at h3
    exact h3
theorem NF_more {nc f id id' : Nat} {nm at' : Nat → Nat} {x : Int32} (hx : NF nc nm at' id x) (hne : id ≠ id') : NF (nc + 1) (fun k => if k = nc then id' else nm k) (fun k => if k = nc then f else at' k) id x := by
  rcases hx with ⟨e, a⟩ | ⟨k, a1, a2, a3, a4⟩
  · refine Or.inl ⟨e, fun k hk => ?_⟩
    show (if k = nc then id' else nm k) ≠ id
    by_cases c : k = nc
    · rw [if_pos c]; exact fun e => hne e.symm
    · rw [if_neg c]; exact a k (by omega)
  · refine Or.inr ⟨k, by omega, ?_, ?_, fun j hj => ?_⟩
    · show (if k = nc then id' else nm k) = id
      rw [if_neg (by omega)]; exact a2
    · show x = nI (if k = nc then f else at' k)
      rw [if_neg (by omega)]; exact a3
    · show (if j = nc then id' else nm j) ≠ id
      rw [if_neg (by omega)]; exact a4 j hj
theorem NF_here {nc f id : Nat} {nm at' : Nat → Nat} {x : Int32} (hf : f < 700) (hx : NF nc nm at' id x) (hat : ∀ k, k < nc → at' k < f) : NF (nc + 1) (fun k => if k = nc then id else nm k) (fun k => if k = nc then f else at' k) id (if x = -1 then nI f else x) := by
  rcases hx with ⟨e, a⟩ | ⟨k, a1, a2, a3, a4⟩
  · rw [if_pos e]
    refine Or.inr ⟨nc, by omega, if_pos rfl, ?_, fun j hj => ?_⟩
    · show nI f = nI (if nc = nc then f else at' nc)
      rw [if_pos rfl]
    · show (if j = nc then id else nm j) ≠ id
      rw [if_neg (by omega)]; exact a j hj
  · have ne : ¬ x = -1 := by
      rw [a3]
      intro e
      have h1 := hat k a1
      have h2 : nI (at' k) < 0 := by rw [e]; decide +kernel
      exact nI_pos (by omega) h2
    rw [if_neg ne]
    refine Or.inr ⟨k, by omega, ?_, ?_, fun j hj => ?_⟩
    · show (if k = nc then id else nm k) = id
      rw [if_neg (by omega)]; exact a2
    · show x = nI (if k = nc then f else at' k)
      rw [if_neg (by omega)]; exact a3
    · show (if j = nc then id else nm j) ≠ id
      rw [if_neg (by omega)]; exact a4 j hj
/-- a label named at f -/
theorem LV_nam_l {D : Nat → Nat} {tx : Nat → Nat} {N h n ng d nc f : Nat} {I : Nat → Nat → Int32} {T : Nat → Nat → Nat} {I' : Nat → Nat → Int32} {x : Nat} (hx : x < 32) (hf : f < 700) (v : LV D tx N h n ng d nc f I T I') : LV D tx N h n ng d (nc + 1) (f + 1) (am_up I 20 x (if I 20 x = -1 then nI f else I 20 x)) T (am_up (am_up (am_up I' 68 nc (nI (x))) 69 nc (nI f)) 49 32 (nI (nc + 1))) := by
  obtain ⟨a, b, v1, v2, v3, v4, v5, v6, v7, ⟨n1, nm, at', n2, n3, n4, n5⟩⟩ := v
  refine ⟨a, b, v1, v2, ?_, v4, v5, v6, v7, ⟨rfl, (fun k => if k = nc then x else nm k), (fun k => if k = nc then f else at' k), fun k hk => ?_, fun j k hjk hk => ?_, fun l hl => ?_, fun s hs => ?_⟩⟩
  · refine ⟨v3.1, fun p hp => ?_⟩
    rcases v3.2 p hp with e | ⟨b, l, q1, q2, q3, q4, q5, q6, q7, q8, q9, q10⟩ | e
    · exact Or.inl e
    · refine Or.inr (Or.inl ⟨b, l, q1, q2, q3, q4, q5, q6, q7, q8, q9, ?_⟩)
      rw [am_up_at]
      split
      · rename_i hh
        split
        · intro e
          have h2 : nI f < 0 := by rw [e]; decide +kernel
          exact nI_pos (by omega) h2
        · assumption
      · exact q10
    · exact Or.inr (Or.inr e)
  · show am_up I' 68 nc (nI (x)) 68 k = nI (if k = nc then x else nm k) ∧ am_up (am_up I' 68 nc (nI (x))) 69 nc (nI f) 69 k = nI (if k = nc then f else at' k) ∧ ((if k = nc then x else nm k) < 32 ∨ (100 ≤ (if k = nc then x else nm k) ∧ (if k = nc then x else nm k) < 116)) ∧ (if k = nc then f else at' k) < f + 1
    by_cases c : k = nc
    · rw [if_pos c, if_pos c, c, am_up_here, am_up_here]
      exact ⟨rfl, rfl, by omega, by omega⟩
    · obtain ⟨x1, x2, x3, x4⟩ := n2 k (by omega)
      rw [if_neg c, if_neg c, am_up_ne (by omega), am_up_ne (by omega), am_up_ne (by omega)]
      exact ⟨x1, x2, x3, by omega⟩
  · show (if j = nc then f else at' j) < (if k = nc then f else at' k)
    rw [if_neg (by omega)]
    by_cases c : k = nc
    · rw [if_pos c]; exact (n2 j (by omega)).2.2.2
    · rw [if_neg c]; exact n3 j k hjk (by omega)
  · by_cases e : l = x
    · rw [e, am_up_here]
      exact NF_here hf (n4 x hx) (fun k hk => (n2 k hk).2.2.2)
    · rw [am_up_ne (by omega)]
      exact NF_more (n4 l hl) e
  · exact NF_more (n5 s hs) (by omega)
/-- a step named at f -/
theorem LV_nam_s {D : Nat → Nat} {tx : Nat → Nat} {N h n ng d nc f : Nat} {I : Nat → Nat → Int32} {T : Nat → Nat → Nat} {I' : Nat → Nat → Int32} {x : Nat} (hx : x < 16) (hf : f < 700) (v : LV D tx N h n ng d nc f I T I') : LV D tx N h n ng d (nc + 1) (f + 1) (am_up I 21 x (if I 21 x = -1 then nI f else I 21 x)) T (am_up (am_up (am_up I' 68 nc (nI (100 + x))) 69 nc (nI f)) 49 32 (nI (nc + 1))) := by
  obtain ⟨a, b, v1, v2, v3, v4, v5, v6, v7, ⟨n1, nm, at', n2, n3, n4, n5⟩⟩ := v
  refine ⟨a, b, v1, v2, ?_, v4, v5, v6, v7, ⟨rfl, (fun k => if k = nc then 100 + x else nm k), (fun k => if k = nc then f else at' k), fun k hk => ?_, fun j k hjk hk => ?_, fun l hl => ?_, fun s hs => ?_⟩⟩
  · exact v3
  · show am_up I' 68 nc (nI (100 + x)) 68 k = nI (if k = nc then 100 + x else nm k) ∧ am_up (am_up I' 68 nc (nI (100 + x))) 69 nc (nI f) 69 k = nI (if k = nc then f else at' k) ∧ ((if k = nc then 100 + x else nm k) < 32 ∨ (100 ≤ (if k = nc then 100 + x else nm k) ∧ (if k = nc then 100 + x else nm k) < 116)) ∧ (if k = nc then f else at' k) < f + 1
    by_cases c : k = nc
    · rw [if_pos c, if_pos c, c, am_up_here, am_up_here]
      exact ⟨rfl, rfl, by omega, by omega⟩
    · obtain ⟨x1, x2, x3, x4⟩ := n2 k (by omega)
      rw [if_neg c, if_neg c, am_up_ne (by omega), am_up_ne (by omega), am_up_ne (by omega)]
      exact ⟨x1, x2, x3, by omega⟩
  · show (if j = nc then f else at' j) < (if k = nc then f else at' k)
    rw [if_neg (by omega)]
    by_cases c : k = nc
    · rw [if_pos c]; exact (n2 j (by omega)).2.2.2
    · rw [if_neg c]; exact n3 j k hjk (by omega)
  · exact NF_more (n4 l hl) (by omega)
  · by_cases e : s = x
    · rw [e, am_up_here]
      exact NF_here hf (n5 x hx) (fun k hk => (n2 k hk).2.2.2)
    · rw [am_up_ne (by omega)]
      exact NF_more (n5 s hs) (by omega)

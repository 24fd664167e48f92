/-! THE ABSTRACT MACHINE: one world of numbered cells; ints, longs, op references by (cell, place); a method's run is a function. -/
abbrev am_D : Type := (Nat → Nat → Int32) × (Nat → Nat → Int64) × (Nat → Nat → Nat)
abbrev am_Z : Type := (Nat → Nat → Nat) × (Nat → Nat × Nat) × Nat
abbrev am_H : Type := am_D × am_Z × (Nat × Nat)
abbrev am_R : Type := Option (Value × am_H)
abbrev am_K : Type := Nat → Nat → List Value → List Value → am_H → am_R
def am_up {α : Type} (f : Nat → Nat → α) (q k : Nat) (v : α) : Nat → Nat → α := fun a b => cond (Nat.beq a q && Nat.beq b k) v (f a b)
def am_clr {α : Type} (f : Nat → Nat → α) (q : Nat) (v : α) : Nat → Nat → α := fun a b => cond (Nat.beq a q) v (f a b)
abbrev am_S (h : am_H) (q : Nat) : Nat × Nat := h.2.1.2.1 q
def am_sI (h : am_H) (q k : Nat) (v : Int32) : am_H := ((am_up h.1.1 q k v, h.1.2.1, h.1.2.2), h.2)
def am_sJ (h : am_H) (q k : Nat) (v : Int64) : am_H := ((h.1.1, am_up h.1.2.1 q k v, h.1.2.2), h.2)
def am_sT (h : am_H) (q k : Nat) (v : Nat) : am_H := ((h.1.1, h.1.2.1, am_up h.1.2.2 q k v), h.2)
def am_sR (h : am_H) (q k : Nat) (v : Nat) : am_H := (h.1, (am_up h.2.1.1 q k v, h.2.1.2), h.2.2)
def am_swap (h : am_H) : am_H := ((fun a => h.1.1 (am_sig a), fun a => h.1.2.1 (am_sig a), fun a => h.1.2.2 (am_sig a)), (fun a b => am_sig (h.2.1.1 (am_sig a) b), fun a => h.2.1.2.1 (am_sig a), h.2.1.2.2), h.2.2)
def am_ren (v : Value) : Value := match v with
  | .ref q => .ref (am_sig q)
  | v => v
def am_new (h : am_H) (kd len : Nat) : am_H := ((am_clr h.1.1 (h.2.1.2.2 + 1) 0, am_clr h.1.2.1 (h.2.1.2.2 + 1) 0, am_clr h.1.2.2 (h.2.1.2.2 + 1) 0), (am_clr h.2.1.1 (h.2.1.2.2 + 1) 0, fun q => cond (Nat.beq q (h.2.1.2.2 + 1)) (kd, len) (h.2.1.2.1 q), h.2.1.2.2 + 1), (h.2.2.1 + 1, h.2.2.2 + len))
def am_vI (v : Value) (f : Int32 → am_R) : am_R := match v with
  | .int x => f x
  | _ => none
def am_vJ (v : Value) (f : Int64 → am_R) : am_R := match v with
  | .long x => f x
  | _ => none
def am_vR (v : Value) (f : Nat → am_R) : am_R := match v with
  | .ref x => f x
  | _ => none
def am_i1 (st : List Value) (f : Int32 → List Value → am_R) : am_R := match st with
  | .int x :: r => f x r
  | _ => none
def am_j1 (st : List Value) (f : Int64 → List Value → am_R) : am_R := match st with
  | .long x :: r => f x r
  | _ => none
def am_r1 (st : List Value) (f : Nat → List Value → am_R) : am_R := match st with
  | .ref x :: r => f x r
  | _ => none
def am_i2 (st : List Value) (f : Int32 → Int32 → List Value → am_R) : am_R := match st with
  | .int y :: .int x :: r => f x y r
  | _ => none
def am_j2 (st : List Value) (f : Int64 → Int64 → List Value → am_R) : am_R := match st with
  | .long y :: .long x :: r => f x y r
  | _ => none
def am_ji (st : List Value) (f : Int64 → Int32 → List Value → am_R) : am_R := match st with
  | .int y :: .long x :: r => f x y r
  | _ => none
def am_r2 (st : List Value) (f : Nat → Nat → List Value → am_R) : am_R := match st with
  | .ref y :: .ref x :: r => f x y r
  | _ => none
def am_ir (st : List Value) (f : Int32 → Nat → List Value → am_R) : am_R := match st with
  | .int j :: .ref q :: r => f j q r
  | _ => none
def am_iir (st : List Value) (f : Int32 → Int32 → Nat → List Value → am_R) : am_R := match st with
  | .int x :: .int j :: .ref q :: r => f x j q r
  | _ => none
def am_jir (st : List Value) (f : Int64 → Int32 → Nat → List Value → am_R) : am_R := match st with
  | .long x :: .int j :: .ref q :: r => f x j q r
  | _ => none
def am_rir (st : List Value) (f : Nat → Int32 → Nat → List Value → am_R) : am_R := match st with
  | .ref x :: .int j :: .ref q :: r => f x j q r
  | _ => none
def am_vr (st : List Value) (f : Value → Nat → List Value → am_R) : am_R := match st with
  | v :: .ref q :: r => f v q r
  | _ => none
def am_v1 (st : List Value) (f : Value → List Value → am_R) : am_R := match st with
  | .int x :: r => f (.int x) r
  | .ref x :: r => f (.ref x) r
  | _ => none
def am_o1 (st : List Value) (f : Value → am_R) : am_R := match st with
  | [v] => f v
  | _ => none
def am_o0 (st : List Value) (f : am_R) : am_R := match st with
  | [] => f
  | _ => none
/-- a store to local i: what was a long in front is lost -/
def am_kl (v : Value) : Value := match v with
  | .int x => .int x
  | .ref x => .ref x
  | _ => .null
def am_st1 : List Value → Nat → Value → List Value
  | [], _, _ => []
  | _ :: r, 0, v => v :: r
  | x :: r, 1, v => am_kl x :: am_st1 r 0 v
  | x :: r, n + 2, v => x :: am_st1 r (n + 1) v
def am_st2 (ls : List Value) (i : Nat) (v : Value) : List Value := ((am_st1 ls i .null).set i v).set (i + 1) .null
def am_exp : List Value → List Value
  | [] => []
  | .long x :: r => .long x :: .null :: am_exp r
  | v :: r => v :: am_exp r
def am_ent (as : List Value) (n : Nat) : List Value := am_exp as ++ List.replicate (n - (am_exp as).length) .null
def am_bit (x : Int32) : Bool := decide (x = 0) || decide (x = 1)
def am_br (cnd : ClassFile.Cond) (x y : Int32) (t f : am_R) : am_R := match cnd with
  | .eq => if x = y then t else f
  | .ne => if x = y then f else t
  | .lt => if x < y then t else f
  | .ge => if y ≤ x then t else f
  | .gt => if y < x then t else f
  | .le => if x ≤ y then t else f
def am_abr (cnd : ClassFile.ACond) (x y : Nat) (t f : am_R) : am_R := match cnd with
  | .eq => if x = y then t else f
  | .ne => if x = y then f else t
def am_sel (k : Nat → am_R) (x : Int32) (d : Nat) : Int32 → List Nat → am_R
  | _, [] => k d
  | lo, t :: ts => if x = lo then k t else am_sel k x d (lo + 1) ts
def am_inb (j : Int32) (n : Nat) (r : am_R) : am_R := if j < 0 then none else if n ≤ j.toNatClampNeg then none else r
/-- the refused calls: what the law's catch answers -/
def am_thr (a : Nat) (as : List Value) (t1 t2 ok : am_R) : am_R := match a, as with
  | 0, [_, .int n, _, _] => if n < 1 then t1 else if 8 < n then t1 else ok
  | 1, [_, .int i, _] => if i < 0 then t1 else if 32 ≤ i then t1 else ok
  | 2, [_, .int t, _] => if t < 0 then t1 else if 1000000 < t then t1 else ok
  | 3, [_, .int n, .int t, _] => if n < 0 then t1 else if 100 < n then t1 else if t < 0 then t1 else if 1000000 < t then t1 else ok
  | 4, [_, .int i, _] => if i < 0 then t1 else if 32 ≤ i then t1 else ok
  | 5, [_, .int i, _] => if i < 0 then t1 else if 4 < i then t1 else ok
  | 6, [_, .int i, _] => if i < 0 then t1 else if 32 ≤ i then t1 else ok
  | 7, [_, .int i, .int w, _] => if i < 0 then t1 else if 8 ≤ i then t1 else if w < 0 then t2 else if 3 < w then t2 else ok
  | _, _ => none
/-- the arguments of a call that the law catches: the receiver, the numbers, the place of the answer -/
def am_okw (a : Nat) (as : List Value) (h : am_H) (k : am_R) : am_R := match a, as with
  | 0, [.ref q, .int _, .long _, .ref o] => cond (Nat.beq (am_S h q).1 8 && Nat.beq (am_S h o).1 22) k none
  | 1, [.ref q, .int _, .int _] => cond (Nat.beq (am_S h q).1 8) k none
  | 2, [.ref q, .int _, .ref o] => cond (Nat.beq (am_S h q).1 8 && Nat.beq (am_S h o).1 22) k none
  | 3, [.ref q, .int _, .int _, .ref o] => cond (Nat.beq (am_S h q).1 8 && Nat.beq (am_S h o).1 22) k none
  | 4, [.ref q, .int _, .ref o] => cond (Nat.beq (am_S h q).1 8 && Nat.beq (am_S h o).1 22) k none
  | 5, [.ref q, .int _, .ref o] => cond (Nat.beq (am_S h q).1 8 && Nat.beq (am_S h o).1 22) k none
  | 6, [.ref q, .int _, .ref o] => cond (Nat.beq (am_S h q).1 8 && Nat.beq (am_S h o).1 22) k none
  | 7, [.ref q, .int _, .int _, .ref o] => cond (Nat.beq (am_S h q).1 8 && Nat.beq (am_S h o).1 22) k none
  | _, _ => none
def am_bump (h : am_H) : am_H := (h.1, h.2.1, (h.2.2.1 + 2, h.2.2.2 + 16))
def am_win (a : Nat) (as : List Value) : List Value := match a with
  | 1 => as
  | _ => as.dropLast
def am_out (a : Nat) (as : List Value) (v : Value) (h : am_H) (k : am_H → am_R) : am_R := match a with
  | 1 => k h
  | 4 => match as.getLast? with
    | some (.ref o) => cond (Nat.beq (am_S h o).1 22) (am_inb 0 (am_S h o).2 (am_vI v fun x => if x = 0 then k (am_sJ h o 0 0) else k (am_sJ h o 0 1))) none
    | _ => none
  | _ => match as.getLast? with
    | some (.ref o) => cond (Nat.beq (am_S h o).1 22) (am_inb 0 (am_S h o).2 (am_vI v fun x => k (am_sJ h o 0 x.toInt64))) none
    | _ => none
def am_recv (c : Nat) (as : List Value) (h : am_H) (k : am_R) : am_R := match c, as with
  | 0, _ => k
  | c + 1, .ref q :: _ => cond (Nat.beq (am_S h q).1 (c + 1)) k none
  | _, _ => none
def am_back (t : Nat) (v : Value) (r : List Value) (k : List Value → am_R) : am_R := match t with
  | 0 => k r
  | 2 => am_vJ v fun x => k (.long x :: r)
  | 3 => am_vR v fun x => k (.ref x :: r)
  | _ => am_vI v fun x => k (.int x :: r)
def am_run (K : am_K) (a : Nat) (as : List Value) (h : am_H) (k : Value × am_H → am_R) : am_R :=
  cond (Nat.ble (am_exp as).length (am_nL a)) ((K a 0 (am_ent as (am_nL a)) [] h).bind k) none
def am_call (K : am_K) (m i : Nat) (ls st : List Value) (h : am_H) (a b c : Nat) : am_R :=
  cond (Nat.ble b st.length && Nat.ble (st.drop b).length 4) (
    cond (Nat.beq c 99) (cond (Nat.beq b 1) (am_r1 st fun q r => cond (Nat.ble 1 (am_S h q).1 && Nat.ble (am_S h q).1 9) (K m (i + 1) ls r h) none) none) (
    cond (Nat.beq c 98) (am_okw a (st.take b).reverse h (am_thr a (st.take b).reverse (K m (i + 1) ls (.int 1 :: st.drop b) (am_bump h)) (K m (i + 1) ls (.int 2 :: st.drop b) (am_bump h)) (am_run K (am_wm a) (am_win a (st.take b).reverse) h fun rh => am_out a (st.take b).reverse rh.1 rh.2 fun h' => K m (i + 1) ls (.int 0 :: st.drop b) h'))) (
    cond (Nat.beq c 97) (cond (Nat.ble 48 h.2.1.2.2) (am_recv 8 (st.take b).reverse h (am_run K a (st.take b).reverse h fun rh => am_vI rh.1 fun x => cond (Nat.beq (rh.2.2.1.1 1 2) 34) (K m (i + 1) ls (.int x :: st.drop b) rh.2) (K m (i + 1) (ls.map am_ren) (.int x :: (st.drop b).map am_ren) (am_swap rh.2)))) none) (
    am_recv c (st.take b).reverse h (am_run K a (st.take b).reverse h fun rh => am_back (am_rt a) rh.1 (st.drop b) fun r => K m (i + 1) ls r rh.2))))) none
def am_fin (m : Nat) (v : Value) (h : am_H) : am_R := match am_rt m, v with
  | 1, .int x => some (.int x, h)
  | 2, .long x => some (.long x, h)
  | 3, .ref x => some (.ref x, h)
  | 4, .int x => cond (am_bit x) (some (.int x, h)) none
  | 5, .int x => if x < 0 then none else if 65535 < x then none else some (.int x, h)
  | 6, .int x => if x = 0 then some (.int x, h) else none
  | _, _ => none
def am_step (K : am_K) (m i : Nat) (ls st : List Value) (h : am_H) : am_R :=
  match am_ins m i with
  | (ir, a, b, c) => match ir with
    | .iload_n _ => am_vI (ls.getD a .null) fun x => K m (i + 1) ls (.int x :: st) h
    | .iload _ => am_vI (ls.getD a .null) fun x => K m (i + 1) ls (.int x :: st) h
    | .lload_n _ => am_vJ (ls.getD a .null) fun x => K m (i + 1) ls (.long x :: st) h
    | .lload _ => am_vJ (ls.getD a .null) fun x => K m (i + 1) ls (.long x :: st) h
    | .aload_n _ => am_vR (ls.getD a .null) fun x => K m (i + 1) ls (.ref x :: st) h
    | .aload _ => am_vR (ls.getD a .null) fun x => K m (i + 1) ls (.ref x :: st) h
    | .istore_n _ => am_i1 st fun x r => K m (i + 1) (am_st1 ls a (.int x)) r h
    | .istore _ => am_i1 st fun x r => K m (i + 1) (am_st1 ls a (.int x)) r h
    | .astore_n _ => am_r1 st fun x r => K m (i + 1) (am_st1 ls a (.ref x)) r h
    | .astore _ => am_r1 st fun x r => K m (i + 1) (am_st1 ls a (.ref x)) r h
    | .lstore_n _ => am_j1 st fun x r => K m (i + 1) (am_st2 ls a (.long x)) r h
    | .lstore _ => am_j1 st fun x r => K m (i + 1) (am_st2 ls a (.long x)) r h
    | .iinc _ _ => am_vI (ls.getD a .null) fun x => K m (i + 1) (am_st1 ls a (.int (x + am_gI b))) st h
    | .iconst _ => K m (i + 1) ls (.int (am_gI a) :: st) h
    | .bipush _ => K m (i + 1) ls (.int (am_gI a) :: st) h
    | .sipush _ => K m (i + 1) ls (.int (am_gI a) :: st) h
    | .lconst _ => K m (i + 1) ls (.long (am_gJ a) :: st) h
    | .ldc2_w _ => K m (i + 1) ls (.long (am_gJ a) :: st) h
    | .ldc _ => cond (Nat.beq b 1) (K m (i + 1) ls (.int (am_gI a) :: st) h) (K m (i + 1) ls (.ref a :: st) h)
    | .ldc_w _ => cond (Nat.beq b 1) (K m (i + 1) ls (.int (am_gI a) :: st) h) (K m (i + 1) ls (.ref a :: st) h)
    | .aconst_null => K m (i + 1) ls (.ref 0 :: st) h
    | .getstatic _ => cond (Nat.beq b 1) (K m (i + 1) ls (.int (am_gI a) :: st) h) (K m (i + 1) ls (.ref a :: st) h)
    | .iadd => am_i2 st fun x y r => K m (i + 1) ls (.int (x + y) :: r) h
    | .isub => am_i2 st fun x y r => K m (i + 1) ls (.int (x - y) :: r) h
    | .imul => am_i2 st fun x y r => K m (i + 1) ls (.int (x * y) :: r) h
    | .iand => am_i2 st fun x y r => K m (i + 1) ls (.int (x &&& y) :: r) h
    | .ior => am_i2 st fun x y r => K m (i + 1) ls (.int (x ||| y) :: r) h
    | .ixor => am_i2 st fun x y r => K m (i + 1) ls (.int (x ^^^ y) :: r) h
    | .ishl => am_i2 st fun x y r => K m (i + 1) ls (.int (x <<< (y &&& 31)) :: r) h
    | .ishr => am_i2 st fun x y r => K m (i + 1) ls (.int (x >>> (y &&& 31)) :: r) h
    | .iushr => am_i2 st fun x y r => K m (i + 1) ls (.int (x.toUInt32 >>> (y.toUInt32 &&& Int32.toUInt32 31)).toInt32 :: r) h
    | .idiv => am_i2 st fun x y r => if y = 0 then none else K m (i + 1) ls (.int (x / y) :: r) h
    | .irem => am_i2 st fun x y r => if y = 0 then none else K m (i + 1) ls (.int (x - x / y * y) :: r) h
    | .ladd => am_j2 st fun x y r => K m (i + 1) ls (.long (x + y) :: r) h
    | .lsub => am_j2 st fun x y r => K m (i + 1) ls (.long (x - y) :: r) h
    | .lmul => am_j2 st fun x y r => K m (i + 1) ls (.long (x * y) :: r) h
    | .land => am_j2 st fun x y r => K m (i + 1) ls (.long (x &&& y) :: r) h
    | .lor => am_j2 st fun x y r => K m (i + 1) ls (.long (x ||| y) :: r) h
    | .lshl => am_ji st fun x y r => K m (i + 1) ls (.long (x <<< (y.toInt64 &&& 63)) :: r) h
    | .lshr => am_ji st fun x y r => K m (i + 1) ls (.long (x >>> (y.toInt64 &&& 63)) :: r) h
    | .lushr => am_ji st fun x y r => K m (i + 1) ls (.long (x.toUInt64 >>> (y.toInt64.toUInt64 &&& Int64.toUInt64 63)).toInt64 :: r) h
    | .lneg => am_j1 st fun x r => K m (i + 1) ls (.long (-x) :: r) h
    | .lcmp => am_j2 st fun x y r => K m (i + 1) ls (.int (lg_cmp x y) :: r) h
    | .i2l => am_i1 st fun x r => K m (i + 1) ls (.long x.toInt64 :: r) h
    | .l2i => am_j1 st fun x r => K m (i + 1) ls (.int x.toInt32 :: r) h
    | .i2b => am_i1 st fun x r => K m (i + 1) ls (.int x.toInt8.toInt32 :: r) h
    | .i2c => am_i1 st fun x r => K m (i + 1) ls (.int (x.toUInt32 % 65536).toInt32 :: r) h
    | .goto _ => K m a ls st h
    | .ifCond cnd _ => am_i1 st fun x r => am_br cnd x 0 (K m a ls r h) (K m (i + 1) ls r h)
    | .if_icmp cnd _ => am_i2 st fun x y r => am_br cnd x y (K m a ls r h) (K m (i + 1) ls r h)
    | .if_acmp cnd _ => am_r2 st fun x y r => cond ((Nat.beq (am_S h x).1 30 || Nat.beq x 0) && (Nat.beq (am_S h y).1 30 || Nat.beq y 0)) (am_abr cnd x y (K m a ls r h) (K m (i + 1) ls r h)) none
    | .ifnull _ => am_r1 st fun x r => cond (Nat.beq (am_S h x).1 30 || Nat.beq x 0) (if x = 0 then K m a ls r h else K m (i + 1) ls r h) none
    | .ifnonnull _ => am_r1 st fun x r => cond (Nat.beq (am_S h x).1 30 || Nat.beq x 0) (if x = 0 then K m (i + 1) ls r h else K m a ls r h) none
    | .tableswitch .. => am_i1 st fun x r => am_sel (fun t => K m t ls r h) x ((am_sw.getD a []).headD 0) (am_gI b) (am_sw.getD a []).tail
    | .getfield _ => am_r1 st fun q r => cond (Nat.beq (am_S h q).1 b) (
      cond (Nat.beq c 0) (K m (i + 1) ls (.int (h.1.1 q a) :: r) h) (
      cond (Nat.beq c 1) (K m (i + 1) ls (.long (h.1.2.1 q a) :: r) h) (
      cond (Nat.beq c 2) (K m (i + 1) ls (.ref (h.2.1.1 q a) :: r) h) (
      cond (Nat.beq c 3) (K m (i + 1) ls (.int (am_cI q a) :: r) h) (
      cond (Nat.beq c 4) (K m (i + 1) ls (.ref (am_cR q a) :: r) h) (
      cond (Nat.beq c 5) (K m (i + 1) ls (.int (h.1.1 q a) :: r) h) none)))))) none
    | .putfield _ => am_vr st fun v q r => cond (Nat.beq (am_S h q).1 b) (
      cond (Nat.beq c 0) (am_vI v fun x => K m (i + 1) ls r (am_sI h q a x)) (
      cond (Nat.beq c 1) (am_vJ v fun x => K m (i + 1) ls r (am_sJ h q a x)) (
      cond (Nat.beq c 2) (am_vR v fun x => K m (i + 1) ls r (am_sR h q a x)) (
      cond (Nat.beq c 5) (am_vI v fun x => cond (am_bit x) (K m (i + 1) ls r (am_sI h q a x)) none) none)))) none
    | .arraylength => am_r1 st fun q r => cond (Nat.ble 20 (am_S h q).1 && Nat.ble (am_S h q).1 27) (K m (i + 1) ls (.int (nI (am_S h q).2) :: r) h) none
    | .iaload => am_ir st fun j q r => cond (Nat.beq (am_S h q).1 20 || Nat.beq (am_S h q).1 24) (am_inb j (am_S h q).2 (K m (i + 1) ls (.int (h.1.1 q j.toNatClampNeg) :: r) h)) (
        cond (Nat.beq (am_S h q).1 26) (am_inb j (am_S h q).2 (K m (i + 1) ls (.int (am_cI q j.toNatClampNeg) :: r) h)) none)
    | .baload => am_ir st fun j q r => cond (Nat.beq (am_S h q).1 21) (am_inb j (am_S h q).2 (K m (i + 1) ls (.int (h.1.1 q j.toNatClampNeg) :: r) h)) (
        cond (Nat.beq (am_S h q).1 27) (am_inb j (am_S h q).2 (K m (i + 1) ls (.int (am_cI q j.toNatClampNeg) :: r) h)) none)
    | .laload => am_ir st fun j q r => cond (Nat.beq (am_S h q).1 22) (am_inb j (am_S h q).2 (K m (i + 1) ls (.long (h.1.2.1 q j.toNatClampNeg) :: r) h)) none
    | .aaload => am_ir st fun j q r => cond (Nat.beq (am_S h q).1 23) (am_inb j (am_S h q).2 (K m (i + 1) ls (.ref (h.1.2.2 q j.toNatClampNeg) :: r) h)) (
        cond (Nat.beq (am_S h q).1 25) (am_inb j (am_S h q).2 (K m (i + 1) ls (.ref (am_cR q j.toNatClampNeg) :: r) h)) none)
    | .iastore => am_iir st fun x j q r => cond (Nat.beq (am_S h q).1 20) (am_inb j (am_S h q).2 (K m (i + 1) ls r (am_sI h q j.toNatClampNeg x))) none
    | .bastore => am_iir st fun x j q r => cond (Nat.beq (am_S h q).1 21) (am_inb j (am_S h q).2 (cond (am_bit x) (K m (i + 1) ls r (am_sI h q j.toNatClampNeg x)) none)) none
    | .lastore => am_jir st fun x j q r => cond (Nat.beq (am_S h q).1 22) (am_inb j (am_S h q).2 (K m (i + 1) ls r (am_sJ h q j.toNatClampNeg x))) none
    | .aastore => am_rir st fun x j q r => cond (Nat.beq (am_S h q).1 23) (am_inb j (am_S h q).2 (cond (Nat.beq (am_S h x).1 30) (K m (i + 1) ls r (am_sT h q j.toNatClampNeg x)) none)) none
    | .new _ => cond (Nat.ble (h.2.1.2.2 + 1) 1000) (K m (i + 1) ls (.ref (h.2.1.2.2 + 1) :: st) (am_new h a b)) none
    | .newarray _ => am_i1 st fun x r => if x < 0 then none else if 65536 < x.toNatClampNeg then none else cond (Nat.ble (h.2.1.2.2 + 1) 1000) (K m (i + 1) ls (.ref (h.2.1.2.2 + 1) :: r) (am_new h a x.toNatClampNeg)) none
    | .anewarray _ => am_i1 st fun x r => if x < 0 then none else if 65536 < x.toNatClampNeg then none else cond (Nat.ble (h.2.1.2.2 + 1) 1000) (K m (i + 1) ls (.ref (h.2.1.2.2 + 1) :: r) (am_new h a x.toNatClampNeg)) none
    | .dup => am_v1 st fun v r => K m (i + 1) ls (v :: v :: r) h
    | .dup2 => am_ir st fun y x r => K m (i + 1) ls (.int y :: .ref x :: .int y :: .ref x :: r) h
    | .pop => am_v1 st fun _ r => K m (i + 1) ls r h
    | .invokevirtual _ => am_call K m i ls st h a b c
    | .invokespecial _ => am_call K m i ls st h a b c
    | .invokestatic _ => am_call K m i ls st h a b c
    | .ireturn => am_o1 st fun v => am_vI v fun _ => am_fin m v h
    | .lreturn => am_o1 st fun v => am_vJ v fun _ => am_fin m v h
    | .areturn => am_o1 st fun v => am_vR v fun _ => am_fin m v h
    | .return_ => am_o0 st (cond (Nat.beq (am_rt m) 0) (some (.null, h)) none)
    | _ => none
def am_ex : Nat → am_K
  | 0 => fun _ _ _ _ _ => none
  | n + 1 => am_step (am_ex n)

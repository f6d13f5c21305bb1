/-! one instruction of my machine -/
def am_no : am_R := .inr (.inr (.inr (.inr (.inr ()))))
def am_two : Option (Option Value) → Bool
  | some (some (.long _)) => true
  | some (some (.double _)) => true
  | _ => false
def am_st1 (L : am_L) (i : Nat) (x : Value) : Option am_L := match Nat.blt i L.length with
  | true => (match i with
    | 0 => some (L.set 0 (some x))
    | j + 1 => (match am_two L[j]? with
      | true => none
      | false => some (L.set (j + 1) (some x))))
  | false => none
def am_st2 (L : am_L) (i : Nat) (x : Value) : Option am_L := match Nat.blt (i + 1) L.length with
  | true => (match i with
    | 0 => some ((L.set 0 (some x)).set 1 none)
    | j + 1 => (match am_two L[j]? with
      | true => none
      | false => some ((L.set (j + 1) (some x)).set (j + 2) none)))
  | false => none
def am_put (o : Option am_L) (nx : Nat) (st : List Value) (h : am_H) : am_R := match o with
  | some L => .inl (nx, L, st, h)
  | none => am_no
def am_pop : Nat → List Value → List Value → Option (List Value × List Value)
  | 0, acc, st => some (acc, st)
  | n + 1, acc, v :: st => am_pop n (v :: acc) st
  | _ + 1, _, [] => none
def am_pick (x : Int32) : List (Int32 × Nat) → Nat → Nat
  | [], d => d
  | (k, t) :: r, d => if x = k then t else am_pick x r d
def am_cats : List Value → Nat
  | [] => 0
  | v :: r => v.category + am_cats r
def am_icmp (c : ClassFile.Cond) (x y : Int32) (t n : am_F) : am_R := match c with
  | .eq => .inr (.inl (x = y, t, n))
  | .ne => .inr (.inl (x = y, n, t))
  | .lt => .inr (.inl (x < y, t, n))
  | .ge => .inr (.inl (y ≤ x, t, n))
  | .gt => .inr (.inl (y < x, t, n))
  | .le => .inr (.inl (x ≤ y, t, n))
def am_if (c : ClassFile.Cond) (x : Int32) (t n : am_F) : am_R := match c with
  | .eq => .inr (.inl (x = 0, t, n))
  | .ne => .inr (.inl (x = 0, n, t))
  | .lt => .inr (.inl (x < 0, t, n))
  | .ge => .inr (.inl (0 ≤ x, t, n))
  | .gt => .inr (.inl (0 < x, t, n))
  | .le => .inr (.inl (x ≤ 0, t, n))
/-- new objects, by class: their fields as they are made -/
def am_blank : Nat → List Value
  | 0 => [.null, .int 0, .int 0]
  | 1 => [.null, .null, .int 0, .int 0]
  | 2 => [.null, .null, .null]
  | 3 => [.int 0, .int 0, .int 0, .int 0, .int 0, .int 0, .null, .null, .null, .null]
  | 4 => [.null, .null, .null]
  | 5 => [.null, .null, .null, .null, .null, .int 0, .int 0]
  | 6 => [.null, .null, .null]
  | 7 => [.null, .int 0, .int 0, .int 0]
  | 8 => [.null, .null, .null, .null, .null, .null, .null, .null, .null, .null, .null, .int 0, .int 0]
  | 9 => [.null, .int 0, .int 0, .null, .null, .null, .null, .null, .int 0, .int 0, .int 0, .null, .int 0, .int 0, .int 0, .int 0, .null, .null, .null]
  | _ => []

def am_i1 (st : List Value) (f : Int32 → List Value → am_R) : am_R := match st with
  | .int x :: r => f x r
  | _ => am_no
def am_i2 (st : List Value) (f : Int32 → Int32 → List Value → am_R) : am_R := match st with
  | .int y :: .int x :: r => f x y r
  | _ => am_no
def am_j1 (st : List Value) (f : Int64 → List Value → am_R) : am_R := match st with
  | .long x :: r => f x r
  | _ => am_no
def am_j2 (st : List Value) (f : Int64 → Int64 → List Value → am_R) : am_R := match st with
  | .long y :: .long x :: r => f x y r
  | _ => am_no
def am_r1 (st : List Value) (f : Nat → List Value → am_R) : am_R := match st with
  | .ref q :: r => f q r
  | _ => am_no
def am_v1 (st : List Value) (f : Value → List Value → am_R) : am_R := match st with
  | x :: r => f x r
  | _ => am_no
def am_ob (h : am_H) (q : Nat) (f : Nat → List Value → am_R) : am_R := match h[q]? with
  | some (.inr (ci, fs)) => f ci fs
  | _ => am_no
def am_ar (z : Bool) (h : am_H) (q : Nat) (f : Nat → (Nat → Int32) → am_R) : am_R := match h[q]? with
  | some (.inl (z', n, g)) => (match z', z with
    | true, true => f n g
    | false, false => f n g
    | _, _ => am_no)
  | _ => am_no
def am_bb (c : Bool) (x : am_R) : am_R := match c with
  | true => x
  | false => am_no
def am_lo (L : am_L) (a : Nat) (f : Value → am_R) : am_R := match L[a]? with
  | some (some v) => f v
  | _ => am_no
def am_vi (v : Value) (f : Int32 → am_R) : am_R := match v with
  | .int x => f x
  | _ => am_no
def am_vj (v : Value) (f : Int64 → am_R) : am_R := match v with
  | .long x => f x
  | _ => am_no
def am_va (v : Value) (f : Value → am_R) : am_R := match v with
  | .ref x => f (.ref x)
  | .retAddr x => f (.retAddr x)
  | _ => am_no
def am_vr (v : Value) (f : Nat → am_R) : am_R := match v with
  | .ref x => f x
  | _ => am_no
def am_sc (v : Value) (scr : Option (Nat × (Nat → Int32))) (f : Nat → (Nat → Int32) → am_R) : am_R := match v, scr with
  | .retAddr _, some (n, g) => f n g
  | _, _ => am_no
def am_pp (n : Nat) (st : List Value) (f : List Value → List Value → am_R) : am_R := match am_pop n [] st with
  | some (as, r) => f as r
  | none => am_no
def am_fl (fs : List Value) (k : Nat) (f : Value → am_R) : am_R := match fs[k]? with
  | some x => f x
  | none => am_no
def am_nil (st : List Value) (x : am_R) : am_R := match st with
  | [] => x
  | _ => am_no
def am_go (nx : Nat) (L : am_L) (st : List Value) (h : am_H) : am_R := .inl (nx, L, st, h)
def am_ck (c : Prop) (nx : Nat) (L : am_L) (st : List Value) (h : am_H) : am_R := .inr (.inr (.inl (c, (nx, L, st, h))))
def am_rt (c : Prop) (v : Option Value) : am_R := .inr (.inr (.inr (.inl (c, v))))
def am_cl (j : Nat) (as : List Value) (nx : Nat) (L : am_L) (st : List Value) (h : am_H) : am_R := .inr (.inr (.inr (.inr (.inl (j, as, (nx, L, st, h))))))
/-- a field is written: 0 an int, 1 a boolean, 2 a final one, by its maker -/
def am_pf (tg : Nat) (x : Value) (nx : Nat) (L : am_L) (r : List Value) (h : am_H) (q ci : Nat) (fs : List Value) (b : Nat) : am_R := match tg with
  | 0 => am_vi x (fun y => am_go nx L r (h.set q (.inr (ci, fs.set b (.int y)))))
  | 1 => am_vi x (fun y => am_ck (y = 0 ∨ y = 1) nx L r (h.set q (.inr (ci, fs.set b (.int y)))))
  | _ => am_vr x (fun y => am_go nx L r (h.set q (.inr (ci, fs.set b (.ref y)))))
/-- what lies at a place of an array; a place written -/
def am_rd (f : Nat → Int32) (i : Int32) : Int32 := f i.toNatClampNeg
def am_wr (f : Nat → Int32) (i x : Int32) : Nat → Int32 := upd f i.toNatClampNeg x
/-- an int is read: out of an array of mine, or out of the script -/
def am_il (scr : Option (Nat × (Nat → Int32))) (i : Int32) (v : Value) (nx : Nat) (L : am_L) (r : List Value) (h : am_H) : am_R := match v with
  | .ref q => am_ar false h q (fun n f => am_ck (vp_in i n) nx L (.int (am_rd f i) :: r) h)
  | v => am_sc v scr (fun n f => am_ck (vp_in i n) nx L (.int (am_rd f i) :: r) h)
def am_na (ty : ArrayType) (n : Int32) (b nx : Nat) (L : am_L) (r : List Value) (h : am_H) : am_R := match ty with
  | .int => am_ck (n = nI b ∧ b ≤ 1000) nx L (.ref h.length :: r) (h ++ [.inl (false, b, fun _ => 0)])
  | .boolean => am_ck (n = nI b ∧ b ≤ 1000) nx L (.ref h.length :: r) (h ++ [.inl (true, b, fun _ => 0)])
  | _ => am_no
/-- a static method: Math.max, Math.min at once, the others by a call -/
def am_mst (a b nx : Nat) (L : am_L) (st : List Value) (h : am_H) : am_R := match Nat.beq a 228 with
  | true => am_i2 st (fun x y r => am_bb (Nat.ble (am_cats r) 8) (am_go nx L (.int (if x < y then y else x) :: r) h))
  | false => (match Nat.beq a 229 with
    | true => am_i2 st (fun x y r => am_bb (Nat.ble (am_cats r) 8) (am_go nx L (.int (if y < x then y else x) :: r) h))
    | false => am_pp b st (fun as r => am_bb (Nat.ble (am_cats r) 8) (am_cl a as nx L r h)))
/-- one instruction, at known locals, stack and cells -/
def am_step (scr : Option (Nat × (Nat → Int32))) (E : am_I) (L : am_L) (st : List Value) (h : am_H) : am_R := match E with
  | (ins, nx, tg, a, b, _, v, lv, sw) => (match ins with
    | .iconst _ => am_go nx L (.int v :: st) h
    | .bipush _ => am_go nx L (.int v :: st) h
    | .sipush _ => am_go nx L (.int v :: st) h
    | .ldc _ => am_go nx L (.int v :: st) h
    | .ldc_w _ => am_go nx L (.int v :: st) h
    | .lconst _ => am_go nx L (.long lv :: st) h
    | .ldc2_w _ => am_go nx L (.long lv :: st) h
    | .iload _ => am_lo L a (fun x => am_vi x (fun x => am_go nx L (.int x :: st) h))
    | .iload_n _ => am_lo L a (fun x => am_vi x (fun x => am_go nx L (.int x :: st) h))
    | .lload _ => am_lo L a (fun x => am_vj x (fun x => am_go nx L (.long x :: st) h))
    | .lload_n _ => am_lo L a (fun x => am_vj x (fun x => am_go nx L (.long x :: st) h))
    | .aload _ => am_lo L a (fun x => am_va x (fun x => am_go nx L (x :: st) h))
    | .aload_n _ => am_lo L a (fun x => am_va x (fun x => am_go nx L (x :: st) h))
    | .istore _ => am_i1 st (fun x r => am_put (am_st1 L a (.int x)) nx r h)
    | .istore_n _ => am_i1 st (fun x r => am_put (am_st1 L a (.int x)) nx r h)
    | .astore _ => am_r1 st (fun x r => am_put (am_st1 L a (.ref x)) nx r h)
    | .astore_n _ => am_r1 st (fun x r => am_put (am_st1 L a (.ref x)) nx r h)
    | .lstore _ => am_j1 st (fun x r => am_put (am_st2 L a (.long x)) nx r h)
    | .lstore_n _ => am_j1 st (fun x r => am_put (am_st2 L a (.long x)) nx r h)
    | .iinc _ _ => am_lo L a (fun x => am_vi x (fun x => am_put (am_st1 L a (.int (x + v))) nx st h))
    | .iadd => am_i2 st (fun x y r => am_go nx L (.int (x + y) :: r) h)
    | .isub => am_i2 st (fun x y r => am_go nx L (.int (x - y) :: r) h)
    | .imul => am_i2 st (fun x y r => am_go nx L (.int (x * y) :: r) h)
    | .iand => am_i2 st (fun x y r => am_go nx L (.int (x &&& y) :: r) h)
    | .ior => am_i2 st (fun x y r => am_go nx L (.int (x ||| y) :: r) h)
    | .ixor => am_i2 st (fun x y r => am_go nx L (.int (x ^^^ y) :: r) h)
    | .ishl => am_i2 st (fun x y r => am_go nx L (.int (x <<< (y &&& 31)) :: r) h)
    | .ishr => am_i2 st (fun x y r => am_go nx L (.int (x >>> (y &&& 31)) :: r) h)
    | .iushr => am_i2 st (fun x y r => am_go nx L (.int (x.toUInt32 >>> (y.toUInt32 &&& Int32.toUInt32 31)).toInt32 :: r) h)
    | .idiv => am_i2 st (fun x y r => am_ck (¬ y = 0) nx L (.int (x / y) :: r) h)
    | .irem => am_i2 st (fun x y r => am_ck (¬ y = 0) nx L (.int (x - x / y * y) :: r) h)
    | .ladd => am_j2 st (fun x y r => am_go nx L (.long (x + y) :: r) h)
    | .lmul => am_j2 st (fun x y r => am_go nx L (.long (x * y) :: r) h)
    | .lrem => am_j2 st (fun x y r => am_ck (¬ y = 0) nx L (.long (x - x / y * y) :: r) h)
    | .lcmp => am_j2 st (fun x y r => am_go nx L (.int (lg_cmp x y) :: r) h)
    | .ineg => am_i1 st (fun x r => am_go nx L (.int (-x) :: r) h)
    | .i2l => am_i1 st (fun x r => am_go nx L (.long x.toInt64 :: r) h)
    | .l2i => am_j1 st (fun x r => am_go nx L (.int x.toInt32 :: r) h)
    | .i2b => am_i1 st (fun x r => am_go nx L (.int x.toInt8.toInt32 :: r) h)
    | .i2s => am_i1 st (fun x r => am_go nx L (.int x.toInt16.toInt32 :: r) h)
    | .dup => am_v1 st (fun x r => am_bb (Nat.beq x.category 1) (am_go nx L (x :: x :: r) h))
    | .dup2 => am_v1 st (fun x r => am_v1 r (fun y r => am_bb (Nat.beq x.category 1) (am_bb (Nat.beq y.category 1) (am_go nx L (x :: y :: x :: y :: r) h))))
    | .pop => am_v1 st (fun x r => am_bb (Nat.beq x.category 1) (am_go nx L r h))
    | .goto _ => am_go tg L st h
    | .if_icmp c _ => am_i2 st (fun x y r => am_icmp c x y (tg, L, r, h) (nx, L, r, h))
    | .ifCond c _ => am_i1 st (fun x r => am_if c x (tg, L, r, h) (nx, L, r, h))
    | .tableswitch _ _ _ _ => am_i1 st (fun x r => am_go (am_pick x sw tg) L r h)
    | .lookupswitch _ _ => am_i1 st (fun x r => am_go (am_pick x sw tg) L r h)
    | .getfield _ => am_r1 st (fun q r => am_ob h q (fun ci fs => am_bb (Nat.beq ci a) (am_fl fs b (fun x => am_go nx L (x :: r) h))))
    | .putfield _ => am_v1 st (fun x r => am_r1 r (fun q r => am_ob h q (fun ci fs => am_bb (Nat.beq ci a) (am_bb (Nat.blt b fs.length) (am_pf tg x nx L r h q ci fs b)))))
    | .iaload => am_i1 st (fun i r => am_v1 r (fun v r => am_il scr i v nx L r h))
    | .baload => am_i1 st (fun i r => am_r1 r (fun q r => am_ar true h q (fun n f => am_ck (vp_in i n) nx L (.int (am_rd f i) :: r) h)))
    | .iastore => am_i2 st (fun i x r => am_r1 r (fun q r => am_ar false h q (fun n f => am_ck (vp_in i n) nx L r (h.set q (.inl (false, n, am_wr f i x))))))
    | .bastore => am_i2 st (fun i x r => am_r1 r (fun q r => am_ar true h q (fun n f => am_ck (vp_in i n) nx L r (h.set q (.inl (true, n, am_wr f i (vp_nar .boolean x)))))))
    | .arraylength => am_v1 st (fun v r => am_sc v scr (fun n _ => am_go nx L (.int (Int32.ofNat n) :: r) h))
    | .new _ => am_go nx L (.ref h.length :: st) (h ++ [.inr (a, am_blank a)])
    | .newarray ty => am_i1 st (fun n r => am_na ty n b nx L r h)
    | .invokespecial _ => (match tg with
      | 2 => am_r1 st (fun _ r => am_bb (Nat.ble (am_cats r) 8) (am_go nx L r h))
      | _ => am_pp b st (fun as r => am_r1 r (fun q r => am_bb (Nat.ble (am_cats r) 8) (am_cl a (.ref q :: as) nx L r h))))
    | .invokevirtual _ => am_pp b st (fun as r => am_r1 r (fun q r => am_ob h q (fun ci _ => am_bb (Nat.beq ci tg) (am_bb (Nat.ble (am_cats r) 8) (am_cl a (.ref q :: as) nx L r h)))))
    | .invokestatic _ => (match tg with
      | 2 => am_i2 st (fun dp n r => am_r1 r (fun q1 r => am_i1 r (fun sp r => am_r1 r (fun q0 r => am_bb (Nat.ble (am_cats r) 8) (am_ar false h q0 (fun n0 f => am_ar false h q1 (fun n1 g => am_ck (¬ sp < 0 ∧ ¬ dp < 0 ∧ ¬ n < 0 ∧ sp.toNatClampNeg + n.toNatClampNeg ≤ n0 ∧ dp.toNatClampNeg + n.toNatClampNeg ≤ n1) nx L r (h.set q1 (.inl (false, n1, va_cpy f g sp.toNatClampNeg dp.toNatClampNeg n.toNatClampNeg))))))))))
      | _ => am_mst a b nx L st h)
    | .ireturn => am_i1 st (fun x r => am_nil r (match tg with
      | 0 => am_rt True (some (.int x))
      | _ => am_rt (x = 0 ∨ x = 1) (some (.int x))))
    | .areturn => am_r1 st (fun q r => am_nil r (am_rt True (some (.ref q))))
    | .return_ => am_nil st (am_rt True none)
    | _ => am_no)
/-- what an outcome asks of the places where it goes on, of its answer, of its call -/
def am_K (o : am_R) (K : am_F → Prop) (Kr : Prop → Option Value → Prop) (Kc : Nat → List Value → am_F → Prop) : Prop := match o with
  | .inl f => K f
  | .inr (.inl (c, f, g)) => (c → K f) ∧ (¬ c → K g)
  | .inr (.inr (.inl (c, f))) => c ∧ K f
  | .inr (.inr (.inr (.inl (c, w)))) => Kr c w
  | .inr (.inr (.inr (.inr (.inl (j, as, f))))) => Kc j as f
  | .inr (.inr (.inr (.inr (.inr _)))) => False
/-- a run: in at most n steps, the calls by C, it comes to an end with v and the cells h' -/
def am_run (scr : Option (Nat × (Nat → Int32))) (C : Nat → List Value → am_H → Option Value → am_H → Prop) (t : am_T) : Nat → am_F → Option Value → am_H → Prop
  | 0, _, _, _ => False
  | n + 1, f, v, h' => (match am_fetch t f.1 with
    | none => False
    | some E => am_K (am_step scr E f.2.1 f.2.2.1 f.2.2.2) (fun g => am_run scr C t n g v h') (fun c w => c ∧ v = w ∧ h' = f.2.2.2) (fun j as g => ∃ (w : Option Value) (h1 : am_H), C j as f.2.2.2 w h1 ∧ am_run scr C t n (g.1, g.2.1, w.toList ++ g.2.2.1, h1) v h'))
section
variable {K : am_F → Prop} {Kr : Prop → Option Value → Prop} {Kc : Nat → List Value → am_F → Prop}
theorem am_i1_inv {st : List Value} {f : Int32 → List Value → am_R} (hk : am_K (am_i1 st f) K Kr Kc) : ∃ (x : Int32) (r : List Value), st = .int x :: r ∧ am_K (f x r) K Kr Kc := by
  unfold am_i1 at hk
  split at hk
  · exact ⟨_, _, rfl, hk⟩
  · exact hk.elim
theorem am_i2_inv {st : List Value} {f : Int32 → Int32 → List Value → am_R} (hk : am_K (am_i2 st f) K Kr Kc) : ∃ (x y : Int32) (r : List Value), st = .int y :: .int x :: r ∧ am_K (f x y r) K Kr Kc := by
  unfold am_i2 at hk
  split at hk
  · exact ⟨_, _, _, rfl, hk⟩
  · exact hk.elim
theorem am_j1_inv {st : List Value} {f : Int64 → List Value → am_R} (hk : am_K (am_j1 st f) K Kr Kc) : ∃ (x : Int64) (r : List Value), st = .long x :: r ∧ am_K (f x r) K Kr Kc := by
  unfold am_j1 at hk
  split at hk
  · exact ⟨_, _, rfl, hk⟩
  · exact hk.elim
theorem am_j2_inv {st : List Value} {f : Int64 → Int64 → List Value → am_R} (hk : am_K (am_j2 st f) K Kr Kc) : ∃ (x y : Int64) (r : List Value), st = .long y :: .long x :: r ∧ am_K (f x y r) K Kr Kc := by
  unfold am_j2 at hk
  split at hk
  · exact ⟨_, _, _, rfl, hk⟩
  · exact hk.elim
theorem am_r1_inv {st : List Value} {f : Nat → List Value → am_R} (hk : am_K (am_r1 st f) K Kr Kc) : ∃ (x : Nat) (r : List Value), st = .ref x :: r ∧ am_K (f x r) K Kr Kc := by
  unfold am_r1 at hk
  split at hk
  · exact ⟨_, _, rfl, hk⟩
  · exact hk.elim
theorem am_v1_inv {st : List Value} {f : Value → List Value → am_R} (hk : am_K (am_v1 st f) K Kr Kc) : ∃ (x : Value) (r : List Value), st = x :: r ∧ am_K (f x r) K Kr Kc := by
  unfold am_v1 at hk
  split at hk
  · exact ⟨_, _, rfl, hk⟩
  · exact hk.elim
theorem am_ob_inv {h : am_H} {q : Nat} {f : Nat → List Value → am_R} (hk : am_K (am_ob h q f) K Kr Kc) : ∃ (ci : Nat) (fs : List Value), h[q]? = some (.inr (ci, fs)) ∧ am_K (f ci fs) K Kr Kc := by
  unfold am_ob at hk
  split at hk
  · exact ⟨_, _, by assumption, hk⟩
  · exact hk.elim
theorem am_lo_inv {L : am_L} {a : Nat} {f : Value → am_R} (hk : am_K (am_lo L a f) K Kr Kc) : ∃ v : Value, L[a]? = some (some v) ∧ am_K (f v) K Kr Kc := by
  unfold am_lo at hk
  split at hk
  · exact ⟨_, by assumption, hk⟩
  · exact hk.elim
theorem am_vi_inv {v : Value} {f : Int32 → am_R} (hk : am_K (am_vi v f) K Kr Kc) : ∃ x : Int32, v = .int x ∧ am_K (f x) K Kr Kc := by
  unfold am_vi at hk
  split at hk
  · exact ⟨_, rfl, hk⟩
  · exact hk.elim
theorem am_vj_inv {v : Value} {f : Int64 → am_R} (hk : am_K (am_vj v f) K Kr Kc) : ∃ x : Int64, v = .long x ∧ am_K (f x) K Kr Kc := by
  unfold am_vj at hk
  split at hk
  · exact ⟨_, rfl, hk⟩
  · exact hk.elim
theorem am_vr_inv {v : Value} {f : Nat → am_R} (hk : am_K (am_vr v f) K Kr Kc) : ∃ x : Nat, v = .ref x ∧ am_K (f x) K Kr Kc := by
  unfold am_vr at hk
  split at hk
  · exact ⟨_, rfl, hk⟩
  · exact hk.elim
theorem am_pp_inv {n : Nat} {st : List Value} {f : List Value → List Value → am_R} (hk : am_K (am_pp n st f) K Kr Kc) : ∃ as r : List Value, am_pop n [] st = some (as, r) ∧ am_K (f as r) K Kr Kc := by
  unfold am_pp at hk
  split at hk
  · exact ⟨_, _, by assumption, hk⟩
  · exact hk.elim
theorem am_fl_inv {fs : List Value} {k : Nat} {f : Value → am_R} (hk : am_K (am_fl fs k f) K Kr Kc) : ∃ x : Value, fs[k]? = some x ∧ am_K (f x) K Kr Kc := by
  unfold am_fl at hk
  split at hk
  · exact ⟨_, by assumption, hk⟩
  · exact hk.elim
theorem am_nil_inv {st : List Value} {x : am_R} (hk : am_K (am_nil st x) K Kr Kc) : st = [] ∧ am_K x K Kr Kc := by
  unfold am_nil at hk
  split at hk
  · exact ⟨rfl, hk⟩
  · exact hk.elim
theorem am_bb_inv {c : Bool} {x : am_R} (hk : am_K (am_bb c x) K Kr Kc) : c = true ∧ am_K x K Kr Kc := by
  unfold am_bb at hk
  split at hk
  · exact ⟨rfl, hk⟩
  · exact hk.elim
theorem am_va_inv {v : Value} {f : Value → am_R} (hk : am_K (am_va v f) K Kr Kc) : ((∃ x : Nat, v = .ref x) ∨ ∃ x : Nat, v = .retAddr x) ∧ am_K (f v) K Kr Kc := by
  unfold am_va at hk
  split at hk
  · exact ⟨Or.inl ⟨_, rfl⟩, hk⟩
  · exact ⟨Or.inr ⟨_, rfl⟩, hk⟩
  · exact hk.elim
theorem am_ar_inv {z : Bool} {h : am_H} {q : Nat} {f : Nat → (Nat → Int32) → am_R} (hk : am_K (am_ar z h q f) K Kr Kc) : ∃ (n : Nat) (g : Nat → Int32), h[q]? = some (.inl (z, n, g)) ∧ am_K (f n g) K Kr Kc := by
  unfold am_ar at hk
  split at hk
  · split at hk
    · exact ⟨_, _, by assumption, hk⟩
    · exact ⟨_, _, by assumption, hk⟩
    · exact hk.elim
  · exact hk.elim
theorem am_sc_inv {v : Value} {scr : Option (Nat × (Nat → Int32))} {f : Nat → (Nat → Int32) → am_R} (hk : am_K (am_sc v scr f) K Kr Kc) : ∃ (x n : Nat) (g : Nat → Int32), v = .retAddr x ∧ scr = some (n, g) ∧ am_K (f n g) K Kr Kc := by
  unfold am_sc at hk
  split at hk
  · exact ⟨_, _, _, rfl, rfl, hk⟩
  · exact hk.elim
theorem am_put_inv {o : Option am_L} {nx : Nat} {st : List Value} {h : am_H} (hk : am_K (am_put o nx st h) K Kr Kc) : ∃ L : am_L, o = some L ∧ K (nx, L, st, h) := by
  unfold am_put at hk
  split at hk
  · exact ⟨_, rfl, hk⟩
  · exact hk.elim
end

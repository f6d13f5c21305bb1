/-! what is asked of a table's entry, and of a method: by program, over the code and the words of the tables -/
abbrev am_M : Type := MethodName × ByteArray × Nat × Option FieldType × Nat × Nat × Nat × Nat × Nat × Nat × am_T
def am_len (pc n nx : Nat) : Bool := Nat.beq nx (pc + n)
def am_fld (own : String) (i a b w : Nat) : Bool := match vwCl[a]? with
  | some q => Nat.blt b q.2.2 && decide (lw_tbl[w]? = some (Jvm.Cond.fieldLink own i q.1 (q.2.1 b).2.1 (q.2.1 b).2.2.1)) && decide ((q.2.1 b).1 = q.1)
  | none => false
def am_fin (a b : Nat) : Bool := match vwCl[a]? with
  | some q => (q.2.1 b).2.2.2
  | none => false
def am_own (own : String) (a : Nat) : Bool := match vwCl[a]? with
  | some q => decide (q.1 = own)
  | none => false
def am_sws (pc : Nat) (lo : Int) : List Int → List (Int32 × Nat) → Bool
  | [], [] => true
  | o :: os, (k, t) :: r => decide (k.toInt = lo) && decide ((pc : Int) + o = (t : Int)) && am_sws pc (lo + 1) os r
  | _, _ => false
def am_swl (pc : Nat) : List (Int × Int) → List (Int32 × Nat) → Bool
  | [], [] => true
  | (n, o) :: os, (k, t) :: r => decide (k.toInt = n) && decide ((pc : Int) + o = (t : Int)) && am_swl pc os r
  | _, _ => false
/-- the head of a method of the list: its name, code, locals, answer, kind (0 static, 1 virtual, 2 a maker), the places of its words, its arguments -/
def am_call (mt : Nat → Option (MethodName × Nat × Nat)) (own : String) (i tg a b w k : Nat) (nest : Bool) : Bool := match mt a with
  | some (y, n, kd) => Nat.beq n b && Nat.beq kd k && (match nest with
    | false => decide (lw_tbl[w]? = some (Jvm.Cond.methodLink own i y))
    | true => decide (lw_tbl[w]? = some (Jvm.Cond.methodLinkNest own i y "HoarseHill")))
  | none => false
def am_rcv (mt : Nat → Option (MethodName × Nat × Nat)) (a tg : Nat) : Bool := match mt a, vwCl[tg]? with
  | some (y, _, _), some q => decide (y.cls = q.1)
  | _, _ => false
def am_ok1 (mt : Nat → Option (MethodName × Nat × Nat)) (own : String) (mnm : String) (cc : ByteArray) (nL : Nat) (ret : Option FieldType) (pc : Nat) (E : am_I) : Bool := match E with
  | (ins, nx, tg, a, b, w, v, lv, sw) => decide (decode cc pc = .ok (ins, nx - pc)) && (match ins with
    | .iconst n => am_len pc 1 nx && decide (Int32.ofInt n = v)
    | .bipush n => am_len pc 2 nx && decide ((Int8.ofInt n).toInt32 = v)
    | .sipush n => am_len pc 3 nx && decide ((Int16.ofInt n).toInt32 = v)
    | .ldc i => am_len pc 2 nx && decide (lw_tbl[w]? = some (Jvm.Cond.constant own i v))
    | .ldc_w i => am_len pc 3 nx && decide (lw_tbl[w]? = some (Jvm.Cond.constant own i v))
    | .lconst n => am_len pc 1 nx && decide (Int64.ofNat (n : Nat) = lv)
    | .ldc2_w i => am_len pc 3 nx && decide (lw_tbl[w]? = some (Jvm.Cond.constantLong own i lv))
    | .iload i => am_len pc 2 nx && Nat.beq i a
    | .lload i => am_len pc 2 nx && Nat.beq i a
    | .aload i => am_len pc 2 nx && Nat.beq i a
    | .istore i => am_len pc 2 nx && Nat.beq i a
    | .lstore i => am_len pc 2 nx && Nat.beq i a
    | .astore i => am_len pc 2 nx && Nat.beq i a
    | .iload_n i => am_len pc 1 nx && Nat.beq i.val a
    | .lload_n i => am_len pc 1 nx && Nat.beq i.val a
    | .aload_n i => am_len pc 1 nx && Nat.beq i.val a
    | .istore_n i => am_len pc 1 nx && Nat.beq i.val a
    | .lstore_n i => am_len pc 1 nx && Nat.beq i.val a
    | .astore_n i => am_len pc 1 nx && Nat.beq i.val a
    | .iinc i n => am_len pc 3 nx && Nat.beq i a && decide (Int32.ofInt n = v)
    | .goto o => am_len pc 3 nx && decide ((pc : Int) + o = (tg : Int))
    | .if_icmp _ o => am_len pc 3 nx && decide ((pc : Int) + o = (tg : Int))
    | .ifCond _ o => am_len pc 3 nx && decide ((pc : Int) + o = (tg : Int))
    | .tableswitch d lo hi os => Nat.ble pc nx && decide ((pc : Int) + d = (tg : Int)) && decide (hi + 1 - lo = (os.size : Int)) && am_sws pc lo os.toList sw
    | .lookupswitch d ps => Nat.ble pc nx && decide ((pc : Int) + d = (tg : Int)) && (ps.toList.zip (ps.toList.drop 1)).all (fun (a, next) => a.1 < next.1) && am_swl pc ps.toList sw
    | .getfield i => am_len pc 3 nx && am_fld own i a b w
    | .putfield i => am_len pc 3 nx && am_fld own i a b w && (match tg with
      | 0 => decide (am_ty a b = .int) && !(am_fin a b)
      | 1 => decide (am_ty a b = .boolean) && !(am_fin a b)
      | _ => am_fin a b && am_own own a && decide (mnm = "<init>") && (match am_ty a b with
        | .object _ => true
        | .array _ => true
        | _ => false))
    | .new i => am_len pc 3 nx && (match vwCl[a]? with
      | some q => decide (lw_tbl[w]? = some (Jvm.Cond.classLink own i q.1))
      | none => false)
    | .newarray _ => am_len pc 2 nx
    | .invokespecial i => am_len pc 3 nx && (match tg with
      | 2 => decide (lw_tbl[w]? = some (Jvm.Cond.methodLink own i objectInit))
      | 1 => am_call mt own i tg a b w 2 true
      | _ => am_call mt own i tg a b w 2 false)
    | .invokevirtual i => am_len pc 3 nx && am_call mt own i tg a b w 1 false && am_rcv mt a tg
    | .invokestatic i => am_len pc 3 nx && (match tg with
      | 2 => decide (lw_tbl[w]? = some (Jvm.Cond.methodLink own i arraycopyName))
      | 1 => am_call mt own i tg a b w 0 true
      | _ => am_call mt own i tg a b w 0 false)
    | .ireturn => am_len pc 1 nx && (match tg with
      | 0 => decide (ret = some .int)
      | _ => decide (ret = some .boolean))
    | .areturn => am_len pc 1 nx && (match ret with
      | some (.object _) => true
      | _ => false)
    | .return_ => am_len pc 1 nx && decide (ret = none)
    | _ => am_len pc 1 nx)
def am_okR (f : Nat → am_I → Bool) : Nat → List (Option am_I) → Bool
  | _, [] => true
  | pc, none :: r => am_okR f (pc + 1) r
  | pc, some E :: r => f pc E && am_okR f (pc + 1) r
def am_okT (f : Nat → am_I → Bool) : Nat → am_T → Bool
  | _, [] => true
  | k, r :: t => Nat.ble r.length 16 && am_okR f (16 * k) r && am_okT f (k + 1) t
theorem am_okR_at {f : Nat → am_I → Bool} : ∀ (r : List (Option am_I)) (pc i : Nat) (E : am_I), am_okR f pc r = true → r[i]? = some (some E) → f (pc + i) E = true
  | [], _, i, _, _, h => by simp at h
  | none :: r, pc, 0, _, _, h => by simp at h
  | none :: r, pc, i + 1, E, h1, h => by
    rw [List.getElem?_cons_succ] at h
    have := am_okR_at r (pc + 1) i E h1 h
    rw [show pc + (i + 1) = pc + 1 + i by omega]
    exact this
  | some e :: r, pc, 0, E, h1, h => by
    simp at h
    subst h
    simp only [am_okR, Bool.and_eq_true] at h1
    exact h1.1
  | some e :: r, pc, i + 1, E, h1, h => by
    rw [List.getElem?_cons_succ] at h
    simp only [am_okR, Bool.and_eq_true] at h1
    have := am_okR_at r (pc + 1) i E h1.2 h
    rw [show pc + (i + 1) = pc + 1 + i by omega]
    exact this
theorem am_okT_at {f : Nat → am_I → Bool} : ∀ (t : am_T) (k i : Nat) (r : List (Option am_I)), am_okT f k t = true → t[i]? = some r → am_okR f (16 * (k + i)) r = true
  | [], _, i, _, _, h => by simp at h
  | q :: t, k, 0, r, h1, h => by
    simp at h
    subst h
    simp only [am_okT, Bool.and_eq_true] at h1
    exact h1.1.2
  | q :: t, k, i + 1, r, h1, h => by
    rw [List.getElem?_cons_succ] at h
    simp only [am_okT, Bool.and_eq_true] at h1
    have := am_okT_at t (k + 1) i r h1.2 h
    rw [show k + (i + 1) = k + 1 + i by omega]
    exact this
theorem am_fetch_ok {f : Nat → am_I → Bool} {t : am_T} (h : am_okT f 0 t = true) {pc : Nat} {E : am_I} (hf : am_fetch t pc = some E) : f pc E = true := by
  unfold am_fetch at hf
  cases hr : t[pc / 16]? with
  | none => rw [hr] at hf; cases hf
  | some r =>
    rw [hr] at hf
    have h1 := am_okT_at t 0 (pc / 16) r h hr
    cases he : r[pc % 16]? with
    | none => simp only [he] at hf; cases hf
    | some o =>
      cases o with
      | none => simp only [he] at hf; cases hf
      | some e =>
        simp only [he] at hf
        cases hf
        have h2 := am_okR_at r _ (pc % 16) E h1 he
        rw [show 16 * (0 + pc / 16) + pc % 16 = pc by omega] at h2
        exact h2
/-- a method: its words stand in the tables, its code is its table -/
def am_okH (M : am_M) : Bool := match M with
  | (y, cc, nL, ret, kd, w1, w2, w3, w4, n, _) => decide (lw_tbl[w1]? = some (Jvm.Cond.code y cc nL ret)) && decide (lw_tbl[w2]? = some (Jvm.Cond.initialized y.cls)) && (match kd with
      | 0 => decide (lw_tbl[w3]? = some (Jvm.Cond.static y))
      | 1 => decide (lw_tbl[w3]? = some (Jvm.Cond.instanceMethod y)) && decide (lw_tbl[w4]? = some (Jvm.Cond.selects y.cls y y))
      | _ => decide (lw_tbl[w3]? = some (Jvm.Cond.instanceMethod y)) && decide (y.name = "<init>") && decide (ret = none)) &&
    plainName y.cls && decide (y.cls ≠ "java/lang/invoke/MethodHandle") && decide (y.cls ≠ "java/lang/invoke/VarHandle") && decide ((parseMethodDescriptor y.desc).map (fun d => d.parameters.length) = some n) && Nat.ble nL 20
def am_okM (mt : Nat → Option (MethodName × Nat × Nat)) (M : am_M) : Prop := am_okH M = true ∧ am_okT (am_ok1 mt M.1.cls M.1.name M.2.1 M.2.2.1 M.2.2.2.1) 0 M.2.2.2.2.2.2.2.2.2.2 = true
def am_hd (M : am_M) : MethodName × Nat × Nat := (M.1, M.2.2.2.2.2.2.2.2.2.1, M.2.2.2.2.1)
def am_okQ (f : Nat → am_I → Bool) (k : Nat) (r : List (Option am_I)) : Bool := Nat.ble r.length 16 && am_okR f (16 * k) r
theorem am_okT_c {f : Nat → am_I → Bool} {k : Nat} {r : List (Option am_I)} {t : am_T} (h1 : am_okQ f k r = true) (h2 : am_okT f (k + 1) t = true) : am_okT f k (r :: t) = true := by
  show (am_okQ f k r && am_okT f (k + 1) t) = true
  rw [h1, h2]; rfl

/-! calls, answers, runs: what my machine does, the JVM does -/
def am_up (h h' : am_H) : Prop := h.length ≤ h'.length ∧ am_szs h ≤ am_szs h'
def am_mo (h : am_H) (o : am_R) : Prop := match o with
  | .inl f => am_up h f.2.2.2
  | .inr (.inl (_, f, g)) => am_up h f.2.2.2 ∧ am_up h g.2.2.2
  | .inr (.inr (.inl (_, f))) => am_up h f.2.2.2
  | .inr (.inr (.inr (.inl (_, _)))) => True
  | .inr (.inr (.inr (.inr (.inl (_, _, _))))) => True
  | .inr (.inr (.inr (.inr (.inr _)))) => True
theorem am_up_rf (h : am_H) : am_up h h := ⟨Nat.le_refl _, Nat.le_refl _⟩
theorem am_up_tr {h h1 h2 : am_H} (a : am_up h h1) (b : am_up h1 h2) : am_up h h2 := ⟨Nat.le_trans a.1 b.1, Nat.le_trans a.2 b.2⟩
theorem am_up_push (h : am_H) (e : am_C) : am_up h (h ++ [e]) := ⟨by simp, by rw [am_szs_push]; omega⟩
theorem am_up_set {h : am_H} {q : Nat} {e e0 : am_C} (hq : h[q]? = some e0) (hz : am_sz e = am_sz e0) : am_up h (h.set q e) := ⟨by simp, Nat.le_of_eq (am_szs_set hz h q hq).symm⟩
section
variable {h : am_H}
theorem am_mo_no : am_mo h am_no := trivial
theorem am_mo_go {nx : Nat} {L : am_L} {st : List Value} : am_mo h (am_go nx L st h) := am_up_rf h
theorem am_mo_put {x : Option am_L} {nx : Nat} {st : List Value} : am_mo h (am_put x nx st h) := by
  cases x
  · trivial
  · exact am_up_rf h
theorem am_mo_ck {cd : Prop} {nx : Nat} {L : am_L} {st : List Value} : am_mo h (am_ck cd nx L st h) := am_up_rf h
theorem am_mo_rt {cd : Prop} {v : Option Value} : am_mo h (am_rt cd v) := trivial
theorem am_mo_cl {j : Nat} {as : List Value} {nx : Nat} {L : am_L} {st : List Value} : am_mo h (am_cl j as nx L st h) := trivial
theorem am_mo_icmp {cd : ClassFile.Cond} {x y : Int32} {a b : Nat} {L : am_L} {st : List Value} : am_mo h (am_icmp cd x y (a, L, st, h) (b, L, st, h)) := by
  cases cd <;> exact ⟨am_up_rf h, am_up_rf h⟩
theorem am_mo_if {cd : ClassFile.Cond} {x : Int32} {a b : Nat} {L : am_L} {st : List Value} : am_mo h (am_if cd x (a, L, st, h) (b, L, st, h)) := by
  cases cd <;> exact ⟨am_up_rf h, am_up_rf h⟩
theorem am_mo_i1 {st : List Value} {f : Int32 → List Value → am_R} (hf : ∀ x r, am_mo h (f x r)) : am_mo h (am_i1 st f) := by
  unfold am_i1
  split <;> first | exact hf _ _ | exact am_mo_no
theorem am_mo_i2 {st : List Value} {f : Int32 → Int32 → List Value → am_R} (hf : ∀ x y r, am_mo h (f x y r)) : am_mo h (am_i2 st f) := by
  unfold am_i2
  split <;> first | exact hf _ _ _ | exact am_mo_no
theorem am_mo_j1 {st : List Value} {f : Int64 → List Value → am_R} (hf : ∀ x r, am_mo h (f x r)) : am_mo h (am_j1 st f) := by
  unfold am_j1
  split <;> first | exact hf _ _ | exact am_mo_no
theorem am_mo_j2 {st : List Value} {f : Int64 → Int64 → List Value → am_R} (hf : ∀ x y r, am_mo h (f x y r)) : am_mo h (am_j2 st f) := by
  unfold am_j2
  split <;> first | exact hf _ _ _ | exact am_mo_no
theorem am_mo_r1 {st : List Value} {f : Nat → List Value → am_R} (hf : ∀ x r, am_mo h (f x r)) : am_mo h (am_r1 st f) := by
  unfold am_r1
  split <;> first | exact hf _ _ | exact am_mo_no
theorem am_mo_v1 {st : List Value} {f : Value → List Value → am_R} (hf : ∀ x r, am_mo h (f x r)) : am_mo h (am_v1 st f) := by
  unfold am_v1
  split <;> first | exact hf _ _ | exact am_mo_no
theorem am_mo_lo {L : am_L} {a : Nat} {f : Value → am_R} (hf : ∀ x, am_mo h (f x)) : am_mo h (am_lo L a f) := by
  unfold am_lo
  split <;> first | exact hf _ | exact am_mo_no
theorem am_mo_vi {v : Value} {f : Int32 → am_R} (hf : ∀ x, am_mo h (f x)) : am_mo h (am_vi v f) := by
  unfold am_vi
  split <;> first | exact hf _ | exact am_mo_no
theorem am_mo_vj {v : Value} {f : Int64 → am_R} (hf : ∀ x, am_mo h (f x)) : am_mo h (am_vj v f) := by
  unfold am_vj
  split <;> first | exact hf _ | exact am_mo_no
theorem am_mo_vr {v : Value} {f : Nat → am_R} (hf : ∀ x, am_mo h (f x)) : am_mo h (am_vr v f) := by
  unfold am_vr
  split <;> first | exact hf _ | exact am_mo_no
theorem am_mo_va {v : Value} {f : Value → am_R} (hf : ∀ x, am_mo h (f x)) : am_mo h (am_va v f) := by
  unfold am_va
  split <;> first | exact hf _ | exact am_mo_no
theorem am_mo_sc {v : Value} {scr : Option (Nat × (Nat → Int32))} {f : Nat → (Nat → Int32) → am_R} (hf : ∀ n g, am_mo h (f n g)) : am_mo h (am_sc v scr f) := by
  unfold am_sc
  split <;> first | exact hf _ _ | exact am_mo_no
theorem am_mo_pp {n : Nat} {st : List Value} {f : List Value → List Value → am_R} (hf : ∀ as r, am_mo h (f as r)) : am_mo h (am_pp n st f) := by
  unfold am_pp
  split <;> first | exact hf _ _ | exact am_mo_no
theorem am_mo_fl {fs : List Value} {k : Nat} {f : Value → am_R} (hf : ∀ x, am_mo h (f x)) : am_mo h (am_fl fs k f) := by
  unfold am_fl
  split <;> first | exact hf _ | exact am_mo_no
theorem am_mo_nil {st : List Value} {x : am_R} (hf : am_mo h x) : am_mo h (am_nil st x) := by
  unfold am_nil
  split <;> first | exact hf | exact am_mo_no
theorem am_mo_bb {z : Bool} {x : am_R} (hf : am_mo h x) : am_mo h (am_bb z x) := by
  unfold am_bb
  split <;> first | exact hf | exact am_mo_no
theorem am_mo_ob {q : Nat} {f : Nat → List Value → am_R} (hf : ∀ ci fs, h[q]? = some (.inr (ci, fs)) → am_mo h (f ci fs)) : am_mo h (am_ob h q f) := by
  unfold am_ob
  split
  next hq => exact hf _ _ hq
  next => exact am_mo_no
theorem am_mo_ar {z : Bool} {q : Nat} {f : Nat → (Nat → Int32) → am_R} (hf : ∀ n g, h[q]? = some (.inl (z, n, g)) → am_mo h (f n g)) : am_mo h (am_ar z h q f) := by
  unfold am_ar
  split
  next hq =>
    split
    · exact hf _ _ hq
    · exact hf _ _ hq
    · exact am_mo_no
  next => exact am_mo_no
theorem am_mo_pf {tg : Nat} {x : Value} {nx : Nat} {L : am_L} {r : List Value} {q ci : Nat} {fs : List Value} {b : Nat} (hq : h[q]? = some (.inr (ci, fs))) : am_mo h (am_pf tg x nx L r h q ci fs b) := by
  unfold am_pf
  split
  · exact am_mo_vi (fun y => am_up_set hq (by simp [am_sz]))
  · exact am_mo_vi (fun y => am_up_set hq (by simp [am_sz]))
  · exact am_mo_vr (fun y => am_up_set hq (by simp [am_sz]))
theorem am_mo_il {scr : Option (Nat × (Nat → Int32))} {i : Int32} {v : Value} {nx : Nat} {L : am_L} {r : List Value} : am_mo h (am_il scr i v nx L r h) := by
  unfold am_il
  split
  · exact am_mo_ar (fun n g _ => am_mo_ck)
  · exact am_mo_sc (fun n g => am_mo_ck)
theorem am_mo_na {ty : ArrayType} {n : Int32} {b nx : Nat} {L : am_L} {r : List Value} : am_mo h (am_na ty n b nx L r h) := by
  unfold am_na
  split
  · exact am_up_push h _
  · exact am_up_push h _
  · exact am_mo_no
theorem am_mo_mst {a b nx : Nat} {L : am_L} {st : List Value} : am_mo h (am_mst a b nx L st h) := by
  unfold am_mst
  split
  · exact am_mo_i2 (fun _ _ _ => am_mo_bb am_mo_go)
  · split
    · exact am_mo_i2 (fun _ _ _ => am_mo_bb am_mo_go)
    · exact am_mo_pp (fun _ _ => am_mo_bb am_mo_cl)
theorem am_mo_step (scr : Option (Nat × (Nat → Int32))) (E : am_I) (L : am_L) (st : List Value) : am_mo h (am_step scr E L st h) := by
  obtain ⟨ins, nx, tg, a, b, w, v, lv, sw⟩ := E
  cases ins with
  | iconst => exact am_mo_go
  | bipush => exact am_mo_go
  | sipush => exact am_mo_go
  | ldc => exact am_mo_go
  | ldc_w => exact am_mo_go
  | lconst => exact am_mo_go
  | ldc2_w => exact am_mo_go
  | goto => exact am_mo_go
  | iload => exact am_mo_lo (fun _ => am_mo_vi (fun _ => am_mo_go))
  | iload_n => exact am_mo_lo (fun _ => am_mo_vi (fun _ => am_mo_go))
  | lload => exact am_mo_lo (fun _ => am_mo_vj (fun _ => am_mo_go))
  | lload_n => exact am_mo_lo (fun _ => am_mo_vj (fun _ => am_mo_go))
  | aload => exact am_mo_lo (fun _ => am_mo_va (fun _ => am_mo_go))
  | aload_n => exact am_mo_lo (fun _ => am_mo_va (fun _ => am_mo_go))
  | istore => exact am_mo_i1 (fun _ _ => am_mo_put)
  | istore_n => exact am_mo_i1 (fun _ _ => am_mo_put)
  | astore => exact am_mo_r1 (fun _ _ => am_mo_put)
  | astore_n => exact am_mo_r1 (fun _ _ => am_mo_put)
  | lstore => exact am_mo_j1 (fun _ _ => am_mo_put)
  | lstore_n => exact am_mo_j1 (fun _ _ => am_mo_put)
  | iinc => exact am_mo_lo (fun _ => am_mo_vi (fun _ => am_mo_put))
  | iadd => exact am_mo_i2 (fun _ _ _ => am_mo_go)
  | isub => exact am_mo_i2 (fun _ _ _ => am_mo_go)
  | imul => exact am_mo_i2 (fun _ _ _ => am_mo_go)
  | iand => exact am_mo_i2 (fun _ _ _ => am_mo_go)
  | ior => exact am_mo_i2 (fun _ _ _ => am_mo_go)
  | ixor => exact am_mo_i2 (fun _ _ _ => am_mo_go)
  | ishl => exact am_mo_i2 (fun _ _ _ => am_mo_go)
  | ishr => exact am_mo_i2 (fun _ _ _ => am_mo_go)
  | iushr => exact am_mo_i2 (fun _ _ _ => am_mo_go)
  | idiv => exact am_mo_i2 (fun _ _ _ => am_mo_ck)
  | irem => exact am_mo_i2 (fun _ _ _ => am_mo_ck)
  | ladd => exact am_mo_j2 (fun _ _ _ => am_mo_go)
  | lmul => exact am_mo_j2 (fun _ _ _ => am_mo_go)
  | lcmp => exact am_mo_j2 (fun _ _ _ => am_mo_go)
  | lrem => exact am_mo_j2 (fun _ _ _ => am_mo_ck)
  | ineg => exact am_mo_i1 (fun _ _ => am_mo_go)
  | i2l => exact am_mo_i1 (fun _ _ => am_mo_go)
  | i2b => exact am_mo_i1 (fun _ _ => am_mo_go)
  | i2s => exact am_mo_i1 (fun _ _ => am_mo_go)
  | tableswitch => exact am_mo_i1 (fun _ _ => am_mo_go)
  | lookupswitch => exact am_mo_i1 (fun _ _ => am_mo_go)
  | l2i => exact am_mo_j1 (fun _ _ => am_mo_go)
  | dup => exact am_mo_v1 (fun _ _ => am_mo_bb am_mo_go)
  | pop => exact am_mo_v1 (fun _ _ => am_mo_bb am_mo_go)
  | dup2 => exact am_mo_v1 (fun _ _ => am_mo_v1 (fun _ _ => am_mo_bb (am_mo_bb am_mo_go)))
  | if_icmp => exact am_mo_i2 (fun _ _ _ => am_mo_icmp)
  | ifCond => exact am_mo_i1 (fun _ _ => am_mo_if)
  | getfield => exact am_mo_r1 (fun _ _ => am_mo_ob (fun _ _ _ => am_mo_bb (am_mo_fl (fun _ => am_mo_go))))
  | putfield => exact am_mo_v1 (fun _ _ => am_mo_r1 (fun _ _ => am_mo_ob (fun _ _ hq => am_mo_bb (am_mo_bb (am_mo_pf hq)))))
  | iaload => exact am_mo_i1 (fun _ _ => am_mo_v1 (fun _ _ => am_mo_il))
  | baload => exact am_mo_i1 (fun _ _ => am_mo_r1 (fun _ _ => am_mo_ar (fun _ _ _ => am_mo_ck)))
  | iastore => exact am_mo_i2 (fun _ _ _ => am_mo_r1 (fun _ _ => am_mo_ar (fun _ _ hq => am_up_set hq rfl)))
  | bastore => exact am_mo_i2 (fun _ _ _ => am_mo_r1 (fun _ _ => am_mo_ar (fun _ _ hq => am_up_set hq rfl)))
  | arraylength => exact am_mo_v1 (fun _ _ => am_mo_sc (fun _ _ => am_mo_go))
  | new => exact am_up_push h _
  | newarray => exact am_mo_i1 (fun _ _ => am_mo_na)
  | invokevirtual => exact am_mo_pp (fun _ _ => am_mo_r1 (fun _ _ => am_mo_ob (fun _ _ _ => am_mo_bb (am_mo_bb am_mo_cl))))
  | ireturn => exact am_mo_i1 (fun _ _ => am_mo_nil (by split <;> exact am_mo_rt))
  | areturn => exact am_mo_r1 (fun _ _ => am_mo_nil am_mo_rt)
  | return_ => exact am_mo_nil am_mo_rt
  | invokespecial i =>
    show am_mo h (match tg with
      | 2 => am_r1 st (fun _ r => am_bb (Nat.ble (am_cats r) 8) (am_go nx L r h))
      | _ => am_pp b st (fun as r => am_r1 r (fun q r => am_bb (Nat.ble (am_cats r) 8) (am_cl a (.ref q :: as) nx L r h))))
    split
    · exact am_mo_r1 (fun _ _ => am_mo_bb am_mo_go)
    · exact am_mo_pp (fun _ _ => am_mo_r1 (fun _ _ => am_mo_bb am_mo_cl))
  | invokestatic i =>
    show am_mo h (match tg with
      | 2 => am_i2 st (fun dp n r => am_r1 r (fun q1 r => am_i1 r (fun sp r => am_r1 r (fun q0 r => am_bb (Nat.ble (am_cats r) 8) (am_ar false h q0 (fun n0 f => am_ar false h q1 (fun n1 g => am_ck (¬ sp < 0 ∧ ¬ dp < 0 ∧ ¬ n < 0 ∧ sp.toNatClampNeg + n.toNatClampNeg ≤ n0 ∧ dp.toNatClampNeg + n.toNatClampNeg ≤ n1) nx L r (h.set q1 (.inl (false, n1, va_cpy f g sp.toNatClampNeg dp.toNatClampNeg n.toNatClampNeg))))))))))
      | _ => am_mst a b nx L st h)
    split
    · exact am_mo_i2 (fun _ _ _ => am_mo_r1 (fun _ _ => am_mo_i1 (fun _ _ => am_mo_r1 (fun _ _ => am_mo_bb (am_mo_ar (fun _ _ _ => am_mo_ar (fun _ _ hq => am_up_set hq rfl)))))))
    · exact am_mo_mst
  | _ => exact am_mo_no
end
theorem am_run_up {scr : Option (Nat × (Nat → Int32))} {C : Nat → List Value → am_H → Option Value → am_H → Prop} (hC : ∀ j as h w h1, C j as h w h1 → am_up h h1) {t : am_T} {v : Option Value} {h' : am_H} : ∀ (n : Nat) (f : am_F), am_run scr C t n f v h' → am_up f.2.2.2 h'
  | 0, f, hr => by cases hr
  | n + 1, f, hr => by
    unfold am_run at hr
    split at hr
    next => cases hr
    next E hE =>
      have hm := am_mo_step (h := f.2.2.2) scr E f.2.1 f.2.2.1
      revert hr hm
      generalize am_step scr E f.2.1 f.2.2.1 f.2.2.2 = o
      intro hr hm
      match o, hr, hm with
      | .inl g, hr, hm => exact am_up_tr hm (am_run_up hC n g hr)
      | .inr (.inl (cd, g, k)), hr, hm =>
        by_cases hc : cd
        · exact am_up_tr hm.1 (am_run_up hC n g (hr.1 hc))
        · exact am_up_tr hm.2 (am_run_up hC n k (hr.2 hc))
      | .inr (.inr (.inl (cd, g))), hr, hm => exact am_up_tr hm (am_run_up hC n g hr.2)
      | .inr (.inr (.inr (.inl (cd, w)))), hr, hm => rw [hr.2.2]; exact am_up_rf _
      | .inr (.inr (.inr (.inr (.inl (j, as, g))))), hr, hm =>
        obtain ⟨w, h1, hc, hr⟩ := hr
        exact am_up_tr (hC _ _ _ _ _ hc) (am_run_up hC n _ hr)
/-- what the methods do, by the depth of their calls -/
def am_ent (nL : Nat) (as : List Value) : am_L := let x := as.flatMap (fun v => if v.category = 2 then [some v, none] else [some v]); x ++ List.replicate (nL - x.length) none
def am_ev : Nat → Nat → List Value → am_H → Option Value → am_H → Prop
  | 0, _, _, _, _, _ => False
  | d + 1, j, as, h, v, h' => ∃ (M : am_M) (n : Nat), am_ms[j]? = some M ∧ (am_ent M.2.2.1 as).length = M.2.2.1 ∧ am_run none (am_ev d) M.2.2.2.2.2.2.2.2.2.2 n (0, am_ent M.2.2.1 as, [], h) v h'
theorem am_ev_up : ∀ (d j : Nat) (as : List Value) (h : am_H) (v : Option Value) (h' : am_H), am_ev d j as h v h' → am_up h h'
  | 0, _, _, _, _, _, hv => by cases hv
  | d + 1, j, as, h, v, h', hv => by
    obtain ⟨M, n, -, -, hr⟩ := hv
    exact am_run_up (am_ev_up d) n _ hr

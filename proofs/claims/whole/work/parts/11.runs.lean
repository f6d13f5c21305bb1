/-! runs: what my machine does in a method, the JVM does; the contracts of all methods -/
def am_retAt (cc : ByteArray) (ret : Option FieldType) (pc : Nat) (w : Option Value) : Prop :=
  (∃ x : Int32, w = some (.int x) ∧ decode cc pc = .ok (.ireturn, 1) ∧ (ret = some .int ∨ ret = some .boolean ∧ (x = 0 ∨ x = 1))) ∨ (∃ (q : Nat) (C : String), w = some (.ref q) ∧ decode cc pc = .ok (.areturn, 1) ∧ ret = some (.object C)) ∨ (w = none ∧ decode cc pc = .ok (.return_, 1) ∧ ret = none)
theorem am_K_map {o : am_R} {K K' : am_F → Prop} {Kr Kr' : Prop → Option Value → Prop} {Kc Kc' : Nat → List Value → am_F → Prop} (h : am_K o K Kr Kc) (h1 : ∀ f, K f → K' f) (h2 : ∀ c w, Kr c w → Kr' c w) (h3 : ∀ j as f, Kc j as f → Kc' j as f) : am_K o K' Kr' Kc' := by
  match o, h with
  | .inl f, h => exact h1 f h
  | .inr (.inl (c, f, g)), h => exact ⟨fun hc => h1 f (h.1 hc), fun hc => h1 g (h.2 hc)⟩
  | .inr (.inr (.inl (c, f))), h => exact ⟨h.1, h1 f h.2⟩
  | .inr (.inr (.inr (.inl (c, w)))), h => exact h2 c w h
  | .inr (.inr (.inr (.inr (.inl (j, as, f))))), h => exact h3 j as f h
section
variable {p : Program} {l : Launch} {e : Env} {R : Room} {s : State} {m : MethodId} {args : Array Value} {below : List Frame} {meth : Method} {c : Code} {Q : State → Prop}
variable {b0 b : Nat} {cI cB : ClassId} {dC : Nat → ClassId} {dI : Nat → Nat → Nat} {cc : ByteArray} {own mnm : String} {nL n0 z0 : Nat} {ret : Option FieldType} {scr : Option (Nat × (Nat → Int32))}
set_option maxHeartbeats 4000000 in
theorem am_one {H : Heap} {locs : List Loc} {ls : Array Slot} {cells slots pc d : Nat} {L : am_L} {st : List Value} {h : am_H} {E : am_I} {Kf : Option Value → Prop} (hc : am_ctx p s m args meth c b0 b cI cB dC dI cc own mnm nL n0 scr) (hR : d + 2 ≤ R.frames ∧ 139 + 40 * d ≤ R.locals) (hrep : am_rep b0 b cI cB dC dI s nL H locs ls L h) (hcells : cells + n0 = h.length) (hslots : slots + z0 = am_szs h) (hcap : h.length ≤ R.cells + n0 ∧ am_szs h ≤ R.slots + z0) (hok : am_ok1 am_mt own mnm cc nL ret pc E = true)
    (hret : ∀ w, am_retAt cc ret pc w → Kf w → W p l e R s m args below meth c H locs cells slots Q (F0 m pc ls (w.toList.map (am_cv b0 b))))
    (hk : am_K (am_step scr E L st h) (am_cont p l e R s m args below meth c Q b0 b cI cB dC dI nL n0 z0) (fun c w => c ∧ Kf w) (fun j as f => ∃ (w : Option Value) (h1 : am_H), am_met l b0 b cI cB dC dI d j as h w h1 ∧ am_cont p l e R s m args below meth c Q b0 b cI cB dC dI nL n0 z0 (f.1, f.2.1, w.toList ++ f.2.2.1, h1))) : W p l e R s m args below meth c H locs cells slots Q (F0 m pc ls (st.map (am_cv b0 b))) := by
  have hroom : 1 ≤ R.frames ∧ 100 ≤ R.locals := ⟨by omega, by omega⟩
  obtain ⟨ins, nx, tg, a, b', w, v, lv, sw⟩ := E
  cases ins with
  | iconst => exact am_s_iconst hc hroom hrep hcells hslots rfl hok hk
  | bipush => exact am_s_bipush hc hroom hrep hcells hslots rfl hok hk
  | sipush => exact am_s_sipush hc hroom hrep hcells hslots rfl hok hk
  | lconst => exact am_s_lconst hc hroom hrep hcells hslots rfl hok hk
  | ldc => exact am_s_ldc hc hroom hrep hcells hslots rfl hok hk
  | ldc_w => exact am_s_ldc_w hc hroom hrep hcells hslots rfl hok hk
  | ldc2_w => exact am_s_ldc2_w hc hroom hrep hcells hslots rfl hok hk
  | iload => exact am_s_iload hc hroom hrep hcells hslots rfl hok hk
  | iload_n => exact am_s_iload_n hc hroom hrep hcells hslots rfl hok hk
  | lload => exact am_s_lload hc hroom hrep hcells hslots rfl hok hk
  | lload_n => exact am_s_lload_n hc hroom hrep hcells hslots rfl hok hk
  | aload => exact am_s_aload hc hroom hrep hcells hslots rfl hok hk
  | aload_n => exact am_s_aload_n hc hroom hrep hcells hslots rfl hok hk
  | istore => exact am_s_istore hc hroom hrep hcells hslots rfl hok hk
  | istore_n => exact am_s_istore_n hc hroom hrep hcells hslots rfl hok hk
  | astore => exact am_s_astore hc hroom hrep hcells hslots rfl hok hk
  | astore_n => exact am_s_astore_n hc hroom hrep hcells hslots rfl hok hk
  | lstore => exact am_s_lstore hc hroom hrep hcells hslots rfl hok hk
  | lstore_n => exact am_s_lstore_n hc hroom hrep hcells hslots rfl hok hk
  | iinc => exact am_s_iinc hc hroom hrep hcells hslots rfl hok hk
  | iadd => exact am_s_iadd hc hroom hrep hcells hslots rfl hok hk
  | isub => exact am_s_isub hc hroom hrep hcells hslots rfl hok hk
  | imul => exact am_s_imul hc hroom hrep hcells hslots rfl hok hk
  | iand => exact am_s_iand hc hroom hrep hcells hslots rfl hok hk
  | ior => exact am_s_ior hc hroom hrep hcells hslots rfl hok hk
  | ixor => exact am_s_ixor hc hroom hrep hcells hslots rfl hok hk
  | ishl => exact am_s_ishl hc hroom hrep hcells hslots rfl hok hk
  | ishr => exact am_s_ishr hc hroom hrep hcells hslots rfl hok hk
  | iushr => exact am_s_iushr hc hroom hrep hcells hslots rfl hok hk
  | idiv => exact am_s_idiv hc hroom hrep hcells hslots rfl hok hk
  | irem => exact am_s_irem hc hroom hrep hcells hslots rfl hok hk
  | ladd => exact am_s_ladd hc hroom hrep hcells hslots rfl hok hk
  | lmul => exact am_s_lmul hc hroom hrep hcells hslots rfl hok hk
  | lrem => exact am_s_lrem hc hroom hrep hcells hslots rfl hok hk
  | lcmp => exact am_s_lcmp hc hroom hrep hcells hslots rfl hok hk
  | ineg => exact am_s_ineg hc hroom hrep hcells hslots rfl hok hk
  | i2l => exact am_s_i2l hc hroom hrep hcells hslots rfl hok hk
  | l2i => exact am_s_l2i hc hroom hrep hcells hslots rfl hok hk
  | i2b => exact am_s_i2b hc hroom hrep hcells hslots rfl hok hk
  | i2s => exact am_s_i2s hc hroom hrep hcells hslots rfl hok hk
  | dup => exact am_s_dup hc hroom hrep hcells hslots rfl hok hk
  | dup2 => exact am_s_dup2 hc hroom hrep hcells hslots rfl hok hk
  | pop => exact am_s_pop hc hroom hrep hcells hslots rfl hok hk
  | goto => exact am_s_goto hc hroom hrep hcells hslots rfl hok hk
  | if_icmp => exact am_s_icmp hc hroom hrep hcells hslots rfl hok hk
  | ifCond => exact am_s_ifc hc hroom hrep hcells hslots rfl hok hk
  | tableswitch => exact am_s_tsw hc hroom hrep hcells hslots rfl hok hk
  | lookupswitch => exact am_s_lsw hc hroom hrep hcells hslots rfl hok hk
  | getfield => exact am_s_getf hc hroom hrep hcells hslots rfl hok hk
  | putfield => exact am_s_putf hc hroom hrep hcells hslots rfl hok hk
  | iaload => exact am_s_iald hc hroom hrep hcells hslots rfl hok hk
  | baload => exact am_s_bald hc hroom hrep hcells hslots rfl hok hk
  | iastore => exact am_s_iast hc hroom hrep hcells hslots rfl hok hk
  | bastore => exact am_s_bast hc hroom hrep hcells hslots rfl hok hk
  | arraylength => exact am_s_alen hc hroom hrep hcells hslots rfl hok hk
  | new => exact am_s_new hc hroom hrep hcells hslots rfl hok hk
  | newarray => exact am_s_newa hc hroom hrep hcells hslots rfl hok hk
  | invokevirtual i => exact am_s_vir hc hR hrep hcells hslots hcap rfl hok hk
  | invokespecial i => exact am_s_spe hc hR hrep hcells hslots hcap rfl hok hk
  | invokestatic i => exact am_s_sta hc hR hrep hcells hslots hcap rfl hok hk
  | ireturn =>
    obtain ⟨hd0, hok1⟩ := am_and hok
    have hd0 := of_decide_eq_true hd0
    obtain ⟨hl, hm⟩ := am_and hok1
    obtain ⟨e9, hd⟩ := am_dec hd0 hl
    obtain ⟨x, r, rfl, hk1⟩ := am_i1_inv hk
    obtain ⟨rfl, hk2⟩ := am_nil_inv hk1
    match tg, hm, hk2 with
    | 0, hm, hk2 => exact hret _ (Or.inl ⟨x, rfl, hd, Or.inl (of_decide_eq_true hm)⟩) hk2.2
    | t + 1, hm, hk2 => exact hret _ (Or.inl ⟨x, rfl, hd, Or.inr ⟨of_decide_eq_true hm, hk2.1⟩⟩) hk2.2
  | areturn =>
    obtain ⟨hd0, hok1⟩ := am_and hok
    have hd0 := of_decide_eq_true hd0
    obtain ⟨hl, hm⟩ := am_and hok1
    obtain ⟨e9, hd⟩ := am_dec hd0 hl
    obtain ⟨x, r, rfl, hk1⟩ := am_r1_inv hk
    obtain ⟨rfl, hk2⟩ := am_nil_inv hk1
    match ret, hret, hm with
    | some (.object C), hret, hm => exact hret _ (Or.inr (Or.inl ⟨x, C, rfl, hd, rfl⟩)) hk2.2
  | return_ =>
    obtain ⟨hd0, hok1⟩ := am_and hok
    have hd0 := of_decide_eq_true hd0
    obtain ⟨hl, hm⟩ := am_and hok1
    obtain ⟨e9, hd⟩ := am_dec hd0 hl
    obtain ⟨rfl, hk2⟩ := am_nil_inv hk
    exact hret _ (Or.inr (Or.inr ⟨rfl, hd, of_decide_eq_true hm⟩)) hk2.2
  | _ => exact hk.elim
theorem am_run_sound {d : Nat} (hc : am_ctx p s m args meth c b0 b cI cB dC dI cc own mnm nL n0 scr) (hR : d + 2 ≤ R.frames ∧ 139 + 40 * d ≤ R.locals) {C : Nat → List Value → am_H → Option Value → am_H → Prop} (hC : ∀ j as h w h1, C j as h w h1 → am_met l b0 b cI cB dC dI d j as h w h1) {t : am_T} (ht : am_okT (am_ok1 am_mt own mnm cc nL ret) 0 t = true) {v : Option Value} {h' : am_H} (hN : h'.length ≤ R.cells + n0 ∧ am_szs h' ≤ R.slots + z0)
    (hret : ∀ (pc : Nat) (H : Heap) (locs : List Loc) (ls : Array Slot) (cells slots : Nat) (L : am_L), am_rep b0 b cI cB dC dI s nL H locs ls L h' → cells + n0 = h'.length → slots + z0 = am_szs h' → am_retAt cc ret pc v → W p l e R s m args below meth c H locs cells slots Q (F0 m pc ls (v.toList.map (am_cv b0 b)))) :
    ∀ (n : Nat) (f : am_F), am_run scr C t n f v h' → am_cont p l e R s m args below meth c Q b0 b cI cB dC dI nL n0 z0 f
  | 0, f, hr => by cases hr
  | n + 1, f, hr => by
    have hup := am_run_up (fun j as h w h1 hj => (hC j as h w h1 hj).1) (n + 1) f hr
    have hcap : f.2.2.2.length ≤ R.cells + n0 ∧ am_szs f.2.2.2 ≤ R.slots + z0 := ⟨Nat.le_trans hup.1 hN.1, Nat.le_trans hup.2 hN.2⟩
    refine ⟨hcap, fun H locs ls cells slots hrep hcells hslots => ?_⟩
    unfold am_run at hr
    split at hr
    next => cases hr
    next E hE =>
      refine am_one (Kf := fun w => v = w ∧ h' = f.2.2.2) hc hR hrep hcells hslots hcap (am_fetch_ok ht hE) (fun w hw hf => ?_) (am_K_map hr (fun g hg => am_run_sound hc hR hC ht hN hret n g hg) (fun c w hw => hw) (fun j as g hg => ?_))
      · obtain ⟨rfl, e2⟩ := hf
        rw [← e2] at hrep hcells hslots
        exact hret f.1 H locs ls cells slots f.2.1 hrep hcells hslots hw
      · obtain ⟨w, h1, h2, h3⟩ := hg
        exact ⟨w, h1, hC _ _ _ _ _ h2, am_run_sound hc hR hC ht hN hret n _ h3⟩
end
theorem am_ent_at {b0 b : Nat} : ∀ (as : List Value) (i : Nat) (v : Value), (as.flatMap (fun v => if v.category = 2 then [some v, none] else [some v]))[i]? = some (some v) → (lg_sl (as.map (am_cv b0 b)))[i]? = some (.val (am_cv b0 b v))
  | [], i, v, h => by simp at h
  | a :: as, i, v, h => by
    by_cases hc : a.category = 2
    · have e1 : lg_sl ((a :: as).map (am_cv b0 b)) = Slot.val (am_cv b0 b a) :: Slot.second :: lg_sl (as.map (am_cv b0 b)) := by
        simp [lg_sl, am_cv_cat, hc]
      rw [e1]
      simp only [List.flatMap_cons, hc, if_true] at h
      match i, h with
      | 0, h => simp at h; subst h; rfl
      | 1, h => simp at h
      | i + 2, h => exact am_ent_at as i v (by simpa using h)
    · have e1 : lg_sl ((a :: as).map (am_cv b0 b)) = Slot.val (am_cv b0 b a) :: lg_sl (as.map (am_cv b0 b)) := by
        simp [lg_sl, am_cv_cat, hc]
      rw [e1]
      simp only [List.flatMap_cons, hc, if_false] at h
      match i, h with
      | 0, h => simp at h; subst h; rfl
      | i + 1, h => exact am_ent_at as i v (by simpa using h)
theorem am_ent_len {b0 b : Nat} : ∀ as : List Value, (lg_sl (as.map (am_cv b0 b))).length = (as.flatMap (fun v => if v.category = 2 then [some v, none] else [some v])).length
  | [] => rfl
  | a :: as => by
    have ih := am_ent_len (b0 := b0) (b := b) as
    by_cases hc : a.category = 2
    · have e1 : lg_sl ((a :: as).map (am_cv b0 b)) = Slot.val (am_cv b0 b a) :: Slot.second :: lg_sl (as.map (am_cv b0 b)) := by
        simp [lg_sl, am_cv_cat, hc]
      rw [e1]
      simp [List.flatMap_cons, hc, ih]
    · have e1 : lg_sl ((a :: as).map (am_cv b0 b)) = Slot.val (am_cv b0 b a) :: lg_sl (as.map (am_cv b0 b)) := by
        simp [lg_sl, am_cv_cat, hc]
      rw [e1]
      simp [List.flatMap_cons, hc, ih]
theorem am_ent_lh {b0 b nL : Nat} {as : List Value} (hl : (am_ent nL as).length = nL) : am_lh b0 b ((lg_sl (as.map (am_cv b0 b)) ++ List.replicate (nL - (lg_sl (as.map (am_cv b0 b))).length) Slot.unset).toArray) nL (am_ent nL as) := by
  have hlen := am_ent_len (b0 := b0) (b := b) as
  have hle : (lg_sl (as.map (am_cv b0 b))).length ≤ nL := by
    unfold am_ent at hl
    simp only [List.length_append, List.length_replicate] at hl
    omega
  have h1 := lv_entry (as.map (am_cv b0 b)) hle
  refine ⟨h1.1, h1.2.1, hl, fun i v hi => ?_⟩
  unfold am_ent at hi
  simp only at hi
  have hlt : i < (as.flatMap (fun v => if v.category = 2 then [some v, none] else [some v])).length := by
    refine Nat.lt_of_not_le (fun h => ?_)
    rw [List.getElem?_append_right h] at hi
    have := List.eq_of_mem_replicate (List.mem_of_getElem? hi)
    cases this
  rw [List.getElem?_append_left hlt] at hi
  have h2 := am_ent_at (b0 := b0) (b := b) as i v hi
  rw [List.getElem?_toArray, List.getElem?_append_left (by rw [hlen]; exact hlt)]
  exact h2
set_option maxHeartbeats 1000000 in
/-- what my machine says of a method is its contract -/
theorem am_ev_met {l : Launch} {b0 b : Nat} {cI cB : ClassId} {dC : Nat → ClassId} {dI : Nat → Nat → Nat} : ∀ (d j : Nat) (as : List Value) (h : am_H) (v : Option Value) (h' : am_H), am_ev d j as h v h' → am_met l b0 b cI cB dC dI d j as h v h'
  | 0, _, _, _, _, _, hv => by cases hv
  | d + 1, j, as, h, v, h', hv => by
    have hup := am_ev_up (d + 1) j as h v h' hv
    obtain ⟨M, n, hM, hent, hr⟩ := hv
    refine ⟨hup, M, hM, ?_⟩
    obtain ⟨hH, hT⟩ := am_ms_ok M (List.mem_of_getElem? hM)
    have hpl : plainName M.1.cls = true := by
      obtain ⟨y, c1, nL1, ret1, kd, w1, w2, w3, w4, n1, t1⟩ := M
      simp only [am_okH, Bool.and_eq_true, decide_eq_true_eq] at hH
      exact hH.1.1.1.1.2
    refine Met.ofW (cc := M.2.1) (maxL := M.2.2.1) (ret := M.2.2.2.1) hpl rfl ?_
    intro p e s m args below meth c s₁ B hml hv
    obtain ⟨rfl, hsz, hP, hK⟩ := hv
    have hts := atoms_spec (ws := am_wsM M) B.pre
    have hr9 := B.returns
    have hlocks := B.notSynchronized
    rw [lg_entry_eq]
    refine (am_run_sound (b0 := b0) (b := b) (cI := cI) (cB := cB) (dC := dC) (dI := dI) (n0 := h.length) (z0 := am_szs h) (d := d) (own := M.1.cls) (mnm := M.1.name) (cc := M.2.1) (nL := M.2.2.1) (ret := M.2.2.2.1) (scr := none)
      ⟨B.exec, B.bytes, hml, findClass_of_methodNamed B.named, fun w hw => hts w (List.mem_cons_of_mem _ hw), hK, fun _ => (name_of_methodNamed B.named B.method).1, hsz, fun n xs hx => by cases hx⟩
      ⟨Nat.le_refl _, by show 139 + 40 * d ≤ 100 + 40 * (d + 1); omega⟩ (fun j as h w h1 hj => am_ev_met d j as h w h1 hj) hT ⟨by show h'.length ≤ (h'.length - h.length) + h.length; have := hup.1; omega, by show am_szs h' ≤ (am_szs h' - am_szs h) + am_szs h; have := hup.2; omega⟩ ?_ n _ hr).2 s.heap [] _ 0 0 ⟨hP, va_S.rf, am_ent_lh hent⟩ (Nat.zero_add _) (Nat.zero_add _)
    intro pc H locs ls cells slots L hrep hcells hslots hret
    obtain ⟨hP1, hS1, -⟩ := hrep
    have e1 : cells = h'.length - h.length := by omega
    have e2 : slots = am_szs h' - am_szs h := by omega
    subst e1
    subst e2
    rcases hret with ⟨x, rfl, hd, hrt⟩ | ⟨q, C, rfl, hd, hrt⟩ | ⟨rfl, hd, hrt⟩
    · rcases hrt with hrt | ⟨hrt, hx⟩
      · exact W.iret (v := x) B.exec B.bytes (hr9.trans hrt) (fun t ht hW => ⟨rfl, by rw [ht]; exact hP1, hS1.F ht⟩) hS1.2.2 hd
      · exact W.zret (v := x) B.exec B.bytes (hr9.trans hrt) (by rcases hx with rfl | rfl <;> rfl) (fun t ht hW => ⟨rfl, by rw [ht]; exact hP1, hS1.F ht⟩) hS1.2.2 hd
    · exact W.aret (v := .ref (b0 + q)) B.exec B.bytes (hr9.trans hrt) (Or.inl ⟨C, rfl⟩) (Or.inr ⟨_, rfl⟩) (fun t ht hW => ⟨rfl, by rw [ht]; exact hP1, hS1.F ht⟩) hS1.2.2 hd
    · exact W.vret B.exec B.bytes (hr9.trans hrt) (fun t ht hW => ⟨rfl, by rw [ht]; exact hP1, hS1.F ht⟩) hS1.2.2 hd

/-! calls and answers -/
def am_Pc (b0 b : Nat) (cI cB : ClassId) (dC : Nat → ClassId) (dI : Nat → Nat → Nat) (as : List Value) (h : am_H) : Array Value → State → Prop := va_Pc (as.map (am_cv b0 b)) (fun U => U.heap.size = b0 + h.length ∧ va_P (dC, dI) vwCl (am_cw b0 b cI cB 0 h) U.heap ∧ va_K (dC, dI) vwCl [(cI, .int), (cB, .boolean)] U)
def am_Qc (b0 b : Nat) (cI cB : ClassId) (dC : Nat → ClassId) (dI : Nat → Nat → Nat) (w : Option Value) (h1 : am_H) : Array Value → State → Outcome → State → Prop := fun _ st oc t => oc = .returned (w.map (am_cv b0 b)) ∧ va_P (dC, dI) vwCl (am_cw b0 b cI cB 0 h1) t.heap ∧ va_F (fun q => b0 ≤ q) st t
def am_rm (d mc ms : Nat) : Room := { frames := d + 1, cells := mc, slots := ms, locals := 100 + 40 * d }
def am_wsM (M : am_M) : List Jvm.Cond := .code M.1 M.2.1 M.2.2.1 M.2.2.2.1 :: am_ws
def am_met (l : Launch) (b0 b : Nat) (cI cB : ClassId) (dC : Nat → ClassId) (dI : Nat → Nat → Nat) (d j : Nat) (as : List Value) (h : am_H) (w : Option Value) (h1 : am_H) : Prop :=
  am_up h h1 ∧ ∃ M : am_M, am_ms[j]? = some M ∧ Met l M.1 (am_wsM M) (am_rm d (h1.length - h.length) (am_szs h1 - am_szs h)) (am_Pc b0 b cI cB dC dI as h) (am_Qc b0 b cI cB dC dI w h1) (h1.length - h.length) (am_szs h1 - am_szs h) (fun q => b0 ≤ q)
theorem am_blind {b0 b : Nat} {cI cB : ClassId} {dC : Nat → ClassId} {dI : Nat → Nat → Nat} {as : List Value} {h : am_H} : FrameBlind (am_Pc b0 b cI cB dC dI as h) := fun a U g mk q => ⟨q.1, q.2.1, q.2.2.1, va_K.moved (u := U) (U := U.calling g mk a) (Vm.Alike.refl U.vm) q.2.2.2⟩
theorem am_hd_at {j : Nat} {M : am_M} (hM : am_ms[j]? = some M) : am_mt j = some (am_hd M) := by
  have hlt : j < (am_ms.map am_hd).length := by rw [List.length_map]; exact (List.getElem?_eq_some_iff.mp hM).1
  unfold am_mt
  rw [← am_ms_hs, List.getElem?_append_left hlt, List.getElem?_map, hM]
  rfl
theorem am_nonest {w : Nat} {own : String} {i : Nat} {y : MethodName} (h : lw_tbl[w]? = some (Jvm.Cond.methodLinkNest own i y "HoarseHill")) (hy : y.cls = "java/lang/Math") : False := by
  have h1 : lw_tbl.all (fun w => match w with
    | .methodLinkNest _ _ y _ => !(y.cls == "java/lang/Math")
    | _ => true) = true := by decide +kernel
  have h2 := List.all_eq_true.mp h1 _ (List.mem_of_getElem? h)
  simp [hy] at h2
section
variable {p : Program} {l : Launch} {e : Env} {R : Room} {s : State} {m : MethodId} {args : Array Value} {below : List Frame} {meth : Method} {c : Code} {Q : State → Prop}
variable {b0 b : Nat} {cI cB : ClassId} {dC : Nat → ClassId} {dI : Nat → Nat → Nat} {cc : ByteArray} {own mnm : String} {nL n0 z0 : Nat} {ret : Option FieldType} {scr : Option (Nat × (Nat → Int32))}
variable {H : Heap} {locs : List Loc} {ls : Array Slot} {cells slots pc d : Nat} {L : am_L} {st : List Value} {h : am_H} {Kr : Prop → Option Value → Prop}
theorem am_callw {w : Option Value} {h1 : am_H} {mc ms : Nat} {a : Array Value} {st0 r : List Value} (hr : va_Run p l e R s m args below meth c H locs cells slots mc ms (F0 m pc ls st0) (r.map (am_cv b0 b)) (am_Qc b0 b cI cB dC dI w h1 a) (fun q => b0 ≤ q)) (hS : va_S (fun q => b0 ≤ q) s.heap H locs)
    (kk : ∀ (H1 : Heap) (locs1 : List Loc), va_P (dC, dI) vwCl (am_cw b0 b cI cB 0 h1) H1 → va_S (fun q => b0 ≤ q) s.heap H1 locs1 → W p l e R s m args below meth c H1 locs1 (cells + mc) (slots + ms) Q (F0 m (pc + 3) ls ((w.toList ++ r).map (am_cv b0 b)))) : W p l e R s m args below meth c H locs cells slots Q (F0 m pc ls st0) := by
  intro T hT X
  obtain ⟨v, st₀, t, T', L, h0, X', hL, e1, e2, ⟨hv, hp, hz, hk⟩, st⟩ := hr T hT X
  cases hv
  rw [h0] at hz hk
  obtain ⟨t2, a1, b1⟩ := kk T'.heap (locs ++ L) (by rw [e1]; exact hp) ⟨Nat.le_trans hS.1 (by rw [e1]; exact hz), fun q h1 h2 => by rw [e1, hk q (Nat.lt_of_lt_of_le h1 hS.1) h2]; exact hS.2.1 q h1 h2, fun q hq => by
      rcases List.mem_append.mp hq with h | h
      · exact hS.2.2 q h
      · exact hL q h⟩ T' rfl X'
  refine ⟨t2, st t2 ?_, b1⟩
  have e9 : (w.map (am_cv b0 b)).toList ++ r.map (am_cv b0 b) = (w.toList ++ r).map (am_cv b0 b) := by cases w <;> simp
  show Steps p.tables e below (T'.setTop (F0 m (pc + 3) ls ((w.map (am_cv b0 b)).toList ++ r.map (am_cv b0 b)))) t2
  rw [e9]
  exact a1
/-- what a call needs of the tables, but for its own link -/
theorem am_callB {M : am_M} {j mc ms n : Nat} (hts : ∀ w ∈ am_ws, w.before args s = true) (hR : d + 2 ≤ R.frames ∧ 139 + 40 * d ≤ R.locals) (hM : am_ms[j]? = some M) (hn : M.2.2.2.2.2.2.2.2.2.1 = n) :
    ((am_rm d mc ms).cells = mc ∧ (am_rm d mc ms).slots = ms ∧ (am_rm d mc ms).frames + 1 ≤ R.frames ∧ 8 + (M.2.2.1 + 11) + (am_rm d mc ms).locals ≤ R.locals ∧ (∀ w ∈ am_wsM M, ∀ (a' : Array Value) (U : State), s.WarmedH U.vm → w.before a' U = true) ∧ Jvm.Cond.code M.1 M.2.1 M.2.2.1 M.2.2.2.1 ∈ am_wsM M) ∧
    (Jvm.Cond.code M.1 M.2.1 M.2.2.1 M.2.2.2.1).before args s = true ∧ (Jvm.Cond.initialized M.1.cls).before args s = true ∧ (M.1.cls ≠ "java/lang/invoke/MethodHandle" ∧ M.1.cls ≠ "java/lang/invoke/VarHandle") ∧ (∀ sig, parseMethodDescriptor M.1.desc = some sig → n = sig.parameters.length) ∧
    (M.2.2.2.2.1 = 0 → (Jvm.Cond.static M.1).before args s = true) ∧ (M.2.2.2.2.1 = 1 → (Jvm.Cond.instanceMethod M.1).before args s = true ∧ (Jvm.Cond.selects M.1.cls M.1 M.1).before args s = true) ∧ (M.2.2.2.2.1 = 2 → (Jvm.Cond.instanceMethod M.1).before args s = true ∧ M.1.name = "<init>" ∧ M.2.2.2.1 = none) := by
  have hOk := (am_ms_ok M (List.mem_of_getElem? hM)).1
  obtain ⟨y, c1, nL1, ret1, kd, w1, w2, w3, w4, n1, t1⟩ := M
  dsimp only at hn ⊢
  subst hn
  simp only [am_okH, Bool.and_eq_true, decide_eq_true_eq] at hOk
  obtain ⟨⟨⟨⟨⟨⟨⟨h1, h2⟩, h3⟩, h4⟩, h5⟩, h6⟩, h7⟩, h8⟩ := hOk
  have hc := am_hts hts h1 rfl
  have hn := Nat.le_of_ble_eq_true h8
  refine ⟨⟨rfl, rfl, hR.1, ?_, fun w hw => ?_, List.mem_cons_self⟩, hc, am_hts hts h2 rfl, ⟨h5, h6⟩, fun sig hs => ?_, fun hk => ?_, fun hk => ?_, fun hk => ?_⟩
  · show 8 + (nL1 + 11) + (100 + 40 * d) ≤ R.locals
    omega
  · rcases List.mem_cons.mp hw with rfl | hw
    · exact am_pay hts _ (am_in h1 rfl)
    · exact am_pay hts w hw
  · rw [hs] at h7
    exact (Option.some.inj h7).symm
  · subst hk
    exact am_hts hts (of_decide_eq_true h3) rfl
  · subst hk
    obtain ⟨g1, g2⟩ := am_and h3
    exact ⟨am_hts hts (of_decide_eq_true g1) rfl, am_hts hts (of_decide_eq_true g2) rfl⟩
  · subst hk
    obtain ⟨g1, g3⟩ := am_and h3
    obtain ⟨g1, g2⟩ := am_and g1
    exact ⟨am_hts hts (of_decide_eq_true g1) rfl, of_decide_eq_true g2, of_decide_eq_true g3⟩
set_option maxHeartbeats 1000000 in
theorem am_s_vir {E : am_I} (hc : am_ctx p s m args meth c b0 b cI cB dC dI cc own mnm nL n0 scr) (hR : d + 2 ≤ R.frames ∧ 139 + 40 * d ≤ R.locals) (hrep : am_rep b0 b cI cB dC dI s nL H locs ls L h) (hcells : cells + n0 = h.length) (hslots : slots + z0 = am_szs h) (hcap : h.length ≤ R.cells + n0 ∧ am_szs h ≤ R.slots + z0) {i nx tg a b' w : Nat} {v : Int32} {lv : Int64} {sw : List (Int32 × Nat)} (hE : E = (.invokevirtual i, nx, tg, a, b', w, v, lv, sw)) (hok : am_ok1 am_mt own mnm cc nL ret pc E = true)
    (hk : am_K (am_step scr E L st h) (am_cont p l e R s m args below meth c Q b0 b cI cB dC dI nL n0 z0) Kr (fun j as f => ∃ (w : Option Value) (h1 : am_H), am_met l b0 b cI cB dC dI d j as h w h1 ∧ am_cont p l e R s m args below meth c Q b0 b cI cB dC dI nL n0 z0 (f.1, f.2.1, w.toList ++ f.2.2.1, h1))) : W p l e R s m args below meth c H locs cells slots Q (F0 m pc ls (st.map (am_cv b0 b))) := by
  subst hE
  obtain ⟨hd0, hok⟩ := am_and hok
  have hd0 := of_decide_eq_true hd0
  obtain ⟨hx, hb, hml, hown, hts, hK, hmn, hb0, hsc⟩ := hc
  obtain ⟨hP, hS, hL⟩ := hrep
  obtain ⟨hok, hrcv⟩ := am_and hok
  obtain ⟨hl, hcal⟩ := am_and hok
  obtain ⟨e9, hd⟩ := am_dec hd0 hl
  subst e9
  obtain ⟨as, r, hpop, hk⟩ := am_pp_inv hk
  obtain ⟨q, r, rfl, hk⟩ := am_r1_inv hk
  obtain ⟨ci, fs, hq, hk2⟩ := am_ob_inv hk
  obtain ⟨hci, hk3⟩ := am_bb_inv hk2
  cases am_beq hci
  obtain ⟨hcat, hk⟩ := am_bb_inv hk3
  have hk : ∃ (w : Option Value) (h1 : am_H), am_met l b0 b cI cB dC dI d a (.ref q :: as) h w h1 ∧ am_cont p l e R s m args below meth c Q b0 b cI cB dC dI nL n0 z0 (pc + 3, L, w.toList ++ r, h1) := hk
  obtain ⟨v1, h1, ⟨hup, M, hM, hMet⟩, hkc⟩ := hk
  obtain ⟨xs, x1, x2, rfl⟩ := am_pop_eq _ _ _ _ _ hpop
  rw [List.append_nil] at x2
  subst x2
  have hh := am_hd_at hM
  unfold am_call at hcal
  rw [hh] at hcal
  simp only [am_hd, Bool.and_eq_true] at hcal
  obtain ⟨⟨g1, g2⟩, g3⟩ := hcal
  have g1 := am_beq g1
  have g2 := am_beq g2
  obtain ⟨⟨k1, k2, k3, k4, k5, k6⟩, k7, k8, k9, k10, k11, k12, k13⟩ := am_callB (mc := h1.length - h.length) (ms := am_szs h1 - am_szs h) hts hR hM g1
  have g3 := am_hts hts (of_decide_eq_true g3) rfl
  unfold am_rcv at hrcv
  rw [hh] at hrcv
  split at hrcv
  next y0 _ _ qq he hcl =>
    cases he
    have hrcv : M.1.cls = qq.1 := of_decide_eq_true hrcv
    obtain ⟨k11, k11b⟩ := k12 g2
    refine am_W_size hb0 hcells hP hS (fun hZ => ?_)
    refine am_callw (r := r) (va_runV (C := qq.1) (b := b0 + q) (As := as.map (am_cv b0 b)) (rest := r.map (am_cv b0 b)) (n := b') ⟨hx, hb, hml, hown, hts⟩ hMet ⟨⟨k1, k2, k3, k4, k5, k6, k7, k8, k9, k10, g3⟩, k11, by rw [← hrcv]; exact k11b⟩ ⟨am_blind, va_recv hK hP hcl (am_cw_get hq), fun U hU hW => ⟨rfl, by rw [hU]; exact hZ, by rw [hU]; exact hP, va_K.moved hW.alike hK⟩⟩ rfl (by rw [List.length_map]; exact x1) hL.1 (by simp [am_cv]) (lv_room (by rw [am_cats_eq]; exact Nat.le_of_ble_eq_true hcat)) hd ⟨by have := hkc.1.1; have := hup.1; dsimp only at *; omega, by have := hkc.1.2; have := hup.2; dsimp only at *; omega⟩) hS (fun H1 locs1 hP1 hS1 => hkc.2 H1 locs1 ls _ _ ⟨hP1, hS1, hL⟩ (by have := hup.1; dsimp only; omega) (by have := hup.2; dsimp only; omega))
  next => cases hrcv
set_option maxHeartbeats 1000000 in
theorem am_s_spe {E : am_I} (hc : am_ctx p s m args meth c b0 b cI cB dC dI cc own mnm nL n0 scr) (hR : d + 2 ≤ R.frames ∧ 139 + 40 * d ≤ R.locals) (hrep : am_rep b0 b cI cB dC dI s nL H locs ls L h) (hcells : cells + n0 = h.length) (hslots : slots + z0 = am_szs h) (hcap : h.length ≤ R.cells + n0 ∧ am_szs h ≤ R.slots + z0) {i nx tg a b' w : Nat} {v : Int32} {lv : Int64} {sw : List (Int32 × Nat)} (hE : E = (.invokespecial i, nx, tg, a, b', w, v, lv, sw)) (hok : am_ok1 am_mt own mnm cc nL ret pc E = true)
    (hk : am_K (am_step scr E L st h) (am_cont p l e R s m args below meth c Q b0 b cI cB dC dI nL n0 z0) Kr (fun j as f => ∃ (w : Option Value) (h1 : am_H), am_met l b0 b cI cB dC dI d j as h w h1 ∧ am_cont p l e R s m args below meth c Q b0 b cI cB dC dI nL n0 z0 (f.1, f.2.1, w.toList ++ f.2.2.1, h1))) : W p l e R s m args below meth c H locs cells slots Q (F0 m pc ls (st.map (am_cv b0 b))) := by
  subst hE
  obtain ⟨hd0, hok⟩ := am_and hok
  have hd0 := of_decide_eq_true hd0
  obtain ⟨hx, hb, hml, hown, hts, hK, hmn, hb0, hsc⟩ := hc
  obtain ⟨hP, hS, hL⟩ := hrep
  obtain ⟨hl, hok2⟩ := am_and hok
  obtain ⟨e9, hd⟩ := am_dec hd0 hl
  subst e9
  match tg, hok2, hk with
  | 0, hcal, hk =>
    obtain ⟨as, r, hpop, hk⟩ := am_pp_inv hk
    obtain ⟨q, r, rfl, hk⟩ := am_r1_inv hk
    obtain ⟨hcat, hk⟩ := am_bb_inv hk
    have hk : ∃ (w : Option Value) (h1 : am_H), am_met l b0 b cI cB dC dI d a (.ref q :: as) h w h1 ∧ am_cont p l e R s m args below meth c Q b0 b cI cB dC dI nL n0 z0 (pc + 3, L, w.toList ++ r, h1) := hk
    obtain ⟨v1, h1, ⟨hup, M, hM, hMet⟩, hkc⟩ := hk
    obtain ⟨xs, x1, x2, rfl⟩ := am_pop_eq _ _ _ _ _ hpop
    rw [List.append_nil] at x2
    subst x2
    have hh := am_hd_at hM
    unfold am_call at hcal
    rw [hh] at hcal
    simp only [am_hd, Bool.and_eq_true] at hcal
    obtain ⟨⟨g1, g2⟩, g3⟩ := hcal
    have g1 := am_beq g1
    have g2 := am_beq g2
    obtain ⟨⟨k1, k2, k3, k4, k5, k6⟩, k7, k8, k9, k10, k11, k12, k13⟩ := am_callB (mc := h1.length - h.length) (ms := am_szs h1 - am_szs h) hts hR hM g1
    have g3 := am_hts hts (of_decide_eq_true g3) rfl
    obtain ⟨k11, k12, k13⟩ := k13 g2
    rw [k13] at k6 k7
    refine am_W_size hb0 hcells hP hS (fun hZ => ?_)
    exact am_callw (r := r) (va_runI (b := b0 + q) (As := as.map (am_cv b0 b)) (rest := r.map (am_cv b0 b)) (n := b') ⟨hx, hb, hml, hown, hts⟩ hMet ⟨⟨k1, k2, k3, k4, k5, k6, k7, k8, k9, k10, g3⟩, k12, k11⟩ ⟨am_blind, fun U hU hW => ⟨rfl, by rw [hU]; exact hZ, by rw [hU]; exact hP, va_K.moved hW.alike hK⟩⟩ rfl (by rw [List.length_map]; exact x1) hL.1 (by simp [am_cv]) (lv_room (by rw [am_cats_eq]; exact Nat.le_of_ble_eq_true hcat)) hd ⟨by have := hkc.1.1; have := hup.1; dsimp only at *; omega, by have := hkc.1.2; have := hup.2; dsimp only at *; omega⟩) hS (fun H1 locs1 hP1 hS1 => hkc.2 H1 locs1 ls _ _ ⟨hP1, hS1, hL⟩ (by have := hup.1; dsimp only; omega) (by have := hup.2; dsimp only; omega))
  | 1, hcal, hk =>
    obtain ⟨as, r, hpop, hk⟩ := am_pp_inv hk
    obtain ⟨q, r, rfl, hk⟩ := am_r1_inv hk
    obtain ⟨hcat, hk⟩ := am_bb_inv hk
    have hk : ∃ (w : Option Value) (h1 : am_H), am_met l b0 b cI cB dC dI d a (.ref q :: as) h w h1 ∧ am_cont p l e R s m args below meth c Q b0 b cI cB dC dI nL n0 z0 (pc + 3, L, w.toList ++ r, h1) := hk
    obtain ⟨v1, h1, ⟨hup, M, hM, hMet⟩, hkc⟩ := hk
    obtain ⟨xs, x1, x2, rfl⟩ := am_pop_eq _ _ _ _ _ hpop
    rw [List.append_nil] at x2
    subst x2
    have hh := am_hd_at hM
    unfold am_call at hcal
    rw [hh] at hcal
    simp only [am_hd, Bool.and_eq_true] at hcal
    obtain ⟨⟨g1, g2⟩, g3⟩ := hcal
    have g1 := am_beq g1
    have g2 := am_beq g2
    obtain ⟨⟨k1, k2, k3, k4, k5, k6⟩, k7, k8, k9, k10, k11, k12, k13⟩ := am_callB (mc := h1.length - h.length) (ms := am_szs h1 - am_szs h) hts hR hM g1
    have g3 := am_hts hts (of_decide_eq_true g3) rfl
    obtain ⟨k11, k12, k13⟩ := k13 g2
    rw [k13] at k6 k7
    refine am_W_size hb0 hcells hP hS (fun hZ => ?_)
    exact am_callw (r := r) (va_runIN (host := "HoarseHill") (b := b0 + q) (As := as.map (am_cv b0 b)) (rest := r.map (am_cv b0 b)) (n := b') ⟨hx, hb, hml, hown, hts⟩ hMet ⟨⟨⟨k1, k2, k3, k4, k5, k6⟩, k7, k8, k9, k10, g3⟩, k12, k11⟩ ⟨am_blind, fun U hU hW => ⟨rfl, by rw [hU]; exact hZ, by rw [hU]; exact hP, va_K.moved hW.alike hK⟩⟩ rfl (by rw [List.length_map]; exact x1) hL.1 (by simp [am_cv]) (lv_room (by rw [am_cats_eq]; exact Nat.le_of_ble_eq_true hcat)) hd ⟨by have := hkc.1.1; have := hup.1; dsimp only at *; omega, by have := hkc.1.2; have := hup.2; dsimp only at *; omega⟩) hS (fun H1 locs1 hP1 hS1 => hkc.2 H1 locs1 ls _ _ ⟨hP1, hS1, hL⟩ (by have := hup.1; dsimp only; omega) (by have := hup.2; dsimp only; omega))
  | 2, hcal, hk =>
    obtain ⟨q, r, rfl, hk⟩ := am_r1_inv hk
    obtain ⟨hcat, hk⟩ := am_bb_inv hk
    have hcat : am_cats r ≤ 8 := Nat.le_of_ble_eq_true hcat
    have hk : am_cont p l e R s m args below meth c Q b0 b cI cB dC dI nL n0 z0 (pc + 3, L, r, h) := hk
    have hce := am_cats_eq b0 b r
    refine W.objInit hx hb hown (am_hts hts (of_decide_eq_true hcal) rfl) (am_hts hts (i := 100) (by decide +kernel) rfl) (am_hts hts (i := 101) (by decide +kernel) rfl) rfl (hL.1.trans hml.symm) rfl hd (by omega) (by show 2 * 0 + _ + 12 ≤ R.locals; omega) ?_
    exact hk.2 H locs ls cells slots ⟨hP, hS, hL⟩ hcells hslots
  | t + 3, hcal, hk =>
    obtain ⟨as, r, hpop, hk⟩ := am_pp_inv hk
    obtain ⟨q, r, rfl, hk⟩ := am_r1_inv hk
    obtain ⟨hcat, hk⟩ := am_bb_inv hk
    have hk : ∃ (w : Option Value) (h1 : am_H), am_met l b0 b cI cB dC dI d a (.ref q :: as) h w h1 ∧ am_cont p l e R s m args below meth c Q b0 b cI cB dC dI nL n0 z0 (pc + 3, L, w.toList ++ r, h1) := hk
    obtain ⟨v1, h1, ⟨hup, M, hM, hMet⟩, hkc⟩ := hk
    obtain ⟨xs, x1, x2, rfl⟩ := am_pop_eq _ _ _ _ _ hpop
    rw [List.append_nil] at x2
    subst x2
    have hh := am_hd_at hM
    unfold am_call at hcal
    rw [hh] at hcal
    simp only [am_hd, Bool.and_eq_true] at hcal
    obtain ⟨⟨g1, g2⟩, g3⟩ := hcal
    have g1 := am_beq g1
    have g2 := am_beq g2
    obtain ⟨⟨k1, k2, k3, k4, k5, k6⟩, k7, k8, k9, k10, k11, k12, k13⟩ := am_callB (mc := h1.length - h.length) (ms := am_szs h1 - am_szs h) hts hR hM g1
    have g3 := am_hts hts (of_decide_eq_true g3) rfl
    obtain ⟨k11, k12, k13⟩ := k13 g2
    rw [k13] at k6 k7
    refine am_W_size hb0 hcells hP hS (fun hZ => ?_)
    exact am_callw (r := r) (va_runI (b := b0 + q) (As := as.map (am_cv b0 b)) (rest := r.map (am_cv b0 b)) (n := b') ⟨hx, hb, hml, hown, hts⟩ hMet ⟨⟨k1, k2, k3, k4, k5, k6, k7, k8, k9, k10, g3⟩, k12, k11⟩ ⟨am_blind, fun U hU hW => ⟨rfl, by rw [hU]; exact hZ, by rw [hU]; exact hP, va_K.moved hW.alike hK⟩⟩ rfl (by rw [List.length_map]; exact x1) hL.1 (by simp [am_cv]) (lv_room (by rw [am_cats_eq]; exact Nat.le_of_ble_eq_true hcat)) hd ⟨by have := hkc.1.1; have := hup.1; dsimp only at *; omega, by have := hkc.1.2; have := hup.2; dsimp only at *; omega⟩) hS (fun H1 locs1 hP1 hS1 => hkc.2 H1 locs1 ls _ _ ⟨hP1, hS1, hL⟩ (by have := hup.1; dsimp only; omega) (by have := hup.2; dsimp only; omega))
set_option maxHeartbeats 1000000 in
theorem am_s_mst (hc : am_ctx p s m args meth c b0 b cI cB dC dI cc own mnm nL n0 scr) (hR : d + 2 ≤ R.frames ∧ 139 + 40 * d ≤ R.locals) (hrep : am_rep b0 b cI cB dC dI s nL H locs ls L h) (hcells : cells + n0 = h.length) (hslots : slots + z0 = am_szs h) (hcap : h.length ≤ R.cells + n0 ∧ am_szs h ≤ R.slots + z0) {i tg a b' w : Nat} (hd : decode cc pc = .ok (.invokestatic i, 3)) (hcal : am_call am_mt own i tg a b' w 0 false = true)
    (hk : am_K (am_mst a b' (pc + 3) L st h) (am_cont p l e R s m args below meth c Q b0 b cI cB dC dI nL n0 z0) Kr (fun j as f => ∃ (w : Option Value) (h1 : am_H), am_met l b0 b cI cB dC dI d j as h w h1 ∧ am_cont p l e R s m args below meth c Q b0 b cI cB dC dI nL n0 z0 (f.1, f.2.1, w.toList ++ f.2.2.1, h1))) : W p l e R s m args below meth c H locs cells slots Q (F0 m pc ls (st.map (am_cv b0 b))) := by
  obtain ⟨hx, hb, hml, hown, hts, hK, hmn, hb0, hsc⟩ := hc
  obtain ⟨hP, hS, hL⟩ := hrep
  unfold am_mst at hk
  split at hk
  next ha =>
    obtain ⟨x, y, r, rfl, hk⟩ := am_i2_inv hk
    obtain ⟨hcat, hk⟩ := am_bb_inv hk
    have hcat : am_cats r ≤ 8 := Nat.le_of_ble_eq_true hcat
    have hk : am_cont p l e R s m args below meth c Q b0 b cI cB dC dI nL n0 z0 (pc + 3, L, .int (if x < y then y else x) :: r, h) := hk
    have hce := am_cats_eq b0 b r
    have ha := am_beq ha
    rw [ha] at hcal
    unfold am_call at hcal
    rw [am_mt_max] at hcal
    simp only [Bool.and_eq_true] at hcal
    obtain ⟨-, g3⟩ := hcal
    have g3 := am_hts hts (of_decide_eq_true g3) rfl
    exact va_mmax hx hb (hml.trans hL.1.symm) hown g3 (am_hts hts (i := 770) (by decide +kernel) rfl) (am_hts hts (i := 92) (by decide +kernel) rfl) (am_hts hts (i := 771) (by decide +kernel) rfl) (by omega) (by omega) (by omega) (by omega) hd (hk.2 H locs ls cells slots ⟨hP, hS, hL⟩ hcells hslots)
  next =>
  split at hk
  next ha =>
    obtain ⟨x, y, r, rfl, hk⟩ := am_i2_inv hk
    obtain ⟨hcat, hk⟩ := am_bb_inv hk
    have hcat : am_cats r ≤ 8 := Nat.le_of_ble_eq_true hcat
    have hk : am_cont p l e R s m args below meth c Q b0 b cI cB dC dI nL n0 z0 (pc + 3, L, .int (if y < x then y else x) :: r, h) := hk
    have hce := am_cats_eq b0 b r
    have ha := am_beq ha
    rw [ha] at hcal
    unfold am_call at hcal
    rw [am_mt_min] at hcal
    simp only [Bool.and_eq_true] at hcal
    obtain ⟨-, g3⟩ := hcal
    have g3 := am_hts hts (of_decide_eq_true g3) rfl
    exact va_mmin hx hb (hml.trans hL.1.symm) hown g3 (am_hts hts (i := 519) (by decide +kernel) rfl) (am_hts hts (i := 92) (by decide +kernel) rfl) (am_hts hts (i := 520) (by decide +kernel) rfl) (by omega) (by omega) (by omega) (by omega) hd (hk.2 H locs ls cells slots ⟨hP, hS, hL⟩ hcells hslots)
  next =>
    obtain ⟨as, r, hpop, hk⟩ := am_pp_inv hk
    obtain ⟨hcat, hk⟩ := am_bb_inv hk
    have hk : ∃ (w : Option Value) (h1 : am_H), am_met l b0 b cI cB dC dI d a as h w h1 ∧ am_cont p l e R s m args below meth c Q b0 b cI cB dC dI nL n0 z0 (pc + 3, L, w.toList ++ r, h1) := hk
    obtain ⟨v1, h1, ⟨hup, M, hM, hMet⟩, hkc⟩ := hk
    obtain ⟨xs, x1, x2, rfl⟩ := am_pop_eq _ _ _ _ _ hpop
    rw [List.append_nil] at x2
    subst x2
    have hh := am_hd_at hM
    unfold am_call at hcal
    rw [hh] at hcal
    simp only [am_hd, Bool.and_eq_true] at hcal
    obtain ⟨⟨g1, g2⟩, g3⟩ := hcal
    have g1 := am_beq g1
    have g2 := am_beq g2
    obtain ⟨⟨k1, k2, k3, k4, k5, k6⟩, k7, k8, k9, k10, k11, k12, k13⟩ := am_callB (mc := h1.length - h.length) (ms := am_szs h1 - am_szs h) hts hR hM g1
    have g3 := am_hts hts (of_decide_eq_true g3) rfl
    have k11 := k11 g2
    refine am_W_size hb0 hcells hP hS (fun hZ => ?_)
    exact am_callw (r := r) (va_runS (As := as.map (am_cv b0 b)) (rest := r.map (am_cv b0 b)) (n := b') ⟨hx, hb, hml, hown, hts⟩ hMet ⟨⟨k1, k2, k3, k4, k5, k6, k7, k8, k9, k10, g3⟩, k11⟩ ⟨am_blind, fun U hU hW => ⟨rfl, by rw [hU]; exact hZ, by rw [hU]; exact hP, va_K.moved hW.alike hK⟩⟩ rfl (by rw [List.length_map]; exact x1) hL.1 (by simp) (lv_room (by rw [am_cats_eq]; exact Nat.le_of_ble_eq_true hcat)) hd ⟨by have := hkc.1.1; have := hup.1; dsimp only at *; omega, by have := hkc.1.2; have := hup.2; dsimp only at *; omega⟩) hS (fun H1 locs1 hP1 hS1 => hkc.2 H1 locs1 ls _ _ ⟨hP1, hS1, hL⟩ (by have := hup.1; dsimp only; omega) (by have := hup.2; dsimp only; omega))
set_option maxHeartbeats 1000000 in
theorem am_s_mstN (hc : am_ctx p s m args meth c b0 b cI cB dC dI cc own mnm nL n0 scr) (hR : d + 2 ≤ R.frames ∧ 139 + 40 * d ≤ R.locals) (hrep : am_rep b0 b cI cB dC dI s nL H locs ls L h) (hcells : cells + n0 = h.length) (hslots : slots + z0 = am_szs h) (hcap : h.length ≤ R.cells + n0 ∧ am_szs h ≤ R.slots + z0) {i tg a b' w : Nat} (hd : decode cc pc = .ok (.invokestatic i, 3)) (hcal : am_call am_mt own i tg a b' w 0 true = true)
    (hk : am_K (am_mst a b' (pc + 3) L st h) (am_cont p l e R s m args below meth c Q b0 b cI cB dC dI nL n0 z0) Kr (fun j as f => ∃ (w : Option Value) (h1 : am_H), am_met l b0 b cI cB dC dI d j as h w h1 ∧ am_cont p l e R s m args below meth c Q b0 b cI cB dC dI nL n0 z0 (f.1, f.2.1, w.toList ++ f.2.2.1, h1))) : W p l e R s m args below meth c H locs cells slots Q (F0 m pc ls (st.map (am_cv b0 b))) := by
  obtain ⟨hx, hb, hml, hown, hts, hK, hmn, hb0, hsc⟩ := hc
  obtain ⟨hP, hS, hL⟩ := hrep
  unfold am_mst at hk
  split at hk
  next ha =>
    rw [am_beq ha] at hcal
    exact absurd hcal (by unfold am_call; rw [am_mt_max]; simp only [Bool.and_eq_true, decide_eq_true_eq, not_and]; intro _ hw; exact am_nonest hw rfl)
  next =>
  split at hk
  next ha =>
    rw [am_beq ha] at hcal
    exact absurd hcal (by unfold am_call; rw [am_mt_min]; simp only [Bool.and_eq_true, decide_eq_true_eq, not_and]; intro _ hw; exact am_nonest hw rfl)
  next =>
    obtain ⟨as, r, hpop, hk⟩ := am_pp_inv hk
    obtain ⟨hcat, hk⟩ := am_bb_inv hk
    have hk : ∃ (w : Option Value) (h1 : am_H), am_met l b0 b cI cB dC dI d a as h w h1 ∧ am_cont p l e R s m args below meth c Q b0 b cI cB dC dI nL n0 z0 (pc + 3, L, w.toList ++ r, h1) := hk
    obtain ⟨v1, h1, ⟨hup, M, hM, hMet⟩, hkc⟩ := hk
    obtain ⟨xs, x1, x2, rfl⟩ := am_pop_eq _ _ _ _ _ hpop
    rw [List.append_nil] at x2
    subst x2
    have hh := am_hd_at hM
    unfold am_call at hcal
    rw [hh] at hcal
    simp only [am_hd, Bool.and_eq_true] at hcal
    obtain ⟨⟨g1, g2⟩, g3⟩ := hcal
    have g1 := am_beq g1
    have g2 := am_beq g2
    obtain ⟨⟨k1, k2, k3, k4, k5, k6⟩, k7, k8, k9, k10, k11, k12, k13⟩ := am_callB (mc := h1.length - h.length) (ms := am_szs h1 - am_szs h) hts hR hM g1
    have g3 := am_hts hts (of_decide_eq_true g3) rfl
    have k11 := k11 g2
    refine am_W_size hb0 hcells hP hS (fun hZ => ?_)
    exact am_callw (r := r) (va_runSN (host := "HoarseHill") (As := as.map (am_cv b0 b)) (rest := r.map (am_cv b0 b)) (n := b') ⟨hx, hb, hml, hown, hts⟩ hMet ⟨⟨⟨k1, k2, k3, k4, k5, k6⟩, k7, k8, k9, k10, g3⟩, k11, trivial⟩ ⟨am_blind, fun U hU hW => ⟨rfl, by rw [hU]; exact hZ, by rw [hU]; exact hP, va_K.moved hW.alike hK⟩⟩ rfl (by rw [List.length_map]; exact x1) hL.1 (by simp) (lv_room (by rw [am_cats_eq]; exact Nat.le_of_ble_eq_true hcat)) hd ⟨by have := hkc.1.1; have := hup.1; dsimp only at *; omega, by have := hkc.1.2; have := hup.2; dsimp only at *; omega⟩) hS (fun H1 locs1 hP1 hS1 => hkc.2 H1 locs1 ls _ _ ⟨hP1, hS1, hL⟩ (by have := hup.1; dsimp only; omega) (by have := hup.2; dsimp only; omega))
set_option maxHeartbeats 1000000 in
theorem am_s_sta {E : am_I} (hc : am_ctx p s m args meth c b0 b cI cB dC dI cc own mnm nL n0 scr) (hR : d + 2 ≤ R.frames ∧ 139 + 40 * d ≤ R.locals) (hrep : am_rep b0 b cI cB dC dI s nL H locs ls L h) (hcells : cells + n0 = h.length) (hslots : slots + z0 = am_szs h) (hcap : h.length ≤ R.cells + n0 ∧ am_szs h ≤ R.slots + z0) {i nx tg a b' w : Nat} {v : Int32} {lv : Int64} {sw : List (Int32 × Nat)} (hE : E = (.invokestatic i, nx, tg, a, b', w, v, lv, sw)) (hok : am_ok1 am_mt own mnm cc nL ret pc E = true)
    (hk : am_K (am_step scr E L st h) (am_cont p l e R s m args below meth c Q b0 b cI cB dC dI nL n0 z0) Kr (fun j as f => ∃ (w : Option Value) (h1 : am_H), am_met l b0 b cI cB dC dI d j as h w h1 ∧ am_cont p l e R s m args below meth c Q b0 b cI cB dC dI nL n0 z0 (f.1, f.2.1, w.toList ++ f.2.2.1, h1))) : W p l e R s m args below meth c H locs cells slots Q (F0 m pc ls (st.map (am_cv b0 b))) := by
  subst hE
  obtain ⟨hd0, hok⟩ := am_and hok
  have hd0 := of_decide_eq_true hd0
  obtain ⟨hx, hb, hml, hown, hts, hK, hmn, hb0, hsc⟩ := hc
  obtain ⟨hP, hS, hL⟩ := hrep
  obtain ⟨hl, hok2⟩ := am_and hok
  obtain ⟨e9, hd⟩ := am_dec hd0 hl
  subst e9
  match tg, hok2, hk with
  | 0, hcal, hk => exact am_s_mst ⟨hx, hb, hml, hown, hts, hK, hmn, hb0, hsc⟩ hR ⟨hP, hS, hL⟩ hcells hslots hcap hd hcal hk
  | 1, hcal, hk => exact am_s_mstN ⟨hx, hb, hml, hown, hts, hK, hmn, hb0, hsc⟩ hR ⟨hP, hS, hL⟩ hcells hslots hcap hd hcal hk
  | t + 3, hcal, hk => exact am_s_mst ⟨hx, hb, hml, hown, hts, hK, hmn, hb0, hsc⟩ hR ⟨hP, hS, hL⟩ hcells hslots hcap hd hcal hk
  | 2, hcal, hk =>
    obtain ⟨dp, n, r, rfl, hk⟩ := am_i2_inv hk
    obtain ⟨q1, r, rfl, hk⟩ := am_r1_inv hk
    obtain ⟨sp, r, rfl, hk⟩ := am_i1_inv hk
    obtain ⟨q2, r, rfl, hk⟩ := am_r1_inv hk
    obtain ⟨hcat, hk⟩ := am_bb_inv hk
    have hcat : am_cats r ≤ 8 := Nat.le_of_ble_eq_true hcat
    obtain ⟨m0, f, hq2, hk⟩ := am_ar_inv hk
    obtain ⟨m1, g, hq, hk⟩ := am_ar_inv hk
    have hk : (¬ sp < 0 ∧ ¬ dp < 0 ∧ ¬ n < 0 ∧ sp.toNatClampNeg + n.toNatClampNeg ≤ m0 ∧ dp.toNatClampNeg + n.toNatClampNeg ≤ m1) ∧ am_cont p l e R s m args below meth c Q b0 b cI cB dC dI nL n0 z0 (pc + 3, L, r, h.set q1 (.inl (false, m1, va_cpy f g sp.toNatClampNeg dp.toNatClampNeg n.toNatClampNeg))) := hk
    obtain ⟨⟨j1, j2, j3, j4, j5⟩, hk⟩ := hk
    have hce := am_cats_eq b0 b r
    have hnf : nativeFrameWords "java/lang/System" "arraycopy" 5 ≤ 60 := by decide +kernel
    exact va_copyi (ty := .int) hx hb (hml.trans hL.1.symm) hown (am_hts hts (of_decide_eq_true hcal) rfl) (am_hts hts (i := 396) (by decide +kernel) rfl) (am_hts hts (i := 395) (by decide +kernel) rfl) (am_hts hts (i := 91) (by decide +kernel) rfl) hK hP (am_cw_D h) hS q2 q1 0 0 (am_cw_get hq2) (am_cw_get hq) rfl rfl rfl j1 j2 j3 j4 j5 (fun _ _ => rfl) (by omega) (by omega) hd (fun H1 locs1 hP1 hD1 hS1 => hk.2 H1 locs1 ls cells slots ⟨by rw [am_cw_set, Nat.zero_add]; simpa [am_ce, am_cv] using hP1, hS1, hL⟩ (by simpa using hcells) (hslots.trans (am_szs_setA hq).symm))
end

/-! an instruction of my machine is one of the JVM's -/
def am_rep (b0 b : Nat) (cI cB : ClassId) (dC : Nat → ClassId) (dI : Nat → Nat → Nat) (s : State) (nL : Nat) (H : Heap) (locs : List Loc) (ls : Array Slot) (L : am_L) (h : am_H) : Prop :=
  va_P (dC, dI) vwCl (am_cw b0 b cI cB 0 h) H ∧ va_S (fun q => b0 ≤ q) s.heap H locs ∧ am_lh b0 b ls nL L
/-- what a frame stands on -/
def am_ctx (p : Program) (s : State) (m : MethodId) (args : Array Value) (meth : Method) (c : Code) (b0 b : Nat) (cI cB : ClassId) (dC : Nat → ClassId) (dI : Nat → Nat → Nat) (cc : ByteArray) (own mnm : String) (nL n0 : Nat) (scr : Option (Nat × (Nat → Int32))) : Prop :=
  p.tables.exec = Jvm.exec ∧ c.code = cc ∧ c.maxLocals = nL ∧ s.vm.findClass own = some m.cls ∧ (∀ w ∈ am_ws, w.before args s = true) ∧ va_K (dC, dI) vwCl [(cI, .int), (cB, .boolean)] s ∧ (mnm = "<init>" → meth.name = mnm) ∧ s.heap.size = b0 + n0 ∧ ∀ (n : Nat) (xs : Nat → Int32), scr = some (n, xs) → va_X b n xs s s.heap ∧ b < b0
def am_cont (p : Program) (l : Launch) (e : Env) (R : Room) (s : State) (m : MethodId) (args : Array Value) (below : List Frame) (meth : Method) (c : Code) (Q : State → Prop) (b0 b : Nat) (cI cB : ClassId) (dC : Nat → ClassId) (dI : Nat → Nat → Nat) (nL n0 z0 : Nat) (f : am_F) : Prop :=
  (f.2.2.2.length ≤ R.cells + n0 ∧ am_szs f.2.2.2 ≤ R.slots + z0) ∧ ∀ (H : Heap) (locs : List Loc) (ls : Array Slot) (cells slots : Nat), am_rep b0 b cI cB dC dI s nL H locs ls f.2.1 f.2.2.2 → cells + n0 = f.2.2.2.length → slots + z0 = am_szs f.2.2.2 → W p l e R s m args below meth c H locs cells slots Q (F0 m f.1 ls (f.2.2.1.map (am_cv b0 b)))
theorem am_len_eq {pc n nx : Nat} (h : am_len pc n nx = true) : nx = pc + n := Nat.eq_of_beq_eq_true h
theorem am_dec {cc : ByteArray} {pc n nx : Nat} {i : Instr} (h : decode cc pc = .ok (i, nx - pc)) (hl : am_len pc n nx = true) : nx = pc + n ∧ decode cc pc = .ok (i, n) := by
  have e := am_len_eq hl
  subst e
  rw [Nat.add_sub_cancel_left] at h
  exact ⟨rfl, h⟩
theorem am_and {x y : Bool} (h : (x && y) = true) : x = true ∧ y = true := by simpa using h
theorem am_beq {a b : Nat} (h : Nat.beq a b = true) : a = b := Nat.eq_of_beq_eq_true h
/-- a class of the list: its fields' types, its words -/
theorem am_cls : ∀ (ci : Nat) (q : vw_C), vwCl[ci]? = some q → (∀ k, k < q.2.2 → parseFieldDescriptor (q.2.1 k).2.2.1 = some (am_ty ci k)) ∧ (∀ a, a < q.2.2 → ∀ b, b < q.2.2 → a ≠ b → (q.2.1 a).2.1 ≠ (q.2.1 b).2.1) ∧ (∀ w ∈ u_ws q.1 q.2.1 q.2.2, w ∈ am_ws) ∧ Jvm.Cond.instantiable q.1 q.2.2 ∈ am_ws ∧ Jvm.Cond.initialized q.1 ∈ am_ws ∧ (∀ j, j < q.2.2 → defaultValue (am_ty ci j) = vp_V (am_blank ci) j) ∧ (am_blank ci).length = q.2.2
  | 0, _, h => by
    cases h
    exact ⟨tyX0_ok, nmX0, by decide +kernel, by decide +kernel, by decide +kernel, by decide +kernel, by decide +kernel⟩
  | 1, _, h => by
    cases h
    exact ⟨tyX1_ok, nmX1, by decide +kernel, by decide +kernel, by decide +kernel, by decide +kernel, by decide +kernel⟩
  | 2, _, h => by
    cases h
    exact ⟨tyX2_ok, nmX2, by decide +kernel, by decide +kernel, by decide +kernel, by decide +kernel, by decide +kernel⟩
  | 3, _, h => by
    cases h
    exact ⟨tyX3_ok, nmX3, by decide +kernel, by decide +kernel, by decide +kernel, by decide +kernel, by decide +kernel⟩
  | 4, _, h => by
    cases h
    exact ⟨tyX4_ok, nmX4, by decide +kernel, by decide +kernel, by decide +kernel, by decide +kernel, by decide +kernel⟩
  | 5, _, h => by
    cases h
    exact ⟨tyX5_ok, nmX5, by decide +kernel, by decide +kernel, by decide +kernel, by decide +kernel, by decide +kernel⟩
  | 6, _, h => by
    cases h
    exact ⟨tyX6_ok, nmX6, by decide +kernel, by decide +kernel, by decide +kernel, by decide +kernel, by decide +kernel⟩
  | 7, _, h => by
    cases h
    exact ⟨tyX7_ok, nmX7, by decide +kernel, by decide +kernel, by decide +kernel, by decide +kernel, by decide +kernel⟩
  | 8, _, h => by
    cases h
    exact ⟨tyX8_ok, nmX8, by decide +kernel, by decide +kernel, by decide +kernel, by decide +kernel, by decide +kernel⟩
  | 9, _, h => by
    cases h
    exact ⟨tyX9_ok, nmX9, by decide +kernel, by decide +kernel, by decide +kernel, by decide +kernel, by decide +kernel⟩
  | n + 10, q, h => by simp [vwCl] at h
theorem am_szs_setF {h : am_H} {q ci ci' b : Nat} {fs : List Value} {v : Value} (hq : h[q]? = some (.inr (ci, fs))) : am_szs (h.set q (.inr (ci', fs.set b v))) = am_szs h := am_szs_set (by simp [am_sz]) h q hq
theorem am_szs_setA {h : am_H} {q n : Nat} {z z' : Bool} {g g' : Nat → Int32} (hq : h[q]? = some (.inl (z, n, g))) : am_szs (h.set q (.inl (z', n, g'))) = am_szs h := am_szs_set (e := .inl (z', n, g')) (e0 := .inl (z, n, g)) rfl h q hq
theorem am_il_inv {K : am_F → Prop} {Kr : Prop → Option Value → Prop} {Kc : Nat → List Value → am_F → Prop} {scr : Option (Nat × (Nat → Int32))} {i : Int32} {v : Value} {nx : Nat} {L : am_L} {r : List Value} {h : am_H} (hk : am_K (am_il scr i v nx L r h) K Kr Kc) : (∃ (q n : Nat) (g : Nat → Int32), v = .ref q ∧ h[q]? = some (.inl (false, n, g)) ∧ vp_in i n ∧ K (nx, L, .int (g i.toNatClampNeg) :: r, h)) ∨ ∃ (x n : Nat) (g : Nat → Int32), v = .retAddr x ∧ scr = some (n, g) ∧ vp_in i n ∧ K (nx, L, .int (g i.toNatClampNeg) :: r, h) := by
  unfold am_il at hk
  split at hk
  · obtain ⟨n, g, hq, h1, h2⟩ := am_ar_inv hk
    exact Or.inl ⟨_, n, g, rfl, hq, h1, h2⟩
  · obtain ⟨x, n, g, e1, e2, h1, h2⟩ := am_sc_inv hk
    exact Or.inr ⟨x, n, g, e1, e2, h1, h2⟩
theorem am_hts {args : Array Value} {s : State} (hts : ∀ w ∈ am_ws, w.before args s = true) {i : Nat} {w : Jvm.Cond} (h : lw_tbl[i]? = some w) (hk : am_kw w = true) : w.before args s = true := hts w (am_in h hk)
theorem am_sws_pick {pc : Nat} {x : Int32} {d : Nat} : ∀ (os : List Int) (sw : List (Int32 × Nat)) (lo : Int), am_sws pc lo os sw = true →
    ((lo ≤ x.toInt ∧ x.toInt < lo + os.length) → ∃ off, os[(x.toInt - lo).toNat]? = some off ∧ (pc : Int) + off = (am_pick x sw d : Int)) ∧ (¬ (lo ≤ x.toInt ∧ x.toInt < lo + os.length) → am_pick x sw d = d)
  | [], [], lo, _ => ⟨fun h => by simp at h; omega, fun _ => rfl⟩
  | [], _ :: _, lo, h => by simp [am_sws] at h
  | _ :: _, [], lo, h => by simp [am_sws] at h
  | o :: os, (k, t) :: r, lo, h => by
    simp only [am_sws, Bool.and_eq_true, decide_eq_true_eq] at h
    obtain ⟨⟨h1, h2⟩, h3⟩ := h
    obtain ⟨i1, i2⟩ := am_sws_pick (pc := pc) (x := x) (d := d) os r (lo + 1) h3
    by_cases hx : x = k
    · subst hx
      refine ⟨fun _ => ⟨o, ?_, ?_⟩, fun hn => ?_⟩
      · rw [h1]; simp
      · simp only [am_pick, if_true]; exact h2
      · exfalso; apply hn; rw [h1]; simp; omega
    · have hne : x.toInt ≠ lo := fun z => hx (Int32.toInt_inj.mp (z.trans h1.symm))
      simp only [am_pick, if_neg hx, List.length_cons]
      refine ⟨fun hb => ?_, fun hn => i2 (fun hb => hn ?_)⟩
      · obtain ⟨off, e1, e2⟩ := i1 (by push_cast at hb ⊢; omega)
        refine ⟨off, ?_, e2⟩
        rw [show (x.toInt - lo).toNat = (x.toInt - (lo + 1)).toNat + 1 by omega, List.getElem?_cons_succ]
        exact e1
      · push_cast at hb ⊢; omega
theorem am_swl_pick {pc : Nat} {x : Int32} {d : Nat} {dd : Int} (hd : (pc : Int) + dd = (d : Int)) : ∀ (ps : List (Int × Int)) (sw : List (Int32 × Nat)), am_swl pc ps sw = true → (pc : Int) + Op.lookupswitch.offset ps dd x.toInt = (am_pick x sw d : Int)
  | [], [], _ => by simpa [Op.lookupswitch.offset, am_pick] using hd
  | [], _ :: _, h => by simp [am_swl] at h
  | _ :: _, [], h => by simp [am_swl] at h
  | (n, o) :: ps, (k, t) :: r, h => by
    simp only [am_swl, Bool.and_eq_true, decide_eq_true_eq] at h
    obtain ⟨⟨h1, h2⟩, h3⟩ := h
    have ih := am_swl_pick (x := x) hd ps r h3
    by_cases hx : x = k
    · subst hx
      simp only [am_pick, if_true]
      rw [← h2]
      simp [Op.lookupswitch.offset, h1]
    · have hne : ¬ n = x.toInt := fun z => hx (Int32.toInt_inj.mp (z.symm.trans h1.symm))
      simp only [am_pick, if_neg hx]
      rw [← ih]
      simp [Op.lookupswitch.offset, hne]
section
variable {p : Program} {l : Launch} {e : Env} {R : Room} {s : State} {m : MethodId} {args : Array Value} {below : List Frame} {meth : Method} {c : Code} {Q : State → Prop}
variable {b0 b : Nat} {cI cB : ClassId} {dC : Nat → ClassId} {dI : Nat → Nat → Nat} {cc : ByteArray} {own mnm : String} {nL n0 z0 : Nat} {ret : Option FieldType} {scr : Option (Nat × (Nat → Int32))} {mt : Nat → Option (MethodName × Nat × Nat)}
variable {H : Heap} {locs : List Loc} {ls : Array Slot} {cells slots pc : Nat} {L : am_L} {st : List Value} {h : am_H} {Kr : Prop → Option Value → Prop} {Kc : Nat → List Value → am_F → Prop}
theorem am_blank_map (a j : Nat) : vp_V (am_blank a) j = vp_V ((am_blank a).map (am_cv b0 b)) j := by
  have : (am_blank a).map (am_cv b0 b) = am_blank a := by
    unfold am_blank
    split <;> rfl
  rw [this]
theorem am_W_size (hz0 : s.heap.size = b0 + n0) (hcells : cells + n0 = h.length) (hP : va_P (dC, dI) vwCl (am_cw b0 b cI cB 0 h) H) (hS : va_S (fun q => b0 ≤ q) s.heap H locs) {g : JFrame} (k : H.size = b0 + h.length → W p l e R s m args below meth c H locs cells slots Q g) : W p l e R s m args below meth c H locs cells slots Q g := by
  intro T hT X
  refine k ?_ T hT X
  have h1 := X.heapSize
  rw [hT] at h1
  have h2 := hS.1
  cases hn : h.length with
  | zero => omega
  | succ n =>
    have hlt : n < h.length := by omega
    have h3 := (hP n _ (am_cw_get (List.getElem?_eq_getElem hlt))).lt
    dsimp only at h3
    omega
set_option maxHeartbeats 1000000 in
theorem am_s_iconst {E : am_I} (hc : am_ctx p s m args meth c b0 b cI cB dC dI cc own mnm nL n0 scr) (hroom : 1 ≤ R.frames ∧ 100 ≤ R.locals) (hrep : am_rep b0 b cI cB dC dI s nL H locs ls L h) (hcells : cells + n0 = h.length) (hslots : slots + z0 = am_szs h) {n : Int} {nx tg a b' w : Nat} {v : Int32} {lv : Int64} {sw : List (Int32 × Nat)} (hE : E = (.iconst n, nx, tg, a, b', w, v, lv, sw)) (hok : am_ok1 mt own mnm cc nL ret pc E = true)
    (hk : am_K (am_step scr E L st h) (am_cont p l e R s m args below meth c Q b0 b cI cB dC dI nL n0 z0) Kr Kc) : W p l e R s m args below meth c H locs cells slots Q (F0 m pc ls (st.map (am_cv b0 b))) := by
  subst hE
  obtain ⟨hd0, hok⟩ := am_and hok
  have hd0 := of_decide_eq_true hd0
  obtain ⟨hx, hb, hml, hown, hts, hK, hmn, hb0, hsc⟩ := hc
  obtain ⟨hP, hS, hL⟩ := hrep
  obtain ⟨hl, hv⟩ := am_and hok
  obtain ⟨e9, hd⟩ := am_dec hd0 hl
  subst e9
  have hk : am_cont p l e R s m args below meth c Q b0 b cI cB dC dI nL n0 z0 (_, L, .int v :: st, h) := hk
  exact lv_iconst hx hb hd (of_decide_eq_true hv) (hk.2 H locs ls cells slots ⟨hP, hS, hL⟩ hcells hslots)
set_option maxHeartbeats 1000000 in
theorem am_s_bipush {E : am_I} (hc : am_ctx p s m args meth c b0 b cI cB dC dI cc own mnm nL n0 scr) (hroom : 1 ≤ R.frames ∧ 100 ≤ R.locals) (hrep : am_rep b0 b cI cB dC dI s nL H locs ls L h) (hcells : cells + n0 = h.length) (hslots : slots + z0 = am_szs h) {n : Int} {nx tg a b' w : Nat} {v : Int32} {lv : Int64} {sw : List (Int32 × Nat)} (hE : E = (.bipush n, nx, tg, a, b', w, v, lv, sw)) (hok : am_ok1 mt own mnm cc nL ret pc E = true)
    (hk : am_K (am_step scr E L st h) (am_cont p l e R s m args below meth c Q b0 b cI cB dC dI nL n0 z0) Kr Kc) : W p l e R s m args below meth c H locs cells slots Q (F0 m pc ls (st.map (am_cv b0 b))) := by
  subst hE
  obtain ⟨hd0, hok⟩ := am_and hok
  have hd0 := of_decide_eq_true hd0
  obtain ⟨hx, hb, hml, hown, hts, hK, hmn, hb0, hsc⟩ := hc
  obtain ⟨hP, hS, hL⟩ := hrep
  obtain ⟨hl, hv⟩ := am_and hok
  obtain ⟨e9, hd⟩ := am_dec hd0 hl
  subst e9
  have hk : am_cont p l e R s m args below meth c Q b0 b cI cB dC dI nL n0 z0 (_, L, .int v :: st, h) := hk
  exact lv_bipush hx hb hd (of_decide_eq_true hv) (hk.2 H locs ls cells slots ⟨hP, hS, hL⟩ hcells hslots)
set_option maxHeartbeats 1000000 in
theorem am_s_sipush {E : am_I} (hc : am_ctx p s m args meth c b0 b cI cB dC dI cc own mnm nL n0 scr) (hroom : 1 ≤ R.frames ∧ 100 ≤ R.locals) (hrep : am_rep b0 b cI cB dC dI s nL H locs ls L h) (hcells : cells + n0 = h.length) (hslots : slots + z0 = am_szs h) {n : Int} {nx tg a b' w : Nat} {v : Int32} {lv : Int64} {sw : List (Int32 × Nat)} (hE : E = (.sipush n, nx, tg, a, b', w, v, lv, sw)) (hok : am_ok1 mt own mnm cc nL ret pc E = true)
    (hk : am_K (am_step scr E L st h) (am_cont p l e R s m args below meth c Q b0 b cI cB dC dI nL n0 z0) Kr Kc) : W p l e R s m args below meth c H locs cells slots Q (F0 m pc ls (st.map (am_cv b0 b))) := by
  subst hE
  obtain ⟨hd0, hok⟩ := am_and hok
  have hd0 := of_decide_eq_true hd0
  obtain ⟨hx, hb, hml, hown, hts, hK, hmn, hb0, hsc⟩ := hc
  obtain ⟨hP, hS, hL⟩ := hrep
  obtain ⟨hl, hv⟩ := am_and hok
  obtain ⟨e9, hd⟩ := am_dec hd0 hl
  subst e9
  have hk : am_cont p l e R s m args below meth c Q b0 b cI cB dC dI nL n0 z0 (_, L, .int v :: st, h) := hk
  exact lv_sipush hx hb hd (of_decide_eq_true hv) (hk.2 H locs ls cells slots ⟨hP, hS, hL⟩ hcells hslots)
set_option maxHeartbeats 1000000 in
theorem am_s_lconst {E : am_I} (hc : am_ctx p s m args meth c b0 b cI cB dC dI cc own mnm nL n0 scr) (hroom : 1 ≤ R.frames ∧ 100 ≤ R.locals) (hrep : am_rep b0 b cI cB dC dI s nL H locs ls L h) (hcells : cells + n0 = h.length) (hslots : slots + z0 = am_szs h) {n : Fin 2} {nx tg a b' w : Nat} {v : Int32} {lv : Int64} {sw : List (Int32 × Nat)} (hE : E = (.lconst n, nx, tg, a, b', w, v, lv, sw)) (hok : am_ok1 mt own mnm cc nL ret pc E = true)
    (hk : am_K (am_step scr E L st h) (am_cont p l e R s m args below meth c Q b0 b cI cB dC dI nL n0 z0) Kr Kc) : W p l e R s m args below meth c H locs cells slots Q (F0 m pc ls (st.map (am_cv b0 b))) := by
  subst hE
  obtain ⟨hd0, hok⟩ := am_and hok
  have hd0 := of_decide_eq_true hd0
  obtain ⟨hx, hb, hml, hown, hts, hK, hmn, hb0, hsc⟩ := hc
  obtain ⟨hP, hS, hL⟩ := hrep
  obtain ⟨hl, hv⟩ := am_and hok
  obtain ⟨e9, hd⟩ := am_dec hd0 hl
  subst e9
  have hk : am_cont p l e R s m args below meth c Q b0 b cI cB dC dI nL n0 z0 (_, L, .long lv :: st, h) := hk
  exact lv_lconst hx hb hd (of_decide_eq_true hv) (hk.2 H locs ls cells slots ⟨hP, hS, hL⟩ hcells hslots)
set_option maxHeartbeats 1000000 in
theorem am_s_ldc {E : am_I} (hc : am_ctx p s m args meth c b0 b cI cB dC dI cc own mnm nL n0 scr) (hroom : 1 ≤ R.frames ∧ 100 ≤ R.locals) (hrep : am_rep b0 b cI cB dC dI s nL H locs ls L h) (hcells : cells + n0 = h.length) (hslots : slots + z0 = am_szs h) {n : Nat} {nx tg a b' w : Nat} {v : Int32} {lv : Int64} {sw : List (Int32 × Nat)} (hE : E = (.ldc n, nx, tg, a, b', w, v, lv, sw)) (hok : am_ok1 mt own mnm cc nL ret pc E = true)
    (hk : am_K (am_step scr E L st h) (am_cont p l e R s m args below meth c Q b0 b cI cB dC dI nL n0 z0) Kr Kc) : W p l e R s m args below meth c H locs cells slots Q (F0 m pc ls (st.map (am_cv b0 b))) := by
  subst hE
  obtain ⟨hd0, hok⟩ := am_and hok
  have hd0 := of_decide_eq_true hd0
  obtain ⟨hx, hb, hml, hown, hts, hK, hmn, hb0, hsc⟩ := hc
  obtain ⟨hP, hS, hL⟩ := hrep
  obtain ⟨hl, hv⟩ := am_and hok
  obtain ⟨e9, hd⟩ := am_dec hd0 hl
  subst e9
  have hk : am_cont p l e R s m args below meth c Q b0 b cI cB dC dI nL n0 z0 (_, L, .int v :: st, h) := hk
  exact lv_ldc hx hb hown (am_hts hts (of_decide_eq_true hv) rfl) hd (hk.2 H locs ls cells slots ⟨hP, hS, hL⟩ hcells hslots)
set_option maxHeartbeats 1000000 in
theorem am_s_ldc_w {E : am_I} (hc : am_ctx p s m args meth c b0 b cI cB dC dI cc own mnm nL n0 scr) (hroom : 1 ≤ R.frames ∧ 100 ≤ R.locals) (hrep : am_rep b0 b cI cB dC dI s nL H locs ls L h) (hcells : cells + n0 = h.length) (hslots : slots + z0 = am_szs h) {n : Nat} {nx tg a b' w : Nat} {v : Int32} {lv : Int64} {sw : List (Int32 × Nat)} (hE : E = (.ldc_w n, nx, tg, a, b', w, v, lv, sw)) (hok : am_ok1 mt own mnm cc nL ret pc E = true)
    (hk : am_K (am_step scr E L st h) (am_cont p l e R s m args below meth c Q b0 b cI cB dC dI nL n0 z0) Kr Kc) : W p l e R s m args below meth c H locs cells slots Q (F0 m pc ls (st.map (am_cv b0 b))) := by
  subst hE
  obtain ⟨hd0, hok⟩ := am_and hok
  have hd0 := of_decide_eq_true hd0
  obtain ⟨hx, hb, hml, hown, hts, hK, hmn, hb0, hsc⟩ := hc
  obtain ⟨hP, hS, hL⟩ := hrep
  obtain ⟨hl, hv⟩ := am_and hok
  obtain ⟨e9, hd⟩ := am_dec hd0 hl
  subst e9
  have hk : am_cont p l e R s m args below meth c Q b0 b cI cB dC dI nL n0 z0 (_, L, .int v :: st, h) := hk
  exact lv_ldcw hx hb hown (am_hts hts (of_decide_eq_true hv) rfl) hd (hk.2 H locs ls cells slots ⟨hP, hS, hL⟩ hcells hslots)
set_option maxHeartbeats 1000000 in
theorem am_s_ldc2_w {E : am_I} (hc : am_ctx p s m args meth c b0 b cI cB dC dI cc own mnm nL n0 scr) (hroom : 1 ≤ R.frames ∧ 100 ≤ R.locals) (hrep : am_rep b0 b cI cB dC dI s nL H locs ls L h) (hcells : cells + n0 = h.length) (hslots : slots + z0 = am_szs h) {n : Nat} {nx tg a b' w : Nat} {v : Int32} {lv : Int64} {sw : List (Int32 × Nat)} (hE : E = (.ldc2_w n, nx, tg, a, b', w, v, lv, sw)) (hok : am_ok1 mt own mnm cc nL ret pc E = true)
    (hk : am_K (am_step scr E L st h) (am_cont p l e R s m args below meth c Q b0 b cI cB dC dI nL n0 z0) Kr Kc) : W p l e R s m args below meth c H locs cells slots Q (F0 m pc ls (st.map (am_cv b0 b))) := by
  subst hE
  obtain ⟨hd0, hok⟩ := am_and hok
  have hd0 := of_decide_eq_true hd0
  obtain ⟨hx, hb, hml, hown, hts, hK, hmn, hb0, hsc⟩ := hc
  obtain ⟨hP, hS, hL⟩ := hrep
  obtain ⟨hl, hv⟩ := am_and hok
  obtain ⟨e9, hd⟩ := am_dec hd0 hl
  subst e9
  have hk : am_cont p l e R s m args below meth c Q b0 b cI cB dC dI nL n0 z0 (_, L, .long lv :: st, h) := hk
  exact lv_ldc2 hx hb hown (am_hts hts (of_decide_eq_true hv) rfl) hd (hk.2 H locs ls cells slots ⟨hP, hS, hL⟩ hcells hslots)
set_option maxHeartbeats 1000000 in
theorem am_s_iload {E : am_I} (hc : am_ctx p s m args meth c b0 b cI cB dC dI cc own mnm nL n0 scr) (hroom : 1 ≤ R.frames ∧ 100 ≤ R.locals) (hrep : am_rep b0 b cI cB dC dI s nL H locs ls L h) (hcells : cells + n0 = h.length) (hslots : slots + z0 = am_szs h) {i : Nat} {nx tg a b' w : Nat} {v : Int32} {lv : Int64} {sw : List (Int32 × Nat)} (hE : E = (.iload i, nx, tg, a, b', w, v, lv, sw)) (hok : am_ok1 mt own mnm cc nL ret pc E = true)
    (hk : am_K (am_step scr E L st h) (am_cont p l e R s m args below meth c Q b0 b cI cB dC dI nL n0 z0) Kr Kc) : W p l e R s m args below meth c H locs cells slots Q (F0 m pc ls (st.map (am_cv b0 b))) := by
  subst hE
  obtain ⟨hd0, hok⟩ := am_and hok
  have hd0 := of_decide_eq_true hd0
  obtain ⟨hx, hb, hml, hown, hts, hK, hmn, hb0, hsc⟩ := hc
  obtain ⟨hP, hS, hL⟩ := hrep
  obtain ⟨hl, hv⟩ := am_and hok
  obtain ⟨e9, hd⟩ := am_dec hd0 hl
  subst e9
  cases am_beq hv
  obtain ⟨x, h1, hk⟩ := am_lo_inv hk
  obtain ⟨x, rfl, hk⟩ := am_vi_inv hk
  have hk : am_cont p l e R s m args below meth c Q b0 b cI cB dC dI nL n0 z0 (_, L, .int x :: st, h) := hk
  exact lv_iload hx hb hd (hL.2.2.2 _ _ h1) (hk.2 H locs ls cells slots ⟨hP, hS, hL⟩ hcells hslots)
set_option maxHeartbeats 1000000 in
theorem am_s_iload_n {E : am_I} (hc : am_ctx p s m args meth c b0 b cI cB dC dI cc own mnm nL n0 scr) (hroom : 1 ≤ R.frames ∧ 100 ≤ R.locals) (hrep : am_rep b0 b cI cB dC dI s nL H locs ls L h) (hcells : cells + n0 = h.length) (hslots : slots + z0 = am_szs h) {i : Fin 4} {nx tg a b' w : Nat} {v : Int32} {lv : Int64} {sw : List (Int32 × Nat)} (hE : E = (.iload_n i, nx, tg, a, b', w, v, lv, sw)) (hok : am_ok1 mt own mnm cc nL ret pc E = true)
    (hk : am_K (am_step scr E L st h) (am_cont p l e R s m args below meth c Q b0 b cI cB dC dI nL n0 z0) Kr Kc) : W p l e R s m args below meth c H locs cells slots Q (F0 m pc ls (st.map (am_cv b0 b))) := by
  subst hE
  obtain ⟨hd0, hok⟩ := am_and hok
  have hd0 := of_decide_eq_true hd0
  obtain ⟨hx, hb, hml, hown, hts, hK, hmn, hb0, hsc⟩ := hc
  obtain ⟨hP, hS, hL⟩ := hrep
  obtain ⟨hl, hv⟩ := am_and hok
  obtain ⟨e9, hd⟩ := am_dec hd0 hl
  subst e9
  obtain ⟨x, h1, hk⟩ := am_lo_inv hk
  obtain ⟨x, rfl, hk⟩ := am_vi_inv hk
  have hk : am_cont p l e R s m args below meth c Q b0 b cI cB dC dI nL n0 z0 (_, L, .int x :: st, h) := hk
  exact lv_iload_n hx hb hd (am_beq hv) (hL.2.2.2 _ _ h1) (hk.2 H locs ls cells slots ⟨hP, hS, hL⟩ hcells hslots)
set_option maxHeartbeats 1000000 in
theorem am_s_lload {E : am_I} (hc : am_ctx p s m args meth c b0 b cI cB dC dI cc own mnm nL n0 scr) (hroom : 1 ≤ R.frames ∧ 100 ≤ R.locals) (hrep : am_rep b0 b cI cB dC dI s nL H locs ls L h) (hcells : cells + n0 = h.length) (hslots : slots + z0 = am_szs h) {i : Nat} {nx tg a b' w : Nat} {v : Int32} {lv : Int64} {sw : List (Int32 × Nat)} (hE : E = (.lload i, nx, tg, a, b', w, v, lv, sw)) (hok : am_ok1 mt own mnm cc nL ret pc E = true)
    (hk : am_K (am_step scr E L st h) (am_cont p l e R s m args below meth c Q b0 b cI cB dC dI nL n0 z0) Kr Kc) : W p l e R s m args below meth c H locs cells slots Q (F0 m pc ls (st.map (am_cv b0 b))) := by
  subst hE
  obtain ⟨hd0, hok⟩ := am_and hok
  have hd0 := of_decide_eq_true hd0
  obtain ⟨hx, hb, hml, hown, hts, hK, hmn, hb0, hsc⟩ := hc
  obtain ⟨hP, hS, hL⟩ := hrep
  obtain ⟨hl, hv⟩ := am_and hok
  obtain ⟨e9, hd⟩ := am_dec hd0 hl
  subst e9
  cases am_beq hv
  obtain ⟨x, h1, hk⟩ := am_lo_inv hk
  obtain ⟨x, rfl, hk⟩ := am_vj_inv hk
  have hk : am_cont p l e R s m args below meth c Q b0 b cI cB dC dI nL n0 z0 (_, L, .long x :: st, h) := hk
  exact lv_lload hx hb hd (hL.2.2.2 _ _ h1) (hk.2 H locs ls cells slots ⟨hP, hS, hL⟩ hcells hslots)
set_option maxHeartbeats 1000000 in
theorem am_s_lload_n {E : am_I} (hc : am_ctx p s m args meth c b0 b cI cB dC dI cc own mnm nL n0 scr) (hroom : 1 ≤ R.frames ∧ 100 ≤ R.locals) (hrep : am_rep b0 b cI cB dC dI s nL H locs ls L h) (hcells : cells + n0 = h.length) (hslots : slots + z0 = am_szs h) {i : Fin 4} {nx tg a b' w : Nat} {v : Int32} {lv : Int64} {sw : List (Int32 × Nat)} (hE : E = (.lload_n i, nx, tg, a, b', w, v, lv, sw)) (hok : am_ok1 mt own mnm cc nL ret pc E = true)
    (hk : am_K (am_step scr E L st h) (am_cont p l e R s m args below meth c Q b0 b cI cB dC dI nL n0 z0) Kr Kc) : W p l e R s m args below meth c H locs cells slots Q (F0 m pc ls (st.map (am_cv b0 b))) := by
  subst hE
  obtain ⟨hd0, hok⟩ := am_and hok
  have hd0 := of_decide_eq_true hd0
  obtain ⟨hx, hb, hml, hown, hts, hK, hmn, hb0, hsc⟩ := hc
  obtain ⟨hP, hS, hL⟩ := hrep
  obtain ⟨hl, hv⟩ := am_and hok
  obtain ⟨e9, hd⟩ := am_dec hd0 hl
  subst e9
  obtain ⟨x, h1, hk⟩ := am_lo_inv hk
  obtain ⟨x, rfl, hk⟩ := am_vj_inv hk
  have hk : am_cont p l e R s m args below meth c Q b0 b cI cB dC dI nL n0 z0 (_, L, .long x :: st, h) := hk
  exact lv_lload_n hx hb hd (am_beq hv) (hL.2.2.2 _ _ h1) (hk.2 H locs ls cells slots ⟨hP, hS, hL⟩ hcells hslots)
set_option maxHeartbeats 1000000 in
theorem am_s_aload {E : am_I} (hc : am_ctx p s m args meth c b0 b cI cB dC dI cc own mnm nL n0 scr) (hroom : 1 ≤ R.frames ∧ 100 ≤ R.locals) (hrep : am_rep b0 b cI cB dC dI s nL H locs ls L h) (hcells : cells + n0 = h.length) (hslots : slots + z0 = am_szs h) {i : Nat} {nx tg a b' w : Nat} {v : Int32} {lv : Int64} {sw : List (Int32 × Nat)} (hE : E = (.aload i, nx, tg, a, b', w, v, lv, sw)) (hok : am_ok1 mt own mnm cc nL ret pc E = true)
    (hk : am_K (am_step scr E L st h) (am_cont p l e R s m args below meth c Q b0 b cI cB dC dI nL n0 z0) Kr Kc) : W p l e R s m args below meth c H locs cells slots Q (F0 m pc ls (st.map (am_cv b0 b))) := by
  subst hE
  obtain ⟨hd0, hok⟩ := am_and hok
  have hd0 := of_decide_eq_true hd0
  obtain ⟨hx, hb, hml, hown, hts, hK, hmn, hb0, hsc⟩ := hc
  obtain ⟨hP, hS, hL⟩ := hrep
  obtain ⟨hl, hv⟩ := am_and hok
  obtain ⟨e9, hd⟩ := am_dec hd0 hl
  subst e9
  cases am_beq hv
  obtain ⟨x, h1, hk⟩ := am_lo_inv hk
  obtain ⟨hr, hk⟩ := am_va_inv hk
  rcases hr with ⟨q, rfl⟩ | ⟨q, rfl⟩
  · have hk : am_cont p l e R s m args below meth c Q b0 b cI cB dC dI nL n0 z0 (_, L, .ref q :: st, h) := hk
    exact lv_aload hx hb hd (hL.2.2.2 _ _ h1) (hk.2 H locs ls cells slots ⟨hP, hS, hL⟩ hcells hslots)
  · have hk : am_cont p l e R s m args below meth c Q b0 b cI cB dC dI nL n0 z0 (_, L, .retAddr q :: st, h) := hk
    exact lv_aload hx hb hd (hL.2.2.2 _ _ h1) (hk.2 H locs ls cells slots ⟨hP, hS, hL⟩ hcells hslots)
set_option maxHeartbeats 1000000 in
theorem am_s_aload_n {E : am_I} (hc : am_ctx p s m args meth c b0 b cI cB dC dI cc own mnm nL n0 scr) (hroom : 1 ≤ R.frames ∧ 100 ≤ R.locals) (hrep : am_rep b0 b cI cB dC dI s nL H locs ls L h) (hcells : cells + n0 = h.length) (hslots : slots + z0 = am_szs h) {i : Fin 4} {nx tg a b' w : Nat} {v : Int32} {lv : Int64} {sw : List (Int32 × Nat)} (hE : E = (.aload_n i, nx, tg, a, b', w, v, lv, sw)) (hok : am_ok1 mt own mnm cc nL ret pc E = true)
    (hk : am_K (am_step scr E L st h) (am_cont p l e R s m args below meth c Q b0 b cI cB dC dI nL n0 z0) Kr Kc) : W p l e R s m args below meth c H locs cells slots Q (F0 m pc ls (st.map (am_cv b0 b))) := by
  subst hE
  obtain ⟨hd0, hok⟩ := am_and hok
  have hd0 := of_decide_eq_true hd0
  obtain ⟨hx, hb, hml, hown, hts, hK, hmn, hb0, hsc⟩ := hc
  obtain ⟨hP, hS, hL⟩ := hrep
  obtain ⟨hl, hv⟩ := am_and hok
  obtain ⟨e9, hd⟩ := am_dec hd0 hl
  subst e9
  skip
  obtain ⟨x, h1, hk⟩ := am_lo_inv hk
  obtain ⟨hr, hk⟩ := am_va_inv hk
  rcases hr with ⟨q, rfl⟩ | ⟨q, rfl⟩
  · have hk : am_cont p l e R s m args below meth c Q b0 b cI cB dC dI nL n0 z0 (_, L, .ref q :: st, h) := hk
    exact lv_aload_n hx hb hd (am_beq hv) (hL.2.2.2 _ _ h1) (hk.2 H locs ls cells slots ⟨hP, hS, hL⟩ hcells hslots)
  · have hk : am_cont p l e R s m args below meth c Q b0 b cI cB dC dI nL n0 z0 (_, L, .retAddr q :: st, h) := hk
    exact lv_aload_n hx hb hd (am_beq hv) (hL.2.2.2 _ _ h1) (hk.2 H locs ls cells slots ⟨hP, hS, hL⟩ hcells hslots)
set_option maxHeartbeats 1000000 in
theorem am_s_istore {E : am_I} (hc : am_ctx p s m args meth c b0 b cI cB dC dI cc own mnm nL n0 scr) (hroom : 1 ≤ R.frames ∧ 100 ≤ R.locals) (hrep : am_rep b0 b cI cB dC dI s nL H locs ls L h) (hcells : cells + n0 = h.length) (hslots : slots + z0 = am_szs h) {i : Nat} {nx tg a b' w : Nat} {v : Int32} {lv : Int64} {sw : List (Int32 × Nat)} (hE : E = (.istore i, nx, tg, a, b', w, v, lv, sw)) (hok : am_ok1 mt own mnm cc nL ret pc E = true)
    (hk : am_K (am_step scr E L st h) (am_cont p l e R s m args below meth c Q b0 b cI cB dC dI nL n0 z0) Kr Kc) : W p l e R s m args below meth c H locs cells slots Q (F0 m pc ls (st.map (am_cv b0 b))) := by
  subst hE
  obtain ⟨hd0, hok⟩ := am_and hok
  have hd0 := of_decide_eq_true hd0
  obtain ⟨hx, hb, hml, hown, hts, hK, hmn, hb0, hsc⟩ := hc
  obtain ⟨hP, hS, hL⟩ := hrep
  obtain ⟨hl, hv⟩ := am_and hok
  obtain ⟨e9, hd⟩ := am_dec hd0 hl
  subst e9
  cases am_beq hv
  obtain ⟨x, r, rfl, hk⟩ := am_i1_inv hk
  obtain ⟨L', hp, hk⟩ := am_put_inv hk
  have hk : am_cont p l e R s m args below meth c Q b0 b cI cB dC dI nL n0 z0 (_, L', r, h) := hk
  exact lv_istore hx hb hd (am_lh_has hL) (by rw [← hL.2.2.1]; exact am_st1_lt hp) rfl (fun ls' hls => hk.2 H locs ls' cells slots ⟨hP, hS, am_lh_st1 hL hp hls⟩ hcells hslots)
set_option maxHeartbeats 1000000 in
theorem am_s_istore_n {E : am_I} (hc : am_ctx p s m args meth c b0 b cI cB dC dI cc own mnm nL n0 scr) (hroom : 1 ≤ R.frames ∧ 100 ≤ R.locals) (hrep : am_rep b0 b cI cB dC dI s nL H locs ls L h) (hcells : cells + n0 = h.length) (hslots : slots + z0 = am_szs h) {i : Fin 4} {nx tg a b' w : Nat} {v : Int32} {lv : Int64} {sw : List (Int32 × Nat)} (hE : E = (.istore_n i, nx, tg, a, b', w, v, lv, sw)) (hok : am_ok1 mt own mnm cc nL ret pc E = true)
    (hk : am_K (am_step scr E L st h) (am_cont p l e R s m args below meth c Q b0 b cI cB dC dI nL n0 z0) Kr Kc) : W p l e R s m args below meth c H locs cells slots Q (F0 m pc ls (st.map (am_cv b0 b))) := by
  subst hE
  obtain ⟨hd0, hok⟩ := am_and hok
  have hd0 := of_decide_eq_true hd0
  obtain ⟨hx, hb, hml, hown, hts, hK, hmn, hb0, hsc⟩ := hc
  obtain ⟨hP, hS, hL⟩ := hrep
  obtain ⟨hl, hv⟩ := am_and hok
  obtain ⟨e9, hd⟩ := am_dec hd0 hl
  subst e9
  obtain ⟨x, r, rfl, hk⟩ := am_i1_inv hk
  obtain ⟨L', hp, hk⟩ := am_put_inv hk
  have hk : am_cont p l e R s m args below meth c Q b0 b cI cB dC dI nL n0 z0 (_, L', r, h) := hk
  exact lv_istore_n hx hb hd (am_beq hv) (am_lh_has hL) (by rw [← hL.2.2.1]; exact am_st1_lt hp) rfl (fun ls' hls => hk.2 H locs ls' cells slots ⟨hP, hS, am_lh_st1 hL hp hls⟩ hcells hslots)
set_option maxHeartbeats 1000000 in
theorem am_s_astore {E : am_I} (hc : am_ctx p s m args meth c b0 b cI cB dC dI cc own mnm nL n0 scr) (hroom : 1 ≤ R.frames ∧ 100 ≤ R.locals) (hrep : am_rep b0 b cI cB dC dI s nL H locs ls L h) (hcells : cells + n0 = h.length) (hslots : slots + z0 = am_szs h) {i : Nat} {nx tg a b' w : Nat} {v : Int32} {lv : Int64} {sw : List (Int32 × Nat)} (hE : E = (.astore i, nx, tg, a, b', w, v, lv, sw)) (hok : am_ok1 mt own mnm cc nL ret pc E = true)
    (hk : am_K (am_step scr E L st h) (am_cont p l e R s m args below meth c Q b0 b cI cB dC dI nL n0 z0) Kr Kc) : W p l e R s m args below meth c H locs cells slots Q (F0 m pc ls (st.map (am_cv b0 b))) := by
  subst hE
  obtain ⟨hd0, hok⟩ := am_and hok
  have hd0 := of_decide_eq_true hd0
  obtain ⟨hx, hb, hml, hown, hts, hK, hmn, hb0, hsc⟩ := hc
  obtain ⟨hP, hS, hL⟩ := hrep
  obtain ⟨hl, hv⟩ := am_and hok
  obtain ⟨e9, hd⟩ := am_dec hd0 hl
  subst e9
  cases am_beq hv
  obtain ⟨x, r, rfl, hk⟩ := am_r1_inv hk
  obtain ⟨L', hp, hk⟩ := am_put_inv hk
  have hk : am_cont p l e R s m args below meth c Q b0 b cI cB dC dI nL n0 z0 (_, L', r, h) := hk
  exact lv_astore hx hb hd (am_lh_has hL) (by rw [← hL.2.2.1]; exact am_st1_lt hp) rfl (fun ls' hls => hk.2 H locs ls' cells slots ⟨hP, hS, am_lh_st1 hL hp hls⟩ hcells hslots)
set_option maxHeartbeats 1000000 in
theorem am_s_astore_n {E : am_I} (hc : am_ctx p s m args meth c b0 b cI cB dC dI cc own mnm nL n0 scr) (hroom : 1 ≤ R.frames ∧ 100 ≤ R.locals) (hrep : am_rep b0 b cI cB dC dI s nL H locs ls L h) (hcells : cells + n0 = h.length) (hslots : slots + z0 = am_szs h) {i : Fin 4} {nx tg a b' w : Nat} {v : Int32} {lv : Int64} {sw : List (Int32 × Nat)} (hE : E = (.astore_n i, nx, tg, a, b', w, v, lv, sw)) (hok : am_ok1 mt own mnm cc nL ret pc E = true)
    (hk : am_K (am_step scr E L st h) (am_cont p l e R s m args below meth c Q b0 b cI cB dC dI nL n0 z0) Kr Kc) : W p l e R s m args below meth c H locs cells slots Q (F0 m pc ls (st.map (am_cv b0 b))) := by
  subst hE
  obtain ⟨hd0, hok⟩ := am_and hok
  have hd0 := of_decide_eq_true hd0
  obtain ⟨hx, hb, hml, hown, hts, hK, hmn, hb0, hsc⟩ := hc
  obtain ⟨hP, hS, hL⟩ := hrep
  obtain ⟨hl, hv⟩ := am_and hok
  obtain ⟨e9, hd⟩ := am_dec hd0 hl
  subst e9
  obtain ⟨x, r, rfl, hk⟩ := am_r1_inv hk
  obtain ⟨L', hp, hk⟩ := am_put_inv hk
  have hk : am_cont p l e R s m args below meth c Q b0 b cI cB dC dI nL n0 z0 (_, L', r, h) := hk
  exact lv_astore_n hx hb hd (am_beq hv) (am_lh_has hL) (by rw [← hL.2.2.1]; exact am_st1_lt hp) rfl (fun ls' hls => hk.2 H locs ls' cells slots ⟨hP, hS, am_lh_st1 hL hp hls⟩ hcells hslots)
set_option maxHeartbeats 1000000 in
theorem am_s_lstore {E : am_I} (hc : am_ctx p s m args meth c b0 b cI cB dC dI cc own mnm nL n0 scr) (hroom : 1 ≤ R.frames ∧ 100 ≤ R.locals) (hrep : am_rep b0 b cI cB dC dI s nL H locs ls L h) (hcells : cells + n0 = h.length) (hslots : slots + z0 = am_szs h) {i : Nat} {nx tg a b' w : Nat} {v : Int32} {lv : Int64} {sw : List (Int32 × Nat)} (hE : E = (.lstore i, nx, tg, a, b', w, v, lv, sw)) (hok : am_ok1 mt own mnm cc nL ret pc E = true)
    (hk : am_K (am_step scr E L st h) (am_cont p l e R s m args below meth c Q b0 b cI cB dC dI nL n0 z0) Kr Kc) : W p l e R s m args below meth c H locs cells slots Q (F0 m pc ls (st.map (am_cv b0 b))) := by
  subst hE
  obtain ⟨hd0, hok⟩ := am_and hok
  have hd0 := of_decide_eq_true hd0
  obtain ⟨hx, hb, hml, hown, hts, hK, hmn, hb0, hsc⟩ := hc
  obtain ⟨hP, hS, hL⟩ := hrep
  obtain ⟨hl, hv⟩ := am_and hok
  obtain ⟨e9, hd⟩ := am_dec hd0 hl
  subst e9
  cases am_beq hv
  obtain ⟨x, r, rfl, hk⟩ := am_j1_inv hk
  obtain ⟨L', hp, hk⟩ := am_put_inv hk
  have hk : am_cont p l e R s m args below meth c Q b0 b cI cB dC dI nL n0 z0 (_, L', r, h) := hk
  exact lv_lstore hx hb hd (am_lh_has hL) (by rw [← hL.2.2.1]; exact am_st2_lt hp) rfl (fun ls' hls => hk.2 H locs ls' cells slots ⟨hP, hS, am_lh_st2 hL hp hls⟩ hcells hslots)
set_option maxHeartbeats 1000000 in
theorem am_s_lstore_n {E : am_I} (hc : am_ctx p s m args meth c b0 b cI cB dC dI cc own mnm nL n0 scr) (hroom : 1 ≤ R.frames ∧ 100 ≤ R.locals) (hrep : am_rep b0 b cI cB dC dI s nL H locs ls L h) (hcells : cells + n0 = h.length) (hslots : slots + z0 = am_szs h) {i : Fin 4} {nx tg a b' w : Nat} {v : Int32} {lv : Int64} {sw : List (Int32 × Nat)} (hE : E = (.lstore_n i, nx, tg, a, b', w, v, lv, sw)) (hok : am_ok1 mt own mnm cc nL ret pc E = true)
    (hk : am_K (am_step scr E L st h) (am_cont p l e R s m args below meth c Q b0 b cI cB dC dI nL n0 z0) Kr Kc) : W p l e R s m args below meth c H locs cells slots Q (F0 m pc ls (st.map (am_cv b0 b))) := by
  subst hE
  obtain ⟨hd0, hok⟩ := am_and hok
  have hd0 := of_decide_eq_true hd0
  obtain ⟨hx, hb, hml, hown, hts, hK, hmn, hb0, hsc⟩ := hc
  obtain ⟨hP, hS, hL⟩ := hrep
  obtain ⟨hl, hv⟩ := am_and hok
  obtain ⟨e9, hd⟩ := am_dec hd0 hl
  subst e9
  obtain ⟨x, r, rfl, hk⟩ := am_j1_inv hk
  obtain ⟨L', hp, hk⟩ := am_put_inv hk
  have hk : am_cont p l e R s m args below meth c Q b0 b cI cB dC dI nL n0 z0 (_, L', r, h) := hk
  exact lv_lstore_n hx hb hd (am_beq hv) (am_lh_has hL) (by rw [← hL.2.2.1]; exact am_st2_lt hp) rfl (fun ls' hls => hk.2 H locs ls' cells slots ⟨hP, hS, am_lh_st2 hL hp hls⟩ hcells hslots)
set_option maxHeartbeats 1000000 in
theorem am_s_iinc {E : am_I} (hc : am_ctx p s m args meth c b0 b cI cB dC dI cc own mnm nL n0 scr) (hroom : 1 ≤ R.frames ∧ 100 ≤ R.locals) (hrep : am_rep b0 b cI cB dC dI s nL H locs ls L h) (hcells : cells + n0 = h.length) (hslots : slots + z0 = am_szs h) {i : Nat} {n : Int} {nx tg a b' w : Nat} {v : Int32} {lv : Int64} {sw : List (Int32 × Nat)} (hE : E = (.iinc i n, nx, tg, a, b', w, v, lv, sw)) (hok : am_ok1 mt own mnm cc nL ret pc E = true)
    (hk : am_K (am_step scr E L st h) (am_cont p l e R s m args below meth c Q b0 b cI cB dC dI nL n0 z0) Kr Kc) : W p l e R s m args below meth c H locs cells slots Q (F0 m pc ls (st.map (am_cv b0 b))) := by
  subst hE
  obtain ⟨hd0, hok⟩ := am_and hok
  have hd0 := of_decide_eq_true hd0
  obtain ⟨hx, hb, hml, hown, hts, hK, hmn, hb0, hsc⟩ := hc
  obtain ⟨hP, hS, hL⟩ := hrep
  obtain ⟨hl, hv⟩ := am_and hok
  obtain ⟨hl, hi⟩ := am_and hl
  obtain ⟨e9, hd⟩ := am_dec hd0 hl
  subst e9
  cases am_beq hi
  have hv := of_decide_eq_true hv
  obtain ⟨x, h1, hk⟩ := am_lo_inv hk
  obtain ⟨x, rfl, hk⟩ := am_vi_inv hk
  obtain ⟨L', hp, hk⟩ := am_put_inv hk
  have hk : am_cont p l e R s m args below meth c Q b0 b cI cB dC dI nL n0 z0 (_, L', st, h) := hk
  have hin := am_ll_of (b0 := b0) (b := b) L 0 _ _ h1
  rw [Nat.zero_add] at hin
  obtain ⟨k, hk1⟩ := List.getElem?_of_mem hin
  exact lv_iinc (v := x + v) hx hb hd (am_lh_has hL) hk1 (by rw [hv]) (by rw [← hL.2.2.1]; exact am_st1_lt hp) rfl (fun ls' hls => hk.2 H locs ls' cells slots ⟨hP, hS, am_lh_st1 hL hp hls⟩ hcells hslots)
set_option maxHeartbeats 1000000 in
theorem am_s_iadd {E : am_I} (hc : am_ctx p s m args meth c b0 b cI cB dC dI cc own mnm nL n0 scr) (hroom : 1 ≤ R.frames ∧ 100 ≤ R.locals) (hrep : am_rep b0 b cI cB dC dI s nL H locs ls L h) (hcells : cells + n0 = h.length) (hslots : slots + z0 = am_szs h)  {nx tg a b' w : Nat} {v : Int32} {lv : Int64} {sw : List (Int32 × Nat)} (hE : E = (.iadd, nx, tg, a, b', w, v, lv, sw)) (hok : am_ok1 mt own mnm cc nL ret pc E = true)
    (hk : am_K (am_step scr E L st h) (am_cont p l e R s m args below meth c Q b0 b cI cB dC dI nL n0 z0) Kr Kc) : W p l e R s m args below meth c H locs cells slots Q (F0 m pc ls (st.map (am_cv b0 b))) := by
  subst hE
  obtain ⟨hd0, hok⟩ := am_and hok
  have hd0 := of_decide_eq_true hd0
  obtain ⟨hx, hb, hml, hown, hts, hK, hmn, hb0, hsc⟩ := hc
  obtain ⟨hP, hS, hL⟩ := hrep
  obtain ⟨e9, hd⟩ := am_dec hd0 hok
  subst e9
  obtain ⟨x, y, r, rfl, hk⟩ := am_i2_inv hk
  have hk : am_cont p l e R s m args below meth c Q b0 b cI cB dC dI nL n0 z0 (_, L, .int (x + y) :: r, h) := hk
  exact lv_iadd hx hb hd (hk.2 H locs ls cells slots ⟨hP, hS, hL⟩ hcells hslots)
set_option maxHeartbeats 1000000 in
theorem am_s_isub {E : am_I} (hc : am_ctx p s m args meth c b0 b cI cB dC dI cc own mnm nL n0 scr) (hroom : 1 ≤ R.frames ∧ 100 ≤ R.locals) (hrep : am_rep b0 b cI cB dC dI s nL H locs ls L h) (hcells : cells + n0 = h.length) (hslots : slots + z0 = am_szs h)  {nx tg a b' w : Nat} {v : Int32} {lv : Int64} {sw : List (Int32 × Nat)} (hE : E = (.isub, nx, tg, a, b', w, v, lv, sw)) (hok : am_ok1 mt own mnm cc nL ret pc E = true)
    (hk : am_K (am_step scr E L st h) (am_cont p l e R s m args below meth c Q b0 b cI cB dC dI nL n0 z0) Kr Kc) : W p l e R s m args below meth c H locs cells slots Q (F0 m pc ls (st.map (am_cv b0 b))) := by
  subst hE
  obtain ⟨hd0, hok⟩ := am_and hok
  have hd0 := of_decide_eq_true hd0
  obtain ⟨hx, hb, hml, hown, hts, hK, hmn, hb0, hsc⟩ := hc
  obtain ⟨hP, hS, hL⟩ := hrep
  obtain ⟨e9, hd⟩ := am_dec hd0 hok
  subst e9
  obtain ⟨x, y, r, rfl, hk⟩ := am_i2_inv hk
  have hk : am_cont p l e R s m args below meth c Q b0 b cI cB dC dI nL n0 z0 (_, L, .int (x - y) :: r, h) := hk
  exact lv_isub hx hb hd (hk.2 H locs ls cells slots ⟨hP, hS, hL⟩ hcells hslots)
set_option maxHeartbeats 1000000 in
theorem am_s_imul {E : am_I} (hc : am_ctx p s m args meth c b0 b cI cB dC dI cc own mnm nL n0 scr) (hroom : 1 ≤ R.frames ∧ 100 ≤ R.locals) (hrep : am_rep b0 b cI cB dC dI s nL H locs ls L h) (hcells : cells + n0 = h.length) (hslots : slots + z0 = am_szs h)  {nx tg a b' w : Nat} {v : Int32} {lv : Int64} {sw : List (Int32 × Nat)} (hE : E = (.imul, nx, tg, a, b', w, v, lv, sw)) (hok : am_ok1 mt own mnm cc nL ret pc E = true)
    (hk : am_K (am_step scr E L st h) (am_cont p l e R s m args below meth c Q b0 b cI cB dC dI nL n0 z0) Kr Kc) : W p l e R s m args below meth c H locs cells slots Q (F0 m pc ls (st.map (am_cv b0 b))) := by
  subst hE
  obtain ⟨hd0, hok⟩ := am_and hok
  have hd0 := of_decide_eq_true hd0
  obtain ⟨hx, hb, hml, hown, hts, hK, hmn, hb0, hsc⟩ := hc
  obtain ⟨hP, hS, hL⟩ := hrep
  obtain ⟨e9, hd⟩ := am_dec hd0 hok
  subst e9
  obtain ⟨x, y, r, rfl, hk⟩ := am_i2_inv hk
  have hk : am_cont p l e R s m args below meth c Q b0 b cI cB dC dI nL n0 z0 (_, L, .int (x * y) :: r, h) := hk
  exact lv_imul hx hb hd (hk.2 H locs ls cells slots ⟨hP, hS, hL⟩ hcells hslots)
set_option maxHeartbeats 1000000 in
theorem am_s_iand {E : am_I} (hc : am_ctx p s m args meth c b0 b cI cB dC dI cc own mnm nL n0 scr) (hroom : 1 ≤ R.frames ∧ 100 ≤ R.locals) (hrep : am_rep b0 b cI cB dC dI s nL H locs ls L h) (hcells : cells + n0 = h.length) (hslots : slots + z0 = am_szs h)  {nx tg a b' w : Nat} {v : Int32} {lv : Int64} {sw : List (Int32 × Nat)} (hE : E = (.iand, nx, tg, a, b', w, v, lv, sw)) (hok : am_ok1 mt own mnm cc nL ret pc E = true)
    (hk : am_K (am_step scr E L st h) (am_cont p l e R s m args below meth c Q b0 b cI cB dC dI nL n0 z0) Kr Kc) : W p l e R s m args below meth c H locs cells slots Q (F0 m pc ls (st.map (am_cv b0 b))) := by
  subst hE
  obtain ⟨hd0, hok⟩ := am_and hok
  have hd0 := of_decide_eq_true hd0
  obtain ⟨hx, hb, hml, hown, hts, hK, hmn, hb0, hsc⟩ := hc
  obtain ⟨hP, hS, hL⟩ := hrep
  obtain ⟨e9, hd⟩ := am_dec hd0 hok
  subst e9
  obtain ⟨x, y, r, rfl, hk⟩ := am_i2_inv hk
  have hk : am_cont p l e R s m args below meth c Q b0 b cI cB dC dI nL n0 z0 (_, L, .int (x &&& y) :: r, h) := hk
  exact lv_iand hx hb hd (hk.2 H locs ls cells slots ⟨hP, hS, hL⟩ hcells hslots)
set_option maxHeartbeats 1000000 in
theorem am_s_ior {E : am_I} (hc : am_ctx p s m args meth c b0 b cI cB dC dI cc own mnm nL n0 scr) (hroom : 1 ≤ R.frames ∧ 100 ≤ R.locals) (hrep : am_rep b0 b cI cB dC dI s nL H locs ls L h) (hcells : cells + n0 = h.length) (hslots : slots + z0 = am_szs h)  {nx tg a b' w : Nat} {v : Int32} {lv : Int64} {sw : List (Int32 × Nat)} (hE : E = (.ior, nx, tg, a, b', w, v, lv, sw)) (hok : am_ok1 mt own mnm cc nL ret pc E = true)
    (hk : am_K (am_step scr E L st h) (am_cont p l e R s m args below meth c Q b0 b cI cB dC dI nL n0 z0) Kr Kc) : W p l e R s m args below meth c H locs cells slots Q (F0 m pc ls (st.map (am_cv b0 b))) := by
  subst hE
  obtain ⟨hd0, hok⟩ := am_and hok
  have hd0 := of_decide_eq_true hd0
  obtain ⟨hx, hb, hml, hown, hts, hK, hmn, hb0, hsc⟩ := hc
  obtain ⟨hP, hS, hL⟩ := hrep
  obtain ⟨e9, hd⟩ := am_dec hd0 hok
  subst e9
  obtain ⟨x, y, r, rfl, hk⟩ := am_i2_inv hk
  have hk : am_cont p l e R s m args below meth c Q b0 b cI cB dC dI nL n0 z0 (_, L, .int (x ||| y) :: r, h) := hk
  exact lv_ior hx hb hd (hk.2 H locs ls cells slots ⟨hP, hS, hL⟩ hcells hslots)
set_option maxHeartbeats 1000000 in
theorem am_s_ixor {E : am_I} (hc : am_ctx p s m args meth c b0 b cI cB dC dI cc own mnm nL n0 scr) (hroom : 1 ≤ R.frames ∧ 100 ≤ R.locals) (hrep : am_rep b0 b cI cB dC dI s nL H locs ls L h) (hcells : cells + n0 = h.length) (hslots : slots + z0 = am_szs h)  {nx tg a b' w : Nat} {v : Int32} {lv : Int64} {sw : List (Int32 × Nat)} (hE : E = (.ixor, nx, tg, a, b', w, v, lv, sw)) (hok : am_ok1 mt own mnm cc nL ret pc E = true)
    (hk : am_K (am_step scr E L st h) (am_cont p l e R s m args below meth c Q b0 b cI cB dC dI nL n0 z0) Kr Kc) : W p l e R s m args below meth c H locs cells slots Q (F0 m pc ls (st.map (am_cv b0 b))) := by
  subst hE
  obtain ⟨hd0, hok⟩ := am_and hok
  have hd0 := of_decide_eq_true hd0
  obtain ⟨hx, hb, hml, hown, hts, hK, hmn, hb0, hsc⟩ := hc
  obtain ⟨hP, hS, hL⟩ := hrep
  obtain ⟨e9, hd⟩ := am_dec hd0 hok
  subst e9
  obtain ⟨x, y, r, rfl, hk⟩ := am_i2_inv hk
  have hk : am_cont p l e R s m args below meth c Q b0 b cI cB dC dI nL n0 z0 (_, L, .int (x ^^^ y) :: r, h) := hk
  exact lv_ixor hx hb hd (hk.2 H locs ls cells slots ⟨hP, hS, hL⟩ hcells hslots)
set_option maxHeartbeats 1000000 in
theorem am_s_ishl {E : am_I} (hc : am_ctx p s m args meth c b0 b cI cB dC dI cc own mnm nL n0 scr) (hroom : 1 ≤ R.frames ∧ 100 ≤ R.locals) (hrep : am_rep b0 b cI cB dC dI s nL H locs ls L h) (hcells : cells + n0 = h.length) (hslots : slots + z0 = am_szs h)  {nx tg a b' w : Nat} {v : Int32} {lv : Int64} {sw : List (Int32 × Nat)} (hE : E = (.ishl, nx, tg, a, b', w, v, lv, sw)) (hok : am_ok1 mt own mnm cc nL ret pc E = true)
    (hk : am_K (am_step scr E L st h) (am_cont p l e R s m args below meth c Q b0 b cI cB dC dI nL n0 z0) Kr Kc) : W p l e R s m args below meth c H locs cells slots Q (F0 m pc ls (st.map (am_cv b0 b))) := by
  subst hE
  obtain ⟨hd0, hok⟩ := am_and hok
  have hd0 := of_decide_eq_true hd0
  obtain ⟨hx, hb, hml, hown, hts, hK, hmn, hb0, hsc⟩ := hc
  obtain ⟨hP, hS, hL⟩ := hrep
  obtain ⟨e9, hd⟩ := am_dec hd0 hok
  subst e9
  obtain ⟨x, y, r, rfl, hk⟩ := am_i2_inv hk
  have hk : am_cont p l e R s m args below meth c Q b0 b cI cB dC dI nL n0 z0 (_, L, .int (x <<< (y &&& 31)) :: r, h) := hk
  exact lv_ishl hx hb hd (hk.2 H locs ls cells slots ⟨hP, hS, hL⟩ hcells hslots)
set_option maxHeartbeats 1000000 in
theorem am_s_ishr {E : am_I} (hc : am_ctx p s m args meth c b0 b cI cB dC dI cc own mnm nL n0 scr) (hroom : 1 ≤ R.frames ∧ 100 ≤ R.locals) (hrep : am_rep b0 b cI cB dC dI s nL H locs ls L h) (hcells : cells + n0 = h.length) (hslots : slots + z0 = am_szs h)  {nx tg a b' w : Nat} {v : Int32} {lv : Int64} {sw : List (Int32 × Nat)} (hE : E = (.ishr, nx, tg, a, b', w, v, lv, sw)) (hok : am_ok1 mt own mnm cc nL ret pc E = true)
    (hk : am_K (am_step scr E L st h) (am_cont p l e R s m args below meth c Q b0 b cI cB dC dI nL n0 z0) Kr Kc) : W p l e R s m args below meth c H locs cells slots Q (F0 m pc ls (st.map (am_cv b0 b))) := by
  subst hE
  obtain ⟨hd0, hok⟩ := am_and hok
  have hd0 := of_decide_eq_true hd0
  obtain ⟨hx, hb, hml, hown, hts, hK, hmn, hb0, hsc⟩ := hc
  obtain ⟨hP, hS, hL⟩ := hrep
  obtain ⟨e9, hd⟩ := am_dec hd0 hok
  subst e9
  obtain ⟨x, y, r, rfl, hk⟩ := am_i2_inv hk
  have hk : am_cont p l e R s m args below meth c Q b0 b cI cB dC dI nL n0 z0 (_, L, .int (x >>> (y &&& 31)) :: r, h) := hk
  exact lv_ishr hx hb hd (hk.2 H locs ls cells slots ⟨hP, hS, hL⟩ hcells hslots)
set_option maxHeartbeats 1000000 in
theorem am_s_iushr {E : am_I} (hc : am_ctx p s m args meth c b0 b cI cB dC dI cc own mnm nL n0 scr) (hroom : 1 ≤ R.frames ∧ 100 ≤ R.locals) (hrep : am_rep b0 b cI cB dC dI s nL H locs ls L h) (hcells : cells + n0 = h.length) (hslots : slots + z0 = am_szs h)  {nx tg a b' w : Nat} {v : Int32} {lv : Int64} {sw : List (Int32 × Nat)} (hE : E = (.iushr, nx, tg, a, b', w, v, lv, sw)) (hok : am_ok1 mt own mnm cc nL ret pc E = true)
    (hk : am_K (am_step scr E L st h) (am_cont p l e R s m args below meth c Q b0 b cI cB dC dI nL n0 z0) Kr Kc) : W p l e R s m args below meth c H locs cells slots Q (F0 m pc ls (st.map (am_cv b0 b))) := by
  subst hE
  obtain ⟨hd0, hok⟩ := am_and hok
  have hd0 := of_decide_eq_true hd0
  obtain ⟨hx, hb, hml, hown, hts, hK, hmn, hb0, hsc⟩ := hc
  obtain ⟨hP, hS, hL⟩ := hrep
  obtain ⟨e9, hd⟩ := am_dec hd0 hok
  subst e9
  obtain ⟨x, y, r, rfl, hk⟩ := am_i2_inv hk
  have hk : am_cont p l e R s m args below meth c Q b0 b cI cB dC dI nL n0 z0 (_, L, .int (x.toUInt32 >>> (y.toUInt32 &&& Int32.toUInt32 31)).toInt32 :: r, h) := hk
  exact lv_iushr hx hb hd rfl (hk.2 H locs ls cells slots ⟨hP, hS, hL⟩ hcells hslots)
set_option maxHeartbeats 1000000 in
theorem am_s_idiv {E : am_I} (hc : am_ctx p s m args meth c b0 b cI cB dC dI cc own mnm nL n0 scr) (hroom : 1 ≤ R.frames ∧ 100 ≤ R.locals) (hrep : am_rep b0 b cI cB dC dI s nL H locs ls L h) (hcells : cells + n0 = h.length) (hslots : slots + z0 = am_szs h)  {nx tg a b' w : Nat} {v : Int32} {lv : Int64} {sw : List (Int32 × Nat)} (hE : E = (.idiv, nx, tg, a, b', w, v, lv, sw)) (hok : am_ok1 mt own mnm cc nL ret pc E = true)
    (hk : am_K (am_step scr E L st h) (am_cont p l e R s m args below meth c Q b0 b cI cB dC dI nL n0 z0) Kr Kc) : W p l e R s m args below meth c H locs cells slots Q (F0 m pc ls (st.map (am_cv b0 b))) := by
  subst hE
  obtain ⟨hd0, hok⟩ := am_and hok
  have hd0 := of_decide_eq_true hd0
  obtain ⟨hx, hb, hml, hown, hts, hK, hmn, hb0, hsc⟩ := hc
  obtain ⟨hP, hS, hL⟩ := hrep
  obtain ⟨e9, hd⟩ := am_dec hd0 hok
  subst e9
  obtain ⟨x, y, r, rfl, hk⟩ := am_i2_inv hk
  have hk : (¬ y = 0) ∧ am_cont p l e R s m args below meth c Q b0 b cI cB dC dI nL n0 z0 (_, L, .int (x / y) :: r, h) := hk
  exact lv_idiv hx hb hd hk.1 (hk.2.2 H locs ls cells slots ⟨hP, hS, hL⟩ hcells hslots)
set_option maxHeartbeats 1000000 in
theorem am_s_irem {E : am_I} (hc : am_ctx p s m args meth c b0 b cI cB dC dI cc own mnm nL n0 scr) (hroom : 1 ≤ R.frames ∧ 100 ≤ R.locals) (hrep : am_rep b0 b cI cB dC dI s nL H locs ls L h) (hcells : cells + n0 = h.length) (hslots : slots + z0 = am_szs h)  {nx tg a b' w : Nat} {v : Int32} {lv : Int64} {sw : List (Int32 × Nat)} (hE : E = (.irem, nx, tg, a, b', w, v, lv, sw)) (hok : am_ok1 mt own mnm cc nL ret pc E = true)
    (hk : am_K (am_step scr E L st h) (am_cont p l e R s m args below meth c Q b0 b cI cB dC dI nL n0 z0) Kr Kc) : W p l e R s m args below meth c H locs cells slots Q (F0 m pc ls (st.map (am_cv b0 b))) := by
  subst hE
  obtain ⟨hd0, hok⟩ := am_and hok
  have hd0 := of_decide_eq_true hd0
  obtain ⟨hx, hb, hml, hown, hts, hK, hmn, hb0, hsc⟩ := hc
  obtain ⟨hP, hS, hL⟩ := hrep
  obtain ⟨e9, hd⟩ := am_dec hd0 hok
  subst e9
  obtain ⟨x, y, r, rfl, hk⟩ := am_i2_inv hk
  have hk : (¬ y = 0) ∧ am_cont p l e R s m args below meth c Q b0 b cI cB dC dI nL n0 z0 (_, L, .int (x - x / y * y) :: r, h) := hk
  exact lv_irem hx hb hd hk.1 (hk.2.2 H locs ls cells slots ⟨hP, hS, hL⟩ hcells hslots)
set_option maxHeartbeats 1000000 in
theorem am_s_ladd {E : am_I} (hc : am_ctx p s m args meth c b0 b cI cB dC dI cc own mnm nL n0 scr) (hroom : 1 ≤ R.frames ∧ 100 ≤ R.locals) (hrep : am_rep b0 b cI cB dC dI s nL H locs ls L h) (hcells : cells + n0 = h.length) (hslots : slots + z0 = am_szs h)  {nx tg a b' w : Nat} {v : Int32} {lv : Int64} {sw : List (Int32 × Nat)} (hE : E = (.ladd, nx, tg, a, b', w, v, lv, sw)) (hok : am_ok1 mt own mnm cc nL ret pc E = true)
    (hk : am_K (am_step scr E L st h) (am_cont p l e R s m args below meth c Q b0 b cI cB dC dI nL n0 z0) Kr Kc) : W p l e R s m args below meth c H locs cells slots Q (F0 m pc ls (st.map (am_cv b0 b))) := by
  subst hE
  obtain ⟨hd0, hok⟩ := am_and hok
  have hd0 := of_decide_eq_true hd0
  obtain ⟨hx, hb, hml, hown, hts, hK, hmn, hb0, hsc⟩ := hc
  obtain ⟨hP, hS, hL⟩ := hrep
  obtain ⟨e9, hd⟩ := am_dec hd0 hok
  subst e9
  obtain ⟨x, y, r, rfl, hk⟩ := am_j2_inv hk
  have hk : am_cont p l e R s m args below meth c Q b0 b cI cB dC dI nL n0 z0 (_, L, .long (x + y) :: r, h) := hk
  exact lv_ladd hx hb hd (hk.2 H locs ls cells slots ⟨hP, hS, hL⟩ hcells hslots)
set_option maxHeartbeats 1000000 in
theorem am_s_lmul {E : am_I} (hc : am_ctx p s m args meth c b0 b cI cB dC dI cc own mnm nL n0 scr) (hroom : 1 ≤ R.frames ∧ 100 ≤ R.locals) (hrep : am_rep b0 b cI cB dC dI s nL H locs ls L h) (hcells : cells + n0 = h.length) (hslots : slots + z0 = am_szs h)  {nx tg a b' w : Nat} {v : Int32} {lv : Int64} {sw : List (Int32 × Nat)} (hE : E = (.lmul, nx, tg, a, b', w, v, lv, sw)) (hok : am_ok1 mt own mnm cc nL ret pc E = true)
    (hk : am_K (am_step scr E L st h) (am_cont p l e R s m args below meth c Q b0 b cI cB dC dI nL n0 z0) Kr Kc) : W p l e R s m args below meth c H locs cells slots Q (F0 m pc ls (st.map (am_cv b0 b))) := by
  subst hE
  obtain ⟨hd0, hok⟩ := am_and hok
  have hd0 := of_decide_eq_true hd0
  obtain ⟨hx, hb, hml, hown, hts, hK, hmn, hb0, hsc⟩ := hc
  obtain ⟨hP, hS, hL⟩ := hrep
  obtain ⟨e9, hd⟩ := am_dec hd0 hok
  subst e9
  obtain ⟨x, y, r, rfl, hk⟩ := am_j2_inv hk
  have hk : am_cont p l e R s m args below meth c Q b0 b cI cB dC dI nL n0 z0 (_, L, .long (x * y) :: r, h) := hk
  exact lv_lmul hx hb hd (hk.2 H locs ls cells slots ⟨hP, hS, hL⟩ hcells hslots)
set_option maxHeartbeats 1000000 in
theorem am_s_lrem {E : am_I} (hc : am_ctx p s m args meth c b0 b cI cB dC dI cc own mnm nL n0 scr) (hroom : 1 ≤ R.frames ∧ 100 ≤ R.locals) (hrep : am_rep b0 b cI cB dC dI s nL H locs ls L h) (hcells : cells + n0 = h.length) (hslots : slots + z0 = am_szs h)  {nx tg a b' w : Nat} {v : Int32} {lv : Int64} {sw : List (Int32 × Nat)} (hE : E = (.lrem, nx, tg, a, b', w, v, lv, sw)) (hok : am_ok1 mt own mnm cc nL ret pc E = true)
    (hk : am_K (am_step scr E L st h) (am_cont p l e R s m args below meth c Q b0 b cI cB dC dI nL n0 z0) Kr Kc) : W p l e R s m args below meth c H locs cells slots Q (F0 m pc ls (st.map (am_cv b0 b))) := by
  subst hE
  obtain ⟨hd0, hok⟩ := am_and hok
  have hd0 := of_decide_eq_true hd0
  obtain ⟨hx, hb, hml, hown, hts, hK, hmn, hb0, hsc⟩ := hc
  obtain ⟨hP, hS, hL⟩ := hrep
  obtain ⟨e9, hd⟩ := am_dec hd0 hok
  subst e9
  obtain ⟨x, y, r, rfl, hk⟩ := am_j2_inv hk
  have hk : (¬ y = 0) ∧ am_cont p l e R s m args below meth c Q b0 b cI cB dC dI nL n0 z0 (_, L, .long (x - x / y * y) :: r, h) := hk
  exact lv_lrem hx hb hd hk.1 (hk.2.2 H locs ls cells slots ⟨hP, hS, hL⟩ hcells hslots)
set_option maxHeartbeats 1000000 in
theorem am_s_lcmp {E : am_I} (hc : am_ctx p s m args meth c b0 b cI cB dC dI cc own mnm nL n0 scr) (hroom : 1 ≤ R.frames ∧ 100 ≤ R.locals) (hrep : am_rep b0 b cI cB dC dI s nL H locs ls L h) (hcells : cells + n0 = h.length) (hslots : slots + z0 = am_szs h)  {nx tg a b' w : Nat} {v : Int32} {lv : Int64} {sw : List (Int32 × Nat)} (hE : E = (.lcmp, nx, tg, a, b', w, v, lv, sw)) (hok : am_ok1 mt own mnm cc nL ret pc E = true)
    (hk : am_K (am_step scr E L st h) (am_cont p l e R s m args below meth c Q b0 b cI cB dC dI nL n0 z0) Kr Kc) : W p l e R s m args below meth c H locs cells slots Q (F0 m pc ls (st.map (am_cv b0 b))) := by
  subst hE
  obtain ⟨hd0, hok⟩ := am_and hok
  have hd0 := of_decide_eq_true hd0
  obtain ⟨hx, hb, hml, hown, hts, hK, hmn, hb0, hsc⟩ := hc
  obtain ⟨hP, hS, hL⟩ := hrep
  obtain ⟨e9, hd⟩ := am_dec hd0 hok
  subst e9
  obtain ⟨x, y, r, rfl, hk⟩ := am_j2_inv hk
  have hk : am_cont p l e R s m args below meth c Q b0 b cI cB dC dI nL n0 z0 (_, L, .int (lg_cmp x y) :: r, h) := hk
  exact W.lcmp hx hb hd (hk.2 H locs ls cells slots ⟨hP, hS, hL⟩ hcells hslots)
set_option maxHeartbeats 1000000 in
theorem am_s_ineg {E : am_I} (hc : am_ctx p s m args meth c b0 b cI cB dC dI cc own mnm nL n0 scr) (hroom : 1 ≤ R.frames ∧ 100 ≤ R.locals) (hrep : am_rep b0 b cI cB dC dI s nL H locs ls L h) (hcells : cells + n0 = h.length) (hslots : slots + z0 = am_szs h)  {nx tg a b' w : Nat} {v : Int32} {lv : Int64} {sw : List (Int32 × Nat)} (hE : E = (.ineg, nx, tg, a, b', w, v, lv, sw)) (hok : am_ok1 mt own mnm cc nL ret pc E = true)
    (hk : am_K (am_step scr E L st h) (am_cont p l e R s m args below meth c Q b0 b cI cB dC dI nL n0 z0) Kr Kc) : W p l e R s m args below meth c H locs cells slots Q (F0 m pc ls (st.map (am_cv b0 b))) := by
  subst hE
  obtain ⟨hd0, hok⟩ := am_and hok
  have hd0 := of_decide_eq_true hd0
  obtain ⟨hx, hb, hml, hown, hts, hK, hmn, hb0, hsc⟩ := hc
  obtain ⟨hP, hS, hL⟩ := hrep
  obtain ⟨e9, hd⟩ := am_dec hd0 hok
  subst e9
  obtain ⟨x, r, rfl, hk⟩ := am_i1_inv hk
  have hk : am_cont p l e R s m args below meth c Q b0 b cI cB dC dI nL n0 z0 (_, L, .int (-x) :: r, h) := hk
  exact lv_ineg hx hb hd (hk.2 H locs ls cells slots ⟨hP, hS, hL⟩ hcells hslots)
set_option maxHeartbeats 1000000 in
theorem am_s_i2l {E : am_I} (hc : am_ctx p s m args meth c b0 b cI cB dC dI cc own mnm nL n0 scr) (hroom : 1 ≤ R.frames ∧ 100 ≤ R.locals) (hrep : am_rep b0 b cI cB dC dI s nL H locs ls L h) (hcells : cells + n0 = h.length) (hslots : slots + z0 = am_szs h)  {nx tg a b' w : Nat} {v : Int32} {lv : Int64} {sw : List (Int32 × Nat)} (hE : E = (.i2l, nx, tg, a, b', w, v, lv, sw)) (hok : am_ok1 mt own mnm cc nL ret pc E = true)
    (hk : am_K (am_step scr E L st h) (am_cont p l e R s m args below meth c Q b0 b cI cB dC dI nL n0 z0) Kr Kc) : W p l e R s m args below meth c H locs cells slots Q (F0 m pc ls (st.map (am_cv b0 b))) := by
  subst hE
  obtain ⟨hd0, hok⟩ := am_and hok
  have hd0 := of_decide_eq_true hd0
  obtain ⟨hx, hb, hml, hown, hts, hK, hmn, hb0, hsc⟩ := hc
  obtain ⟨hP, hS, hL⟩ := hrep
  obtain ⟨e9, hd⟩ := am_dec hd0 hok
  subst e9
  obtain ⟨x, r, rfl, hk⟩ := am_i1_inv hk
  have hk : am_cont p l e R s m args below meth c Q b0 b cI cB dC dI nL n0 z0 (_, L, .long x.toInt64 :: r, h) := hk
  exact lv_i2l hx hb hd rfl (hk.2 H locs ls cells slots ⟨hP, hS, hL⟩ hcells hslots)
set_option maxHeartbeats 1000000 in
theorem am_s_l2i {E : am_I} (hc : am_ctx p s m args meth c b0 b cI cB dC dI cc own mnm nL n0 scr) (hroom : 1 ≤ R.frames ∧ 100 ≤ R.locals) (hrep : am_rep b0 b cI cB dC dI s nL H locs ls L h) (hcells : cells + n0 = h.length) (hslots : slots + z0 = am_szs h)  {nx tg a b' w : Nat} {v : Int32} {lv : Int64} {sw : List (Int32 × Nat)} (hE : E = (.l2i, nx, tg, a, b', w, v, lv, sw)) (hok : am_ok1 mt own mnm cc nL ret pc E = true)
    (hk : am_K (am_step scr E L st h) (am_cont p l e R s m args below meth c Q b0 b cI cB dC dI nL n0 z0) Kr Kc) : W p l e R s m args below meth c H locs cells slots Q (F0 m pc ls (st.map (am_cv b0 b))) := by
  subst hE
  obtain ⟨hd0, hok⟩ := am_and hok
  have hd0 := of_decide_eq_true hd0
  obtain ⟨hx, hb, hml, hown, hts, hK, hmn, hb0, hsc⟩ := hc
  obtain ⟨hP, hS, hL⟩ := hrep
  obtain ⟨e9, hd⟩ := am_dec hd0 hok
  subst e9
  obtain ⟨x, r, rfl, hk⟩ := am_j1_inv hk
  have hk : am_cont p l e R s m args below meth c Q b0 b cI cB dC dI nL n0 z0 (_, L, .int x.toInt32 :: r, h) := hk
  exact lv_l2i hx hb hd rfl (hk.2 H locs ls cells slots ⟨hP, hS, hL⟩ hcells hslots)
set_option maxHeartbeats 1000000 in
theorem am_s_i2b {E : am_I} (hc : am_ctx p s m args meth c b0 b cI cB dC dI cc own mnm nL n0 scr) (hroom : 1 ≤ R.frames ∧ 100 ≤ R.locals) (hrep : am_rep b0 b cI cB dC dI s nL H locs ls L h) (hcells : cells + n0 = h.length) (hslots : slots + z0 = am_szs h)  {nx tg a b' w : Nat} {v : Int32} {lv : Int64} {sw : List (Int32 × Nat)} (hE : E = (.i2b, nx, tg, a, b', w, v, lv, sw)) (hok : am_ok1 mt own mnm cc nL ret pc E = true)
    (hk : am_K (am_step scr E L st h) (am_cont p l e R s m args below meth c Q b0 b cI cB dC dI nL n0 z0) Kr Kc) : W p l e R s m args below meth c H locs cells slots Q (F0 m pc ls (st.map (am_cv b0 b))) := by
  subst hE
  obtain ⟨hd0, hok⟩ := am_and hok
  have hd0 := of_decide_eq_true hd0
  obtain ⟨hx, hb, hml, hown, hts, hK, hmn, hb0, hsc⟩ := hc
  obtain ⟨hP, hS, hL⟩ := hrep
  obtain ⟨e9, hd⟩ := am_dec hd0 hok
  subst e9
  obtain ⟨x, r, rfl, hk⟩ := am_i1_inv hk
  have hk : am_cont p l e R s m args below meth c Q b0 b cI cB dC dI nL n0 z0 (_, L, .int x.toInt8.toInt32 :: r, h) := hk
  exact lv_i2b hx hb hd rfl (hk.2 H locs ls cells slots ⟨hP, hS, hL⟩ hcells hslots)
set_option maxHeartbeats 1000000 in
theorem am_s_i2s {E : am_I} (hc : am_ctx p s m args meth c b0 b cI cB dC dI cc own mnm nL n0 scr) (hroom : 1 ≤ R.frames ∧ 100 ≤ R.locals) (hrep : am_rep b0 b cI cB dC dI s nL H locs ls L h) (hcells : cells + n0 = h.length) (hslots : slots + z0 = am_szs h)  {nx tg a b' w : Nat} {v : Int32} {lv : Int64} {sw : List (Int32 × Nat)} (hE : E = (.i2s, nx, tg, a, b', w, v, lv, sw)) (hok : am_ok1 mt own mnm cc nL ret pc E = true)
    (hk : am_K (am_step scr E L st h) (am_cont p l e R s m args below meth c Q b0 b cI cB dC dI nL n0 z0) Kr Kc) : W p l e R s m args below meth c H locs cells slots Q (F0 m pc ls (st.map (am_cv b0 b))) := by
  subst hE
  obtain ⟨hd0, hok⟩ := am_and hok
  have hd0 := of_decide_eq_true hd0
  obtain ⟨hx, hb, hml, hown, hts, hK, hmn, hb0, hsc⟩ := hc
  obtain ⟨hP, hS, hL⟩ := hrep
  obtain ⟨e9, hd⟩ := am_dec hd0 hok
  subst e9
  obtain ⟨x, r, rfl, hk⟩ := am_i1_inv hk
  have hk : am_cont p l e R s m args below meth c Q b0 b cI cB dC dI nL n0 z0 (_, L, .int x.toInt16.toInt32 :: r, h) := hk
  exact lv_i2s hx hb hd rfl (hk.2 H locs ls cells slots ⟨hP, hS, hL⟩ hcells hslots)
set_option maxHeartbeats 1000000 in
theorem am_s_dup {E : am_I} (hc : am_ctx p s m args meth c b0 b cI cB dC dI cc own mnm nL n0 scr) (hroom : 1 ≤ R.frames ∧ 100 ≤ R.locals) (hrep : am_rep b0 b cI cB dC dI s nL H locs ls L h) (hcells : cells + n0 = h.length) (hslots : slots + z0 = am_szs h)  {nx tg a b' w : Nat} {v : Int32} {lv : Int64} {sw : List (Int32 × Nat)} (hE : E = (.dup, nx, tg, a, b', w, v, lv, sw)) (hok : am_ok1 mt own mnm cc nL ret pc E = true)
    (hk : am_K (am_step scr E L st h) (am_cont p l e R s m args below meth c Q b0 b cI cB dC dI nL n0 z0) Kr Kc) : W p l e R s m args below meth c H locs cells slots Q (F0 m pc ls (st.map (am_cv b0 b))) := by
  subst hE
  obtain ⟨hd0, hok⟩ := am_and hok
  have hd0 := of_decide_eq_true hd0
  obtain ⟨hx, hb, hml, hown, hts, hK, hmn, hb0, hsc⟩ := hc
  obtain ⟨hP, hS, hL⟩ := hrep
  obtain ⟨e9, hd⟩ := am_dec hd0 hok
  subst e9
  obtain ⟨x, r, rfl, hk⟩ := am_v1_inv hk
  obtain ⟨hx1, hk⟩ := am_bb_inv hk
  have hk : am_cont p l e R s m args below meth c Q b0 b cI cB dC dI nL n0 z0 (_, L, x :: x :: r, h) := hk
  exact lv_dup hx hb hd ((am_cv_cat b0 b x).trans (am_beq hx1)) (hk.2 H locs ls cells slots ⟨hP, hS, hL⟩ hcells hslots)
set_option maxHeartbeats 1000000 in
theorem am_s_dup2 {E : am_I} (hc : am_ctx p s m args meth c b0 b cI cB dC dI cc own mnm nL n0 scr) (hroom : 1 ≤ R.frames ∧ 100 ≤ R.locals) (hrep : am_rep b0 b cI cB dC dI s nL H locs ls L h) (hcells : cells + n0 = h.length) (hslots : slots + z0 = am_szs h)  {nx tg a b' w : Nat} {v : Int32} {lv : Int64} {sw : List (Int32 × Nat)} (hE : E = (.dup2, nx, tg, a, b', w, v, lv, sw)) (hok : am_ok1 mt own mnm cc nL ret pc E = true)
    (hk : am_K (am_step scr E L st h) (am_cont p l e R s m args below meth c Q b0 b cI cB dC dI nL n0 z0) Kr Kc) : W p l e R s m args below meth c H locs cells slots Q (F0 m pc ls (st.map (am_cv b0 b))) := by
  subst hE
  obtain ⟨hd0, hok⟩ := am_and hok
  have hd0 := of_decide_eq_true hd0
  obtain ⟨hx, hb, hml, hown, hts, hK, hmn, hb0, hsc⟩ := hc
  obtain ⟨hP, hS, hL⟩ := hrep
  obtain ⟨e9, hd⟩ := am_dec hd0 hok
  subst e9
  obtain ⟨x, r, rfl, hk⟩ := am_v1_inv hk
  obtain ⟨y, r, rfl, hk⟩ := am_v1_inv hk
  obtain ⟨hx1, hk⟩ := am_bb_inv hk
  obtain ⟨hx2, hk⟩ := am_bb_inv hk
  have hk : am_cont p l e R s m args below meth c Q b0 b cI cB dC dI nL n0 z0 (_, L, x :: y :: x :: y :: r, h) := hk
  exact lv_dup2_11 hx hb hd ((am_cv_cat b0 b x).trans (am_beq hx1)) ((am_cv_cat b0 b y).trans (am_beq hx2)) (hk.2 H locs ls cells slots ⟨hP, hS, hL⟩ hcells hslots)
set_option maxHeartbeats 1000000 in
theorem am_s_pop {E : am_I} (hc : am_ctx p s m args meth c b0 b cI cB dC dI cc own mnm nL n0 scr) (hroom : 1 ≤ R.frames ∧ 100 ≤ R.locals) (hrep : am_rep b0 b cI cB dC dI s nL H locs ls L h) (hcells : cells + n0 = h.length) (hslots : slots + z0 = am_szs h)  {nx tg a b' w : Nat} {v : Int32} {lv : Int64} {sw : List (Int32 × Nat)} (hE : E = (.pop, nx, tg, a, b', w, v, lv, sw)) (hok : am_ok1 mt own mnm cc nL ret pc E = true)
    (hk : am_K (am_step scr E L st h) (am_cont p l e R s m args below meth c Q b0 b cI cB dC dI nL n0 z0) Kr Kc) : W p l e R s m args below meth c H locs cells slots Q (F0 m pc ls (st.map (am_cv b0 b))) := by
  subst hE
  obtain ⟨hd0, hok⟩ := am_and hok
  have hd0 := of_decide_eq_true hd0
  obtain ⟨hx, hb, hml, hown, hts, hK, hmn, hb0, hsc⟩ := hc
  obtain ⟨hP, hS, hL⟩ := hrep
  obtain ⟨e9, hd⟩ := am_dec hd0 hok
  subst e9
  obtain ⟨x, r, rfl, hk⟩ := am_v1_inv hk
  obtain ⟨hx1, hk⟩ := am_bb_inv hk
  have hk : am_cont p l e R s m args below meth c Q b0 b cI cB dC dI nL n0 z0 (_, L, r, h) := hk
  exact lv_pop hx hb hd ((am_cv_cat b0 b x).trans (am_beq hx1)) (hk.2 H locs ls cells slots ⟨hP, hS, hL⟩ hcells hslots)
set_option maxHeartbeats 1000000 in
theorem am_s_goto {E : am_I} (hc : am_ctx p s m args meth c b0 b cI cB dC dI cc own mnm nL n0 scr) (hroom : 1 ≤ R.frames ∧ 100 ≤ R.locals) (hrep : am_rep b0 b cI cB dC dI s nL H locs ls L h) (hcells : cells + n0 = h.length) (hslots : slots + z0 = am_szs h) {o : Int} {nx tg a b' w : Nat} {v : Int32} {lv : Int64} {sw : List (Int32 × Nat)} (hE : E = (.goto o, nx, tg, a, b', w, v, lv, sw)) (hok : am_ok1 mt own mnm cc nL ret pc E = true)
    (hk : am_K (am_step scr E L st h) (am_cont p l e R s m args below meth c Q b0 b cI cB dC dI nL n0 z0) Kr Kc) : W p l e R s m args below meth c H locs cells slots Q (F0 m pc ls (st.map (am_cv b0 b))) := by
  subst hE
  obtain ⟨hd0, hok⟩ := am_and hok
  have hd0 := of_decide_eq_true hd0
  obtain ⟨hx, hb, hml, hown, hts, hK, hmn, hb0, hsc⟩ := hc
  obtain ⟨hP, hS, hL⟩ := hrep
  obtain ⟨hl, hv⟩ := am_and hok
  obtain ⟨e9, hd⟩ := am_dec hd0 hl
  subst e9
  have hk : am_cont p l e R s m args below meth c Q b0 b cI cB dC dI nL n0 z0 (tg, L, st, h) := hk
  exact lv_goto hx hb hd (of_decide_eq_true hv) (hk.2 H locs ls cells slots ⟨hP, hS, hL⟩ hcells hslots)
set_option maxHeartbeats 1000000 in
theorem am_s_icmp {E : am_I} (hc : am_ctx p s m args meth c b0 b cI cB dC dI cc own mnm nL n0 scr) (hroom : 1 ≤ R.frames ∧ 100 ≤ R.locals) (hrep : am_rep b0 b cI cB dC dI s nL H locs ls L h) (hcells : cells + n0 = h.length) (hslots : slots + z0 = am_szs h) {cd : ClassFile.Cond} {o : Int} {nx tg a b' w : Nat} {v : Int32} {lv : Int64} {sw : List (Int32 × Nat)} (hE : E = (.if_icmp cd o, nx, tg, a, b', w, v, lv, sw)) (hok : am_ok1 mt own mnm cc nL ret pc E = true)
    (hk : am_K (am_step scr E L st h) (am_cont p l e R s m args below meth c Q b0 b cI cB dC dI nL n0 z0) Kr Kc) : W p l e R s m args below meth c H locs cells slots Q (F0 m pc ls (st.map (am_cv b0 b))) := by
  subst hE
  obtain ⟨hd0, hok⟩ := am_and hok
  have hd0 := of_decide_eq_true hd0
  obtain ⟨hx, hb, hml, hown, hts, hK, hmn, hb0, hsc⟩ := hc
  obtain ⟨hP, hS, hL⟩ := hrep
  obtain ⟨hl, hv⟩ := am_and hok
  obtain ⟨e9, hd⟩ := am_dec hd0 hl
  subst e9
  obtain ⟨x, y, r, rfl, hk⟩ := am_i2_inv hk
  cases cd with
  | eq =>
    have hk : (x = y → am_cont p l e R s m args below meth c Q b0 b cI cB dC dI nL n0 z0 (tg, L, r, h)) ∧ (¬ (x = y) → am_cont p l e R s m args below meth c Q b0 b cI cB dC dI nL n0 z0 (_, L, r, h)) := hk
    exact lv_icmp_eq hx hb hd (of_decide_eq_true hv) (fun q => ((hk.1 q).2 H locs ls cells slots ⟨hP, hS, hL⟩ hcells hslots)) (fun q => ((hk.2 q).2 H locs ls cells slots ⟨hP, hS, hL⟩ hcells hslots))
  | ne =>
    have hk : (x = y → am_cont p l e R s m args below meth c Q b0 b cI cB dC dI nL n0 z0 (_, L, r, h)) ∧ (¬ (x = y) → am_cont p l e R s m args below meth c Q b0 b cI cB dC dI nL n0 z0 (tg, L, r, h)) := hk
    exact lv_icmp_ne hx hb hd (of_decide_eq_true hv) (fun q => ((hk.2 q).2 H locs ls cells slots ⟨hP, hS, hL⟩ hcells hslots)) (fun q => ((hk.1 q).2 H locs ls cells slots ⟨hP, hS, hL⟩ hcells hslots))
  | lt =>
    have hk : (x < y → am_cont p l e R s m args below meth c Q b0 b cI cB dC dI nL n0 z0 (tg, L, r, h)) ∧ (¬ (x < y) → am_cont p l e R s m args below meth c Q b0 b cI cB dC dI nL n0 z0 (_, L, r, h)) := hk
    exact lv_icmp_lt hx hb hd (of_decide_eq_true hv) (fun q => ((hk.1 q).2 H locs ls cells slots ⟨hP, hS, hL⟩ hcells hslots)) (fun q => ((hk.2 q).2 H locs ls cells slots ⟨hP, hS, hL⟩ hcells hslots))
  | ge =>
    have hk : (y ≤ x → am_cont p l e R s m args below meth c Q b0 b cI cB dC dI nL n0 z0 (tg, L, r, h)) ∧ (¬ (y ≤ x) → am_cont p l e R s m args below meth c Q b0 b cI cB dC dI nL n0 z0 (_, L, r, h)) := hk
    exact lv_icmp_ge hx hb hd (of_decide_eq_true hv) (fun q => ((hk.1 q).2 H locs ls cells slots ⟨hP, hS, hL⟩ hcells hslots)) (fun q => ((hk.2 q).2 H locs ls cells slots ⟨hP, hS, hL⟩ hcells hslots))
  | gt =>
    have hk : (y < x → am_cont p l e R s m args below meth c Q b0 b cI cB dC dI nL n0 z0 (tg, L, r, h)) ∧ (¬ (y < x) → am_cont p l e R s m args below meth c Q b0 b cI cB dC dI nL n0 z0 (_, L, r, h)) := hk
    exact lv_icmp_gt hx hb hd (of_decide_eq_true hv) (fun q => ((hk.1 q).2 H locs ls cells slots ⟨hP, hS, hL⟩ hcells hslots)) (fun q => ((hk.2 q).2 H locs ls cells slots ⟨hP, hS, hL⟩ hcells hslots))
  | le =>
    have hk : (x ≤ y → am_cont p l e R s m args below meth c Q b0 b cI cB dC dI nL n0 z0 (tg, L, r, h)) ∧ (¬ (x ≤ y) → am_cont p l e R s m args below meth c Q b0 b cI cB dC dI nL n0 z0 (_, L, r, h)) := hk
    exact lv_icmp_le hx hb hd (of_decide_eq_true hv) (fun q => ((hk.1 q).2 H locs ls cells slots ⟨hP, hS, hL⟩ hcells hslots)) (fun q => ((hk.2 q).2 H locs ls cells slots ⟨hP, hS, hL⟩ hcells hslots))
set_option maxHeartbeats 1000000 in
theorem am_s_ifc {E : am_I} (hc : am_ctx p s m args meth c b0 b cI cB dC dI cc own mnm nL n0 scr) (hroom : 1 ≤ R.frames ∧ 100 ≤ R.locals) (hrep : am_rep b0 b cI cB dC dI s nL H locs ls L h) (hcells : cells + n0 = h.length) (hslots : slots + z0 = am_szs h) {cd : ClassFile.Cond} {o : Int} {nx tg a b' w : Nat} {v : Int32} {lv : Int64} {sw : List (Int32 × Nat)} (hE : E = (.ifCond cd o, nx, tg, a, b', w, v, lv, sw)) (hok : am_ok1 mt own mnm cc nL ret pc E = true)
    (hk : am_K (am_step scr E L st h) (am_cont p l e R s m args below meth c Q b0 b cI cB dC dI nL n0 z0) Kr Kc) : W p l e R s m args below meth c H locs cells slots Q (F0 m pc ls (st.map (am_cv b0 b))) := by
  subst hE
  obtain ⟨hd0, hok⟩ := am_and hok
  have hd0 := of_decide_eq_true hd0
  obtain ⟨hx, hb, hml, hown, hts, hK, hmn, hb0, hsc⟩ := hc
  obtain ⟨hP, hS, hL⟩ := hrep
  obtain ⟨hl, hv⟩ := am_and hok
  obtain ⟨e9, hd⟩ := am_dec hd0 hl
  subst e9
  obtain ⟨x, r, rfl, hk⟩ := am_i1_inv hk
  cases cd with
  | eq =>
    have hk : (x = 0 → am_cont p l e R s m args below meth c Q b0 b cI cB dC dI nL n0 z0 (tg, L, r, h)) ∧ (¬ (x = 0) → am_cont p l e R s m args below meth c Q b0 b cI cB dC dI nL n0 z0 (_, L, r, h)) := hk
    exact lv_if_eq hx hb hd (of_decide_eq_true hv) (fun q => ((hk.1 q).2 H locs ls cells slots ⟨hP, hS, hL⟩ hcells hslots)) (fun q => ((hk.2 q).2 H locs ls cells slots ⟨hP, hS, hL⟩ hcells hslots))
  | ne =>
    have hk : (x = 0 → am_cont p l e R s m args below meth c Q b0 b cI cB dC dI nL n0 z0 (_, L, r, h)) ∧ (¬ (x = 0) → am_cont p l e R s m args below meth c Q b0 b cI cB dC dI nL n0 z0 (tg, L, r, h)) := hk
    exact lv_if_ne hx hb hd (of_decide_eq_true hv) (fun q => ((hk.2 q).2 H locs ls cells slots ⟨hP, hS, hL⟩ hcells hslots)) (fun q => ((hk.1 q).2 H locs ls cells slots ⟨hP, hS, hL⟩ hcells hslots))
  | lt =>
    have hk : (x < 0 → am_cont p l e R s m args below meth c Q b0 b cI cB dC dI nL n0 z0 (tg, L, r, h)) ∧ (¬ (x < 0) → am_cont p l e R s m args below meth c Q b0 b cI cB dC dI nL n0 z0 (_, L, r, h)) := hk
    exact lv_if_lt hx hb hd (of_decide_eq_true hv) (fun q => ((hk.1 q).2 H locs ls cells slots ⟨hP, hS, hL⟩ hcells hslots)) (fun q => ((hk.2 q).2 H locs ls cells slots ⟨hP, hS, hL⟩ hcells hslots))
  | ge =>
    have hk : (0 ≤ x → am_cont p l e R s m args below meth c Q b0 b cI cB dC dI nL n0 z0 (tg, L, r, h)) ∧ (¬ (0 ≤ x) → am_cont p l e R s m args below meth c Q b0 b cI cB dC dI nL n0 z0 (_, L, r, h)) := hk
    exact lv_if_ge hx hb hd (of_decide_eq_true hv) (fun q => ((hk.1 q).2 H locs ls cells slots ⟨hP, hS, hL⟩ hcells hslots)) (fun q => ((hk.2 q).2 H locs ls cells slots ⟨hP, hS, hL⟩ hcells hslots))
  | gt =>
    have hk : (0 < x → am_cont p l e R s m args below meth c Q b0 b cI cB dC dI nL n0 z0 (tg, L, r, h)) ∧ (¬ (0 < x) → am_cont p l e R s m args below meth c Q b0 b cI cB dC dI nL n0 z0 (_, L, r, h)) := hk
    exact lv_if_gt hx hb hd (of_decide_eq_true hv) (fun q => ((hk.1 q).2 H locs ls cells slots ⟨hP, hS, hL⟩ hcells hslots)) (fun q => ((hk.2 q).2 H locs ls cells slots ⟨hP, hS, hL⟩ hcells hslots))
  | le =>
    have hk : (x ≤ 0 → am_cont p l e R s m args below meth c Q b0 b cI cB dC dI nL n0 z0 (tg, L, r, h)) ∧ (¬ (x ≤ 0) → am_cont p l e R s m args below meth c Q b0 b cI cB dC dI nL n0 z0 (_, L, r, h)) := hk
    exact lv_if_le hx hb hd (of_decide_eq_true hv) (fun q => ((hk.1 q).2 H locs ls cells slots ⟨hP, hS, hL⟩ hcells hslots)) (fun q => ((hk.2 q).2 H locs ls cells slots ⟨hP, hS, hL⟩ hcells hslots))
set_option maxHeartbeats 1000000 in
theorem am_s_tsw {E : am_I} (hc : am_ctx p s m args meth c b0 b cI cB dC dI cc own mnm nL n0 scr) (hroom : 1 ≤ R.frames ∧ 100 ≤ R.locals) (hrep : am_rep b0 b cI cB dC dI s nL H locs ls L h) (hcells : cells + n0 = h.length) (hslots : slots + z0 = am_szs h) {d lo hi : Int} {os : Array Int} {nx tg a b' w : Nat} {v : Int32} {lv : Int64} {sw : List (Int32 × Nat)} (hE : E = (.tableswitch d lo hi os, nx, tg, a, b', w, v, lv, sw)) (hok : am_ok1 mt own mnm cc nL ret pc E = true)
    (hk : am_K (am_step scr E L st h) (am_cont p l e R s m args below meth c Q b0 b cI cB dC dI nL n0 z0) Kr Kc) : W p l e R s m args below meth c H locs cells slots Q (F0 m pc ls (st.map (am_cv b0 b))) := by
  subst hE
  obtain ⟨hd0, hok⟩ := am_and hok
  have hd0 := of_decide_eq_true hd0
  obtain ⟨hx, hb, hml, hown, hts, hK, hmn, hb0, hsc⟩ := hc
  obtain ⟨hP, hS, hL⟩ := hrep
  obtain ⟨hok, hsw⟩ := am_and hok
  obtain ⟨hok, hsz⟩ := am_and hok
  obtain ⟨hle, hdf⟩ := am_and hok
  have hsz := of_decide_eq_true hsz
  obtain ⟨x, r, rfl, hk⟩ := am_i1_inv hk
  have hk : am_cont p l e R s m args below meth c Q b0 b cI cB dC dI nL n0 z0 (am_pick x sw tg, L, r, h) := hk
  obtain ⟨i1, i2⟩ := am_sws_pick (x := x) (d := tg) os.toList sw lo hsw
  rw [Array.length_toList] at i1 i2
  by_cases hin : lo ≤ x.toInt ∧ x.toInt < lo + os.size
  · obtain ⟨off, e1, e2⟩ := i1 hin
    exact lv_tableIn hx hb hd0 (by omega) (by omega) (by rw [← Array.getElem?_toList]; exact e1) e2 (hk.2 H locs ls cells slots ⟨hP, hS, hL⟩ hcells hslots)
  · have e := i2 hin
    rw [e] at hk
    exact lv_tableOut hx hb hd0 (by omega) (of_decide_eq_true hdf) (hk.2 H locs ls cells slots ⟨hP, hS, hL⟩ hcells hslots)
set_option maxHeartbeats 1000000 in
theorem am_s_lsw {E : am_I} (hc : am_ctx p s m args meth c b0 b cI cB dC dI cc own mnm nL n0 scr) (hroom : 1 ≤ R.frames ∧ 100 ≤ R.locals) (hrep : am_rep b0 b cI cB dC dI s nL H locs ls L h) (hcells : cells + n0 = h.length) (hslots : slots + z0 = am_szs h) {d : Int} {ps : Array (Int × Int)} {nx tg a b' w : Nat} {v : Int32} {lv : Int64} {sw : List (Int32 × Nat)} (hE : E = (.lookupswitch d ps, nx, tg, a, b', w, v, lv, sw)) (hok : am_ok1 mt own mnm cc nL ret pc E = true)
    (hk : am_K (am_step scr E L st h) (am_cont p l e R s m args below meth c Q b0 b cI cB dC dI nL n0 z0) Kr Kc) : W p l e R s m args below meth c H locs cells slots Q (F0 m pc ls (st.map (am_cv b0 b))) := by
  subst hE
  obtain ⟨hd0, hok⟩ := am_and hok
  have hd0 := of_decide_eq_true hd0
  obtain ⟨hx, hb, hml, hown, hts, hK, hmn, hb0, hsc⟩ := hc
  obtain ⟨hP, hS, hL⟩ := hrep
  obtain ⟨hok, hsw⟩ := am_and hok
  obtain ⟨hok, hso⟩ := am_and hok
  obtain ⟨hle, hdf⟩ := am_and hok
  obtain ⟨x, r, rfl, hk⟩ := am_i1_inv hk
  have hk : am_cont p l e R s m args below meth c Q b0 b cI cB dC dI nL n0 z0 (am_pick x sw tg, L, r, h) := hk
  exact lv_lookup hx hb hd0 hso rfl (am_swl_pick (x := x) (of_decide_eq_true hdf) ps.toList sw hsw) (hk.2 H locs ls cells slots ⟨hP, hS, hL⟩ hcells hslots)
set_option maxHeartbeats 1000000 in
theorem am_s_getf {E : am_I} (hc : am_ctx p s m args meth c b0 b cI cB dC dI cc own mnm nL n0 scr) (hroom : 1 ≤ R.frames ∧ 100 ≤ R.locals) (hrep : am_rep b0 b cI cB dC dI s nL H locs ls L h) (hcells : cells + n0 = h.length) (hslots : slots + z0 = am_szs h) {i : Nat} {nx tg a b' w : Nat} {v : Int32} {lv : Int64} {sw : List (Int32 × Nat)} (hE : E = (.getfield i, nx, tg, a, b', w, v, lv, sw)) (hok : am_ok1 mt own mnm cc nL ret pc E = true)
    (hk : am_K (am_step scr E L st h) (am_cont p l e R s m args below meth c Q b0 b cI cB dC dI nL n0 z0) Kr Kc) : W p l e R s m args below meth c H locs cells slots Q (F0 m pc ls (st.map (am_cv b0 b))) := by
  subst hE
  obtain ⟨hd0, hok⟩ := am_and hok
  have hd0 := of_decide_eq_true hd0
  obtain ⟨hx, hb, hml, hown, hts, hK, hmn, hb0, hsc⟩ := hc
  obtain ⟨hP, hS, hL⟩ := hrep
  obtain ⟨hl, hf⟩ := am_and hok
  obtain ⟨e9, hd⟩ := am_dec hd0 hl
  subst e9
  obtain ⟨q0, r, rfl, hk1⟩ := am_r1_inv hk
  obtain ⟨ci, fs, hq, hk2⟩ := am_ob_inv hk1
  obtain ⟨hci, hk3⟩ := am_bb_inv hk2
  cases am_beq hci
  have hk := hk3
  obtain ⟨x, hfx, hk⟩ := am_fl_inv hk
  have hk : am_cont p l e R s m args below meth c Q b0 b cI cB dC dI nL n0 z0 (_, L, x :: r, h) := hk
  unfold am_fld at hf
  split at hf
  next q hcl =>
    simp only [Bool.and_eq_true, decide_eq_true_eq] at hf
    obtain ⟨⟨hbn, hw⟩, hsm⟩ := hf
    have hbn := Nat.blt_eq.mp hbn
    obtain ⟨g1, g2, g3, -⟩ := am_cls _ _ hcl
    obtain ⟨C, T, N⟩ := q
    dsimp only at hsm hbn hw g1 g2 g3
    have hlk := am_hts hts hw rfl
    have hsame : ∀ x, s.fieldFound? (T b').1 (T b').2.1 (T b').2.2.1 = some x → s.fieldFound? C (T b').2.1 (T b').2.2.1 = some x := fun x hx => by rw [← hsm]; exact hx
    exact va_get hx hb hts g3 hown hK hP q0 (am_cw_get hq) hcl b' hbn hlk hsame (by rw [List.getElem?_map, hfx]; rfl) hd (hk.2 H locs ls cells slots ⟨hP, hS, hL⟩ hcells hslots)
  next => cases hf
set_option maxHeartbeats 1000000 in
theorem am_s_putf {E : am_I} (hc : am_ctx p s m args meth c b0 b cI cB dC dI cc own mnm nL n0 scr) (hroom : 1 ≤ R.frames ∧ 100 ≤ R.locals) (hrep : am_rep b0 b cI cB dC dI s nL H locs ls L h) (hcells : cells + n0 = h.length) (hslots : slots + z0 = am_szs h) {i : Nat} {nx tg a b' w : Nat} {v : Int32} {lv : Int64} {sw : List (Int32 × Nat)} (hE : E = (.putfield i, nx, tg, a, b', w, v, lv, sw)) (hok : am_ok1 mt own mnm cc nL ret pc E = true)
    (hk : am_K (am_step scr E L st h) (am_cont p l e R s m args below meth c Q b0 b cI cB dC dI nL n0 z0) Kr Kc) : W p l e R s m args below meth c H locs cells slots Q (F0 m pc ls (st.map (am_cv b0 b))) := by
  subst hE
  obtain ⟨hd0, hok⟩ := am_and hok
  have hd0 := of_decide_eq_true hd0
  obtain ⟨hx, hb, hml, hown, hts, hK, hmn, hb0, hsc⟩ := hc
  obtain ⟨hP, hS, hL⟩ := hrep
  obtain ⟨hok, hmd⟩ := am_and hok
  obtain ⟨hl, hf⟩ := am_and hok
  obtain ⟨e9, hd⟩ := am_dec hd0 hl
  subst e9
  obtain ⟨v0, r, rfl, hk0⟩ := am_v1_inv hk
  obtain ⟨q0, r, rfl, hk1⟩ := am_r1_inv hk0
  obtain ⟨ci, fs, hq, hk2⟩ := am_ob_inv hk1
  obtain ⟨hci, hk3⟩ := am_bb_inv hk2
  cases am_beq hci
  have hk := hk3
  obtain ⟨hbl, hk⟩ := am_bb_inv hk
  have hbl := Nat.blt_eq.mp hbl
  unfold am_fld at hf
  split at hf
  next q hcl =>
    simp only [Bool.and_eq_true, decide_eq_true_eq] at hf
    obtain ⟨⟨hbn, hw⟩, hsm⟩ := hf
    have hbn := Nat.blt_eq.mp hbn
    obtain ⟨g1, g2, g3, -⟩ := am_cls _ _ hcl
    obtain ⟨C, T, N⟩ := q
    dsimp only at hsm hbn hw g1 g2 g3
    have hlk := am_hts hts hw rfl
    have hsame : ∀ x, s.fieldFound? (T b').1 (T b').2.1 (T b').2.2.1 = some x → s.fieldFound? C (T b').2.1 (T b').2.2.1 = some x := fun x hx => by rw [← hsm]; exact hx
    have hfin0 : am_fin a b' = (T b').2.2.2 := by simp only [am_fin, hcl]
    have hown0 : am_own own a = decide (C = own) := by simp only [am_own, hcl]
    have hlen : b' < (fs.map (am_cv b0 b)).length := by simpa using hbl
    match tg, hmd, hk with
    | 0, hmd, hk =>
      simp only [Bool.and_eq_true, decide_eq_true_eq, Bool.not_eq_true', hfin0] at hmd
      obtain ⟨y, rfl, hk⟩ := am_vi_inv hk
      have hk : am_cont p l e R s m args below meth c Q b0 b cI cB dC dI nL n0 z0 (_, L, r, h.set q0 (.inr (a, fs.set b' (.int y)))) := hk
      exact va_put hx hb hts g3 (am_ty a) g1 g2 hown hK hP (am_cw_D h) hS q0 (am_cw_get hq) hcl b' hbn hlk hsame hmd.2 (g1 b' hbn) (by rw [hmd.1]; rfl) (by rw [hmd.1]; rfl) hlen hd (fun H1 locs1 hP1 hD1 hS1 => hk.2 H1 locs1 ls cells slots ⟨by rw [am_cw_set, Nat.zero_add]; simpa [am_ce, List.map_set, am_cv] using hP1, hS1, hL⟩ (by simpa using hcells) (hslots.trans (am_szs_setF hq).symm))
    | 1, hmd, hk =>
      simp only [Bool.and_eq_true, decide_eq_true_eq, Bool.not_eq_true', hfin0] at hmd
      obtain ⟨y, rfl, hk⟩ := am_vi_inv hk
      have hk : (y = 0 ∨ y = 1) ∧ am_cont p l e R s m args below meth c Q b0 b cI cB dC dI nL n0 z0 (_, L, r, h.set q0 (.inr (a, fs.set b' (.int y)))) := hk
      exact va_put hx hb hts g3 (am_ty a) g1 g2 hown hK hP (am_cw_D h) hS q0 (am_cw_get hq) hcl b' hbn hlk hsame hmd.2 (g1 b' hbn) (by rw [hmd.1]; rcases hk.1 with rfl | rfl <;> rfl) (by rw [hmd.1]; rcases hk.1 with rfl | rfl <;> rfl) hlen hd (fun H1 locs1 hP1 hD1 hS1 => hk.2.2 H1 locs1 ls cells slots ⟨by rw [am_cw_set, Nat.zero_add]; simpa [am_ce, List.map_set, am_cv] using hP1, hS1, hL⟩ (by simpa using hcells) (hslots.trans (am_szs_setF hq).symm))
    | t + 2, hmd, hk =>
      simp only [Bool.and_eq_true, decide_eq_true_eq, hfin0, hown0] at hmd
      obtain ⟨⟨⟨h1, h2⟩, h3⟩, h4⟩ := hmd
      obtain ⟨y, rfl, hk⟩ := am_vr_inv hk
      have hk : am_cont p l e R s m args below meth c Q b0 b cI cB dC dI nL n0 z0 (_, L, r, h.set q0 (.inr (a, fs.set b' (.ref y)))) := hk
      exact va_putF hx hb hts g3 (am_ty a) g1 g2 hown hK hP (am_cw_D h) hS q0 (am_cw_get hq) hcl b' hbn hlk hsame h1 ((hmn h3).trans h3) (hsm.trans h2) (g1 b' hbn) (by revert h4; cases am_ty a b' <;> simp [narrow, am_cv]) (by revert h4; cases am_ty a b' <;> simp [fits, am_cv]) hlen hd (fun H1 locs1 hP1 hD1 hS1 => hk.2 H1 locs1 ls cells slots ⟨by rw [am_cw_set, Nat.zero_add]; simpa [am_ce, List.map_set, am_cv] using hP1, hS1, hL⟩ (by simpa using hcells) (hslots.trans (am_szs_setF hq).symm))
  next => cases hf
set_option maxHeartbeats 1000000 in
theorem am_s_iald {E : am_I} (hc : am_ctx p s m args meth c b0 b cI cB dC dI cc own mnm nL n0 scr) (hroom : 1 ≤ R.frames ∧ 100 ≤ R.locals) (hrep : am_rep b0 b cI cB dC dI s nL H locs ls L h) (hcells : cells + n0 = h.length) (hslots : slots + z0 = am_szs h)  {nx tg a b' w : Nat} {v : Int32} {lv : Int64} {sw : List (Int32 × Nat)} (hE : E = (.iaload, nx, tg, a, b', w, v, lv, sw)) (hok : am_ok1 mt own mnm cc nL ret pc E = true)
    (hk : am_K (am_step scr E L st h) (am_cont p l e R s m args below meth c Q b0 b cI cB dC dI nL n0 z0) Kr Kc) : W p l e R s m args below meth c H locs cells slots Q (F0 m pc ls (st.map (am_cv b0 b))) := by
  subst hE
  obtain ⟨hd0, hok⟩ := am_and hok
  have hd0 := of_decide_eq_true hd0
  obtain ⟨hx, hb, hml, hown, hts, hK, hmn, hb0, hsc⟩ := hc
  obtain ⟨hP, hS, hL⟩ := hrep
  obtain ⟨e9, hd⟩ := am_dec hd0 hok
  subst e9
  obtain ⟨i, r, rfl, hk⟩ := am_i1_inv hk
  obtain ⟨v0, r, rfl, hk⟩ := am_v1_inv hk
  rcases am_il_inv hk with ⟨q, n, g, rfl, hq, h1, hk⟩ | ⟨x, n, g, rfl, hs, h1, hk⟩
  · exact va_iald hx hb hK hP q 0 (am_cw_get hq) rfl h1 hd (hk.2 H locs ls cells slots ⟨hP, hS, hL⟩ hcells hslots)
  · obtain ⟨hX, hlt⟩ := hsc _ _ hs
    exact va_sld hx hb hX (by omega) (Nat.not_le.mpr hlt) hS h1 hd (hk.2 H locs ls cells slots ⟨hP, hS, hL⟩ hcells hslots)
set_option maxHeartbeats 1000000 in
theorem am_s_bald {E : am_I} (hc : am_ctx p s m args meth c b0 b cI cB dC dI cc own mnm nL n0 scr) (hroom : 1 ≤ R.frames ∧ 100 ≤ R.locals) (hrep : am_rep b0 b cI cB dC dI s nL H locs ls L h) (hcells : cells + n0 = h.length) (hslots : slots + z0 = am_szs h)  {nx tg a b' w : Nat} {v : Int32} {lv : Int64} {sw : List (Int32 × Nat)} (hE : E = (.baload, nx, tg, a, b', w, v, lv, sw)) (hok : am_ok1 mt own mnm cc nL ret pc E = true)
    (hk : am_K (am_step scr E L st h) (am_cont p l e R s m args below meth c Q b0 b cI cB dC dI nL n0 z0) Kr Kc) : W p l e R s m args below meth c H locs cells slots Q (F0 m pc ls (st.map (am_cv b0 b))) := by
  subst hE
  obtain ⟨hd0, hok⟩ := am_and hok
  have hd0 := of_decide_eq_true hd0
  obtain ⟨hx, hb, hml, hown, hts, hK, hmn, hb0, hsc⟩ := hc
  obtain ⟨hP, hS, hL⟩ := hrep
  obtain ⟨e9, hd⟩ := am_dec hd0 hok
  subst e9
  obtain ⟨i, r, rfl, hk⟩ := am_i1_inv hk
  obtain ⟨q, r, rfl, hk⟩ := am_r1_inv hk
  obtain ⟨n, g, hq, hk⟩ := am_ar_inv hk
  have hk : vp_in i n ∧ am_cont p l e R s m args below meth c Q b0 b cI cB dC dI nL n0 z0 (_, L, .int (g i.toNatClampNeg) :: r, h) := hk
  exact va_zald hx hb hK hP q 1 (am_cw_get hq) rfl hk.1 hd (hk.2.2 H locs ls cells slots ⟨hP, hS, hL⟩ hcells hslots)
set_option maxHeartbeats 1000000 in
theorem am_s_iast {E : am_I} (hc : am_ctx p s m args meth c b0 b cI cB dC dI cc own mnm nL n0 scr) (hroom : 1 ≤ R.frames ∧ 100 ≤ R.locals) (hrep : am_rep b0 b cI cB dC dI s nL H locs ls L h) (hcells : cells + n0 = h.length) (hslots : slots + z0 = am_szs h)  {nx tg a b' w : Nat} {v : Int32} {lv : Int64} {sw : List (Int32 × Nat)} (hE : E = (.iastore, nx, tg, a, b', w, v, lv, sw)) (hok : am_ok1 mt own mnm cc nL ret pc E = true)
    (hk : am_K (am_step scr E L st h) (am_cont p l e R s m args below meth c Q b0 b cI cB dC dI nL n0 z0) Kr Kc) : W p l e R s m args below meth c H locs cells slots Q (F0 m pc ls (st.map (am_cv b0 b))) := by
  subst hE
  obtain ⟨hd0, hok⟩ := am_and hok
  have hd0 := of_decide_eq_true hd0
  obtain ⟨hx, hb, hml, hown, hts, hK, hmn, hb0, hsc⟩ := hc
  obtain ⟨hP, hS, hL⟩ := hrep
  obtain ⟨e9, hd⟩ := am_dec hd0 hok
  subst e9
  obtain ⟨i, x, r, rfl, hk⟩ := am_i2_inv hk
  obtain ⟨q0, r, rfl, hk⟩ := am_r1_inv hk
  obtain ⟨n, g, hq, hk⟩ := am_ar_inv hk
  have hk : vp_in i n ∧ am_cont p l e R s m args below meth c Q b0 b cI cB dC dI nL n0 z0 (_, L, r, h.set q0 (.inl (false, n, upd g i.toNatClampNeg x))) := hk
  exact va_iast hx hb hK hP (am_cw_D h) hS q0 0 (am_cw_get hq) rfl hk.1 hd (fun H1 locs1 hP1 hD1 hS1 => hk.2.2 H1 locs1 ls cells slots ⟨by rw [am_cw_set, Nat.zero_add]; simpa [am_ce, List.map_set, am_cv] using hP1, hS1, hL⟩ (by simpa using hcells) (hslots.trans (am_szs_setA hq).symm))
set_option maxHeartbeats 1000000 in
theorem am_s_bast {E : am_I} (hc : am_ctx p s m args meth c b0 b cI cB dC dI cc own mnm nL n0 scr) (hroom : 1 ≤ R.frames ∧ 100 ≤ R.locals) (hrep : am_rep b0 b cI cB dC dI s nL H locs ls L h) (hcells : cells + n0 = h.length) (hslots : slots + z0 = am_szs h)  {nx tg a b' w : Nat} {v : Int32} {lv : Int64} {sw : List (Int32 × Nat)} (hE : E = (.bastore, nx, tg, a, b', w, v, lv, sw)) (hok : am_ok1 mt own mnm cc nL ret pc E = true)
    (hk : am_K (am_step scr E L st h) (am_cont p l e R s m args below meth c Q b0 b cI cB dC dI nL n0 z0) Kr Kc) : W p l e R s m args below meth c H locs cells slots Q (F0 m pc ls (st.map (am_cv b0 b))) := by
  subst hE
  obtain ⟨hd0, hok⟩ := am_and hok
  have hd0 := of_decide_eq_true hd0
  obtain ⟨hx, hb, hml, hown, hts, hK, hmn, hb0, hsc⟩ := hc
  obtain ⟨hP, hS, hL⟩ := hrep
  obtain ⟨e9, hd⟩ := am_dec hd0 hok
  subst e9
  obtain ⟨i, x, r, rfl, hk⟩ := am_i2_inv hk
  obtain ⟨q0, r, rfl, hk⟩ := am_r1_inv hk
  obtain ⟨n, g, hq, hk⟩ := am_ar_inv hk
  have hk : vp_in i n ∧ am_cont p l e R s m args below meth c Q b0 b cI cB dC dI nL n0 z0 (_, L, r, h.set q0 (.inl (true, n, upd g i.toNatClampNeg (vp_nar .boolean x)))) := hk
  exact va_zast hx hb hK hP (am_cw_D h) hS q0 1 (am_cw_get hq) rfl hk.1 hd (fun H1 locs1 hP1 hD1 hS1 => hk.2.2 H1 locs1 ls cells slots ⟨by rw [am_cw_set, Nat.zero_add]; simpa [am_ce, List.map_set, am_cv] using hP1, hS1, hL⟩ (by simpa using hcells) (hslots.trans (am_szs_setA hq).symm))
set_option maxHeartbeats 1000000 in
theorem am_s_alen {E : am_I} (hc : am_ctx p s m args meth c b0 b cI cB dC dI cc own mnm nL n0 scr) (hroom : 1 ≤ R.frames ∧ 100 ≤ R.locals) (hrep : am_rep b0 b cI cB dC dI s nL H locs ls L h) (hcells : cells + n0 = h.length) (hslots : slots + z0 = am_szs h)  {nx tg a b' w : Nat} {v : Int32} {lv : Int64} {sw : List (Int32 × Nat)} (hE : E = (.arraylength, nx, tg, a, b', w, v, lv, sw)) (hok : am_ok1 mt own mnm cc nL ret pc E = true)
    (hk : am_K (am_step scr E L st h) (am_cont p l e R s m args below meth c Q b0 b cI cB dC dI nL n0 z0) Kr Kc) : W p l e R s m args below meth c H locs cells slots Q (F0 m pc ls (st.map (am_cv b0 b))) := by
  subst hE
  obtain ⟨hd0, hok⟩ := am_and hok
  have hd0 := of_decide_eq_true hd0
  obtain ⟨hx, hb, hml, hown, hts, hK, hmn, hb0, hsc⟩ := hc
  obtain ⟨hP, hS, hL⟩ := hrep
  obtain ⟨e9, hd⟩ := am_dec hd0 hok
  subst e9
  obtain ⟨v0, r, rfl, hk⟩ := am_v1_inv hk
  obtain ⟨x, n, g, rfl, hs, hk⟩ := am_sc_inv hk
  have hk : am_cont p l e R s m args below meth c Q b0 b cI cB dC dI nL n0 z0 (_, L, .int (Int32.ofNat n) :: r, h) := hk
  obtain ⟨hX, hlt⟩ := hsc _ _ hs
  exact va_slen hx hb hX (by omega) (Nat.not_le.mpr hlt) hS hd (hk.2 H locs ls cells slots ⟨hP, hS, hL⟩ hcells hslots)
set_option maxHeartbeats 1000000 in
theorem am_s_new {E : am_I} (hc : am_ctx p s m args meth c b0 b cI cB dC dI cc own mnm nL n0 scr) (hroom : 1 ≤ R.frames ∧ 100 ≤ R.locals) (hrep : am_rep b0 b cI cB dC dI s nL H locs ls L h) (hcells : cells + n0 = h.length) (hslots : slots + z0 = am_szs h) {i : Nat} {nx tg a b' w : Nat} {v : Int32} {lv : Int64} {sw : List (Int32 × Nat)} (hE : E = (.new i, nx, tg, a, b', w, v, lv, sw)) (hok : am_ok1 mt own mnm cc nL ret pc E = true)
    (hk : am_K (am_step scr E L st h) (am_cont p l e R s m args below meth c Q b0 b cI cB dC dI nL n0 z0) Kr Kc) : W p l e R s m args below meth c H locs cells slots Q (F0 m pc ls (st.map (am_cv b0 b))) := by
  subst hE
  obtain ⟨hd0, hok⟩ := am_and hok
  have hd0 := of_decide_eq_true hd0
  obtain ⟨hx, hb, hml, hown, hts, hK, hmn, hb0, hsc⟩ := hc
  obtain ⟨hP, hS, hL⟩ := hrep
  obtain ⟨hl, hf⟩ := am_and hok
  obtain ⟨e9, hd⟩ := am_dec hd0 hl
  subst e9
  split at hf
  next q hcl =>
    have hw := am_hts hts (of_decide_eq_true hf) rfl
    obtain ⟨g1, g2, g3, g4, g5, g6, g7⟩ := am_cls _ _ hcl
    obtain ⟨C, T, N⟩ := q
    dsimp only at hw g1 g2 g3 g4 g5 g6 g7
    have hk : am_cont p l e R s m args below meth c Q b0 b cI cB dC dI nL n0 z0 (_, L, .ref h.length :: st, h ++ [.inr (a, am_blank a)]) := hk
    have hroom2 := hk.1
    simp only [List.length_append, List.length_cons, List.length_nil, am_szs_push, am_sz, g7] at hroom2
    refine am_W_size hb0 hcells hP hS (fun hZ => ?_)
    have hKn := hK.1 a _ hcl
    refine W.newcK hx hb hown hw (hts _ g4) (hts _ g5) rfl hd (by omega) (by omega) hKn.2.1 rfl fun H1 kC hkC e1 z1 o1 => ?_
    have hkeep : ∀ (k : Nat) (x : Nat × va_E), (am_cw b0 b cI cB 0 h)[k]? = some x → H1[x.1]? = H[x.1]? := fun k x hx => o1 x.1 ((hP k x hx).lt)
    have hb9 := u_born (o := H.size) (H := H1) (am_ty a) hts g3 hKn hkC e1 g1
    have hP1 : va_P (dC, dI) vwCl (am_cw b0 b cI cB 0 (h ++ [.inr (a, am_blank a)])) H1 := by
      rw [am_cw_push]
      refine va_P.app (hP.kept hkeep) (fun k q hq => ?_)
      match k, hq with
      | 0, hq =>
        cases hq
        rw [Nat.zero_add, ← hZ]
        refine ⟨_, hcl, t_OB.to hb9 (fun j hj => ?_)⟩
        show defaultValue (am_ty a j) = vp_V ((am_blank a).map (am_cv b0 b)) j
        rw [g6 j hj]
        exact am_blank_map a j
      | k + 1, hq => simp at hq
    have hS1 : va_S (fun q => b0 ≤ q) s.heap H1 locs := ⟨by rw [z1]; exact Nat.le_succ_of_le hS.1, fun q h1 h2 => (o1 q (Nat.lt_of_lt_of_le h1 hS.1)).trans (hS.2.1 q h1 h2), hS.2.2⟩
    have := hk.2 H1 locs ls (cells + 1) (slots + N) ⟨hP1, hS1, hL⟩ (by simp; omega) (by rw [am_szs_push]; simp only [am_sz, g7]; omega)
    rw [hZ]
    exact this
  next => cases hf
set_option maxHeartbeats 1000000 in
theorem am_s_newa {E : am_I} (hc : am_ctx p s m args meth c b0 b cI cB dC dI cc own mnm nL n0 scr) (hroom : 1 ≤ R.frames ∧ 100 ≤ R.locals) (hrep : am_rep b0 b cI cB dC dI s nL H locs ls L h) (hcells : cells + n0 = h.length) (hslots : slots + z0 = am_szs h) {ty : ArrayType} {nx tg a b' w : Nat} {v : Int32} {lv : Int64} {sw : List (Int32 × Nat)} (hE : E = (.newarray ty, nx, tg, a, b', w, v, lv, sw)) (hok : am_ok1 mt own mnm cc nL ret pc E = true)
    (hk : am_K (am_step scr E L st h) (am_cont p l e R s m args below meth c Q b0 b cI cB dC dI nL n0 z0) Kr Kc) : W p l e R s m args below meth c H locs cells slots Q (F0 m pc ls (st.map (am_cv b0 b))) := by
  subst hE
  obtain ⟨hd0, hok⟩ := am_and hok
  have hd0 := of_decide_eq_true hd0
  obtain ⟨hx, hb, hml, hown, hts, hK, hmn, hb0, hsc⟩ := hc
  obtain ⟨hP, hS, hL⟩ := hrep
  obtain ⟨e9, hd⟩ := am_dec hd0 hok
  subst e9
  obtain ⟨n, r, rfl, hk⟩ := am_i1_inv hk
  cases ty with
  | int =>
    have hk : (n = nI b' ∧ b' ≤ 1000) ∧ am_cont p l e R s m args below meth c Q b0 b cI cB dC dI nL n0 z0 (_, L, .ref h.length :: r, h ++ [.inl (false, b', fun _ => 0)]) := hk
    obtain ⟨⟨e8, hn⟩, hk9⟩ := hk
    subst e8
    have hroom2 := hk9.1
    simp only [List.length_append, List.length_cons, List.length_nil, am_szs_push, am_sz] at hroom2
    refine am_W_size hb0 hcells hP hS (fun hZ => ?_)
    refine va_newaK hx hb (am_hts hts (i := 118) (by decide +kernel) rfl) rfl hd rfl (nI_pos (by omega)) (nI_clamp (by omega)) (Nat.le_trans (Nat.mul_le_mul hn (show componentBytes (newarray.typeOf .int) ≤ 8 by decide)) (by decide)) (by omega) (by omega) rfl fun H1 cA e1 z1 o1 hAr hNm => ?_
    have hkeep : ∀ (k : Nat) (x : Nat × va_E), (am_cw b0 b cI cB 0 h)[k]? = some x → H1[x.1]? = H[x.1]? := fun k x hx => o1 x.1 ((hP k x hx).lt)
    have hcA : cA = cI := by
      have h9 : s.vm.findClass _ = some cI := (hK.2 0 _ rfl).2
      exact Option.some.inj (hNm.symm.trans h9)
    have hP1 : va_P (dC, dI) vwCl (am_cw b0 b cI cB 0 (h ++ [.inl (false, b', fun _ => 0)])) H1 := by
      rw [am_cw_push]
      refine va_P.app (hP.kept hkeep) (fun k q hq => ?_)
      match k, hq with
      | 0, hq =>
        cases hq
        rw [Nat.zero_add, ← hZ]
        subst hcA
        exact e1
      | k + 1, hq => simp at hq
    have hS1 : va_S (fun q => b0 ≤ q) s.heap H1 locs := ⟨by rw [z1]; exact Nat.le_succ_of_le hS.1, fun q h1 h2 => (o1 q (Nat.lt_of_lt_of_le h1 hS.1)).trans (hS.2.1 q h1 h2), hS.2.2⟩
    have := hk9.2 H1 locs ls (cells + 1) (slots + b') ⟨hP1, hS1, hL⟩ (by simp; omega) (by rw [am_szs_push]; simp only [am_sz]; omega)
    rw [hZ]
    exact this
  | boolean =>
    have hk : (n = nI b' ∧ b' ≤ 1000) ∧ am_cont p l e R s m args below meth c Q b0 b cI cB dC dI nL n0 z0 (_, L, .ref h.length :: r, h ++ [.inl (true, b', fun _ => 0)]) := hk
    obtain ⟨⟨e8, hn⟩, hk9⟩ := hk
    subst e8
    have hroom2 := hk9.1
    simp only [List.length_append, List.length_cons, List.length_nil, am_szs_push, am_sz] at hroom2
    refine am_W_size hb0 hcells hP hS (fun hZ => ?_)
    refine va_newaK hx hb (am_hts hts (i := 957) (by decide +kernel) rfl) rfl hd rfl (nI_pos (by omega)) (nI_clamp (by omega)) (Nat.le_trans (Nat.mul_le_mul hn (show componentBytes (newarray.typeOf .boolean) ≤ 8 by decide)) (by decide)) (by omega) (by omega) rfl fun H1 cA e1 z1 o1 hAr hNm => ?_
    have hkeep : ∀ (k : Nat) (x : Nat × va_E), (am_cw b0 b cI cB 0 h)[k]? = some x → H1[x.1]? = H[x.1]? := fun k x hx => o1 x.1 ((hP k x hx).lt)
    have hcA : cA = cB := by
      have h9 : s.vm.findClass _ = some cB := (hK.2 1 _ rfl).2
      exact Option.some.inj (hNm.symm.trans h9)
    have hP1 : va_P (dC, dI) vwCl (am_cw b0 b cI cB 0 (h ++ [.inl (true, b', fun _ => 0)])) H1 := by
      rw [am_cw_push]
      refine va_P.app (hP.kept hkeep) (fun k q hq => ?_)
      match k, hq with
      | 0, hq =>
        cases hq
        rw [Nat.zero_add, ← hZ]
        subst hcA
        exact e1
      | k + 1, hq => simp at hq
    have hS1 : va_S (fun q => b0 ≤ q) s.heap H1 locs := ⟨by rw [z1]; exact Nat.le_succ_of_le hS.1, fun q h1 h2 => (o1 q (Nat.lt_of_lt_of_le h1 hS.1)).trans (hS.2.1 q h1 h2), hS.2.2⟩
    have := hk9.2 H1 locs ls (cells + 1) (slots + b') ⟨hP1, hS1, hL⟩ (by simp; omega) (by rw [am_szs_push]; simp only [am_sz]; omega)
    rw [hZ]
    exact this
  | _ => exact hk.elim
end

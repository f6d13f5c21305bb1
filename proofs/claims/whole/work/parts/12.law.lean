/-! the law, out of its run on my machine -/
theorem am_arr {s : State} {args : Array Value} {ty : FieldType} (hp : ∀ C, ty ≠ .object C) (h : (Jvm.Cond.arrayClass ty).before args s = true) : ∃ cA : ClassId, ArrOfT s cA ty ∧ va_RA s cA ty := by
  obtain ⟨cA, kA, comp, h1, h2, h3⟩ := Cond.arrayClass_spec h
  refine ⟨cA, fun n z => ⟨fun k h => (by cases h), kA, h2, comp, h3⟩, ?_⟩
  cases ty with
  | object C => exact absurd rfl (hp C)
  | _ => exact h1
/-- what is asked of the law's run: for every script it ends with 1, in the claim's room -/
def am_good (L : Nat) (xs : Nat → Int32) : Prop := ∃ (n : Nat) (h' : am_H), am_run (some (L, xs)) (am_ev 40) am_t_law n (0, [some (.retAddr 0), none, none, none], [], []) (some (.int 1)) h' ∧ h'.length ≤ 600000 ∧ am_szs h' ≤ 7302250
set_option maxHeartbeats 4000000 in
theorem am_whole {p : Program} {e : Env} {s : State} {m : MethodId} {below : List Frame} {meth : Method} {c : Code} (l : Launch) {b L : Nat} {xs : Nat → Int32} (hG : am_good L xs) (hx : p.tables.exec = Jvm.exec) (hb : c.code = code) (hml : c.maxLocals = 4) (hown : s.vm.findClass "HoarseHillLaw" = some m.cls) (hts0 : ∀ w ∈ lw_tbl, w.before #[Value.ref b] s = true) (hX : va_X b L xs s s.heap) (hbl : b < s.heap.size) {Q : State → Prop}
    (hret : ∀ (pc : Nat) (H : Heap) (ls : Array Slot), decode code pc = .ok (.ireturn, 1) → W p l e room_1 s m #[Value.ref b] below meth c H [] 600000 7302250 Q (F0 m pc ls [.int 1])) : W p l e room_1 s m #[Value.ref b] below meth c s.heap [] 0 0 Q (entryFrame m ([Value.ref b] : List Value).toArray 4) := by
  obtain ⟨n, h', hr, hn1, hn2⟩ := hG
  have hts : ∀ w ∈ am_ws, w.before #[Value.ref b] s = true := fun w hw => hts0 w (List.mem_filter.mp hw).1
  obtain ⟨cI, hI⟩ := am_arr (s := s) (ty := .int) (fun C h => by cases h) (hts (.arrayClass .int) (by decide +kernel))
  obtain ⟨cB, hB⟩ := am_arr (s := s) (ty := .boolean) (fun C h => by cases h) (hts (.arrayClass .boolean) (by decide +kernel))
  have hkn : ∀ (ci : Nat) (q : vw_C), vwCl[ci]? = some q → ∃ (cC : ClassId) (iS : Nat → Nat), u_Kn s q.1 q.2.1 q.2.2 cC iS := by
    intro ci q hq
    obtain ⟨-, -, g3, g4, -⟩ := am_cls ci q hq
    exact u_known hts g3 (hts _ g4)
  have hkn2 : ∀ ci : Nat, ∃ (cC : ClassId) (iS : Nat → Nat), ∀ q : vw_C, vwCl[ci]? = some q → u_Kn s q.1 q.2.1 q.2.2 cC iS := by
    intro ci
    cases hq : vwCl[ci]? with
    | none => exact ⟨0, fun _ => 0, fun q h => by cases h⟩
    | some q =>
      obtain ⟨cC, iS, h⟩ := hkn ci q hq
      exact ⟨cC, iS, fun q' h' => by cases h'; exact h⟩
  have hK : va_K (fun ci => Classical.choose (hkn2 ci), fun ci => Classical.choose (Classical.choose_spec (hkn2 ci))) vwCl [(cI, .int), (cB, .boolean)] s := by
    refine ⟨fun ci q hq => Classical.choose_spec (Classical.choose_spec (hkn2 ci)) q hq, fun k q hk => ?_⟩
    match k, hk with
    | 0, hk => cases hk; exact hI
    | 1, hk => cases hk; exact hB
    | k + 2, hk => simp at hk
  rw [lg_entry_eq]
  have hlh : am_lh s.heap.size b ((lg_sl [Value.ref b] ++ List.replicate (4 - (lg_sl [Value.ref b]).length) Slot.unset).toArray) 4 [some (.retAddr 0), none, none, none] := by
    have h1 := lv_entry [Value.ref b] (n := 4) (Nat.le_of_ble_eq_true rfl)
    refine ⟨h1.1, h1.2.1, rfl, fun i v hi => ?_⟩
    match i, hi with
    | 0, hi => cases hi; rfl
    | 1, hi => cases hi
    | 2, hi => cases hi
    | 3, hi => cases hi
    | i + 4, hi => simp at hi
  refine (am_run_sound (b0 := s.heap.size) (b := b) (cI := cI) (cB := cB) (n0 := 0) (z0 := 0) (d := 40) (own := "HoarseHillLaw") (mnm := "law") (cc := code) (nL := 4) (ret := some .boolean) (scr := some (L, xs))
    ⟨hx, hb, hml, hown, hts, hK, fun h => absurd h (by decide), rfl, fun n0 xs0 h0 => by cases h0; exact ⟨hX, hbl⟩⟩
    ⟨by decide, by decide⟩ (fun j as h w h1 hj => am_ev_met 40 j as h w h1 hj) am_q_law ⟨hn1, hn2⟩ ?_ n _ hr).2 s.heap [] _ 0 0 ⟨fun k q hq => by simp [am_cw] at hq, va_S.rf, hlh⟩ rfl rfl
  intro pc H locs ls cells slots L1 hrep hcells hslots hrt
  rcases hrt with ⟨x, hx1, hd, -⟩ | ⟨q, C, hx1, -⟩ | ⟨hx1, -⟩
  · cases hx1
    refine va_forget (fun q hq => hrep.2.1.2.2 q hq) ?_
    refine W.widen (k := 600000) (n := 7302250) (by omega) (by omega) ?_
    exact hret pc H ls hd
  · cases hx1
  · cases hx1

/-! what my machine's values, cells, locals are in the heap: cell i lies at b0 + i; the script at b -/
def am_cv (b0 b : Nat) : Value → Value
  | .ref i => .ref (b0 + i)
  | .retAddr _ => .ref b
  | v => v
def am_ce (b0 b : Nat) (cI cB : ClassId) : am_C → va_E
  | .inl (z, n, f) => .inl ((if z = true then cB else cI), n, .inl f)
  | .inr (ci, fs) => .inr (ci, fs.map (am_cv b0 b))
def am_cw (b0 b : Nat) (cI cB : ClassId) : Nat → am_H → va_W
  | _, [] => []
  | k, e :: h => (b0 + k, am_ce b0 b cI cB e) :: am_cw b0 b cI cB (k + 1) h
theorem am_cw_at {b0 b : Nat} {cI cB : ClassId} : ∀ (h : am_H) (k i : Nat), (am_cw b0 b cI cB k h)[i]? = (h[i]?).map (fun e => (b0 + (k + i), am_ce b0 b cI cB e))
  | [], k, i => by simp [am_cw]
  | e :: h, k, 0 => by simp [am_cw]
  | e :: h, k, i + 1 => by
    simp only [am_cw, List.getElem?_cons_succ]
    rw [am_cw_at h (k + 1) i, show k + 1 + i = k + (i + 1) by omega]
theorem am_cw_get {b0 b : Nat} {cI cB : ClassId} {h : am_H} {i : Nat} {e : am_C} (he : h[i]? = some e) : (am_cw b0 b cI cB 0 h)[i]? = some (b0 + i, am_ce b0 b cI cB e) := by
  rw [am_cw_at, he]; simp
theorem am_cw_set {b0 b : Nat} {cI cB : ClassId} {e : am_C} : ∀ (h : am_H) (k i : Nat), am_cw b0 b cI cB k (h.set i e) = (am_cw b0 b cI cB k h).set i (b0 + (k + i), am_ce b0 b cI cB e)
  | [], k, i => by simp [am_cw]
  | x :: h, k, 0 => by simp [am_cw]
  | x :: h, k, i + 1 => by
    simp only [am_cw, List.set_cons_succ]
    rw [am_cw_set h (k + 1) i, show k + 1 + i = k + (i + 1) by omega]
theorem am_cw_push {b0 b : Nat} {cI cB : ClassId} {e : am_C} : ∀ (h : am_H) (k : Nat), am_cw b0 b cI cB k (h ++ [e]) = am_cw b0 b cI cB k h ++ [(b0 + (k + h.length), am_ce b0 b cI cB e)]
  | [], k => by simp [am_cw]
  | x :: h, k => by
    simp only [am_cw, List.cons_append, List.length_cons]
    rw [am_cw_push h (k + 1), show k + 1 + h.length = k + (h.length + 1) by omega]
theorem am_cw_D {b0 b : Nat} {cI cB : ClassId} (h : am_H) : va_D (fun q => b0 ≤ q) (am_cw b0 b cI cB 0 h) := by
  have key : ∀ (i : Nat) (q : Nat × va_E), (am_cw b0 b cI cB 0 h)[i]? = some q → q.1 = b0 + i := by
    intro i q hq
    rw [am_cw_at] at hq
    cases he : h[i]? with
    | none => rw [he] at hq; cases hq
    | some e => rw [he] at hq; cases hq; simp
  refine ⟨fun i j p q hp hq hpq => ?_, fun k q hq => ?_⟩
  · have h1 := key i p hp
    have h2 := key j q hq
    omega
  · show b0 ≤ q.1
    rw [key k q hq]
    omega
def am_sz : am_C → Nat
  | .inl (_, n, _) => n
  | .inr (_, fs) => fs.length
def am_szs : am_H → Nat
  | [] => 0
  | e :: h => am_sz e + am_szs h
theorem am_szs_push (e : am_C) : ∀ h : am_H, am_szs (h ++ [e]) = am_szs h + am_sz e
  | [] => by simp [am_szs]
  | x :: h => by simp only [List.cons_append, am_szs, am_szs_push e h]; omega
theorem am_szs_set {e e0 : am_C} (hz : am_sz e = am_sz e0) : ∀ (h : am_H) (i : Nat), h[i]? = some e0 → am_szs (h.set i e) = am_szs h
  | [], i, h => by simp at h
  | x :: h, 0, hq => by
    simp at hq
    subst hq
    simp only [List.set_cons_zero, am_szs, hz]
  | x :: h, i + 1, hq => by
    rw [List.getElem?_cons_succ] at hq
    simp only [List.set_cons_succ, am_szs, am_szs_set hz h i hq]
def am_lh (b0 b : Nat) (ls : Array Slot) (nL : Nat) (L : am_L) : Prop := ls.size = nL ∧ lv_wf ls ∧ L.length = nL ∧ ∀ (i : Nat) (v : Value), L[i]? = some (some v) → ls[i]? = some (.val (am_cv b0 b v))
def am_ll (b0 b : Nat) : Nat → am_L → List (Nat × Value)
  | _, [] => []
  | k, none :: L => am_ll b0 b (k + 1) L
  | k, some v :: L => (k, am_cv b0 b v) :: am_ll b0 b (k + 1) L
theorem am_ll_in {b0 b : Nat} : ∀ (L : am_L) (k : Nat) (q : Nat × Value), q ∈ am_ll b0 b k L → ∃ (i : Nat) (v : Value), L[i]? = some (some v) ∧ q = (k + i, am_cv b0 b v)
  | [], k, q, h => by cases h
  | none :: L, k, q, h => by
    obtain ⟨i, v, h1, h2⟩ := am_ll_in L (k + 1) q h
    exact ⟨i + 1, v, by rw [List.getElem?_cons_succ]; exact h1, by rw [h2, show k + 1 + i = k + (i + 1) by omega]⟩
  | some w :: L, k, q, h => by
    rcases List.mem_cons.mp h with rfl | h
    · exact ⟨0, w, rfl, rfl⟩
    · obtain ⟨i, v, h1, h2⟩ := am_ll_in L (k + 1) q h
      exact ⟨i + 1, v, by rw [List.getElem?_cons_succ]; exact h1, by rw [h2, show k + 1 + i = k + (i + 1) by omega]⟩
theorem am_ll_of {b0 b : Nat} : ∀ (L : am_L) (k i : Nat) (v : Value), L[i]? = some (some v) → (k + i, am_cv b0 b v) ∈ am_ll b0 b k L
  | [], k, i, v, h => by simp at h
  | none :: L, k, 0, v, h => by simp at h
  | none :: L, k, i + 1, v, h => by
    rw [List.getElem?_cons_succ] at h
    rw [show k + (i + 1) = k + 1 + i by omega]
    exact am_ll_of L (k + 1) i v h
  | some w :: L, k, 0, v, h => by
    simp at h
    subst h
    exact List.mem_cons_self
  | some w :: L, k, i + 1, v, h => by
    rw [List.getElem?_cons_succ] at h
    rw [show k + (i + 1) = k + 1 + i by omega]
    exact List.mem_cons_of_mem _ (am_ll_of L (k + 1) i v h)
theorem am_lh_has {b0 b : Nat} {ls : Array Slot} {nL : Nat} {L : am_L} (h : am_lh b0 b ls nL L) : lv_has ls nL (am_ll b0 b 0 L) := by
  refine ⟨h.1, h.2.1, fun q hq => ?_⟩
  obtain ⟨i, v, h1, rfl⟩ := am_ll_in L 0 q hq
  rw [Nat.zero_add]
  exact h.2.2.2 i v h1
theorem am_cv_cat (b0 b : Nat) (v : Value) : (am_cv b0 b v).category = v.category := by cases v <;> rfl
theorem am_cats_eq (b0 b : Nat) : ∀ st : List Value, ((st.map (am_cv b0 b)).map fun v => v.category).sum = am_cats st
  | [] => rfl
  | v :: st => by
    simp only [List.map_cons, List.sum_cons, am_cats, am_cv_cat, am_cats_eq b0 b st]
theorem am_two_of {o : Option (Option Value)} (h : am_two o = false) (v : Value) (hv : o = some (some v)) : ¬ v.category = 2 := by
  subst hv
  cases v <;> simp [am_two, Value.category] at h ⊢
/-- the locals behind a store of one slot -/
theorem am_lh_st1 {b0 b : Nat} {ls ls' : Array Slot} {nL i : Nat} {L L' : am_L} {x : Value} (h : am_lh b0 b ls nL L) (hs : am_st1 L i x = some L') (h' : lv_has ls' nL ((i, am_cv b0 b x) :: (am_ll b0 b 0 L).filter (fun q => !(q.1 == i) && !(q.1 + 1 == i && q.2.category == 2)))) : am_lh b0 b ls' nL L' := by
  have key : L' = L.set i (some x) ∧ i < L.length ∧ ∀ j, i = j + 1 → am_two L[j]? = false := by
    unfold am_st1 at hs
    split at hs
    next hb =>
      have hlt : i < L.length := Nat.blt_eq.mp hb
      split at hs
      next => cases hs; exact ⟨rfl, hlt, fun j hj => by omega⟩
      next j =>
        split at hs
        next => cases hs
        next h2 => cases hs; exact ⟨rfl, hlt, fun j' hj => by cases hj; exact h2⟩
    next => cases hs
  obtain ⟨rfl, hlt, htwo⟩ := key
  refine ⟨h'.1, h'.2.1, by simpa using h.2.2.1, fun k v hk => ?_⟩
  by_cases hki : k = i
  · subst hki
    rw [List.getElem?_set_self hlt] at hk
    cases hk
    exact h'.2.2 (k, am_cv b0 b x) List.mem_cons_self
  · rw [List.getElem?_set_ne (fun z => hki z.symm)] at hk
    refine h'.2.2 (k, am_cv b0 b v) (List.mem_cons_of_mem _ (List.mem_filter.mpr ⟨?_, ?_⟩))
    · have := am_ll_of (b0 := b0) (b := b) L 0 k v hk
      rwa [Nat.zero_add] at this
    · simp only [am_cv_cat, Bool.and_eq_true, Bool.not_eq_true', beq_eq_false_iff_ne, Bool.and_eq_false_iff, ne_eq]
      refine ⟨hki, ?_⟩
      by_cases h1 : k + 1 = i
      · exact Or.inr (by simpa using am_two_of (htwo k h1.symm) v hk)
      · exact Or.inl h1
theorem am_lh_st2 {b0 b : Nat} {ls ls' : Array Slot} {nL i : Nat} {L L' : am_L} {x : Value} (h : am_lh b0 b ls nL L) (hs : am_st2 L i x = some L') (h' : lv_has ls' nL ((i, am_cv b0 b x) :: (am_ll b0 b 0 L).filter (fun q => !(q.1 == i) && (!(q.1 == i + 1) && !(q.1 + 1 == i && q.2.category == 2))))) : am_lh b0 b ls' nL L' := by
  have key : L' = (L.set i (some x)).set (i + 1) none ∧ i + 1 < L.length ∧ ∀ j, i = j + 1 → am_two L[j]? = false := by
    unfold am_st2 at hs
    split at hs
    next hb =>
      have hlt : i + 1 < L.length := Nat.blt_eq.mp hb
      split at hs
      next => cases hs; exact ⟨rfl, hlt, fun j hj => by omega⟩
      next j =>
        split at hs
        next => cases hs
        next h2 => cases hs; exact ⟨rfl, hlt, fun j' hj => by cases hj; exact h2⟩
    next => cases hs
  obtain ⟨rfl, hlt, htwo⟩ := key
  refine ⟨h'.1, h'.2.1, by simpa using h.2.2.1, fun k v hk => ?_⟩
  by_cases hk1 : k = i + 1
  · subst hk1
    rw [List.getElem?_set_self (by simpa using hlt)] at hk
    cases hk
  rw [List.getElem?_set_ne (fun z => hk1 z.symm)] at hk
  by_cases hki : k = i
  · subst hki
    rw [List.getElem?_set_self (by omega)] at hk
    cases hk
    exact h'.2.2 (k, am_cv b0 b x) List.mem_cons_self
  · rw [List.getElem?_set_ne (fun z => hki z.symm)] at hk
    refine h'.2.2 (k, am_cv b0 b v) (List.mem_cons_of_mem _ (List.mem_filter.mpr ⟨?_, ?_⟩))
    · have := am_ll_of (b0 := b0) (b := b) L 0 k v hk
      rwa [Nat.zero_add] at this
    · simp only [am_cv_cat, Bool.and_eq_true, Bool.not_eq_true', beq_eq_false_iff_ne, Bool.and_eq_false_iff, ne_eq]
      refine ⟨hki, hk1, ?_⟩
      by_cases h1 : k + 1 = i
      · exact Or.inr (by simpa using am_two_of (htwo k h1.symm) v hk)
      · exact Or.inl h1
theorem am_st1_lt {L L' : am_L} {i : Nat} {x : Value} (hs : am_st1 L i x = some L') : i < L.length := by
  unfold am_st1 at hs
  split at hs
  next hb => exact Nat.blt_eq.mp hb
  next => cases hs
theorem am_st2_lt {L L' : am_L} {i : Nat} {x : Value} (hs : am_st2 L i x = some L') : i + 1 < L.length := by
  unfold am_st2 at hs
  split at hs
  next hb => exact Nat.blt_eq.mp hb
  next => cases hs
theorem am_pop_eq : ∀ (n : Nat) (acc st as r : List Value), am_pop n acc st = some (as, r) → ∃ xs : List Value, xs.length = n ∧ as = xs ++ acc ∧ st = xs.reverse ++ r
  | 0, acc, st, as, r, h => by cases h; exact ⟨[], rfl, rfl, rfl⟩
  | n + 1, acc, [], as, r, h => by cases h
  | n + 1, acc, v :: st, as, r, h => by
    obtain ⟨xs, h1, h2, h3⟩ := am_pop_eq n (v :: acc) st as r h
    exact ⟨xs ++ [v], by simp [h1], by simp [h2], by simp [h3]⟩

/-! runs, by rules: straight stretches are computed, branches, checks, calls and answers by a rule each -/
def rn_out (scr : Option (Nat × (Nat → Int32))) (t : am_T) (f : am_F) : am_R := match f with
  | (pc, L, st, h) => (match am_fetch t pc with
    | some E => am_step scr E L st h
    | none => am_no)
def rn_S (scr : Option (Nat × (Nat → Int32))) (t : am_T) : Nat → am_F → Option am_F
  | 0, f => some f
  | n + 1, f => (match rn_out scr t f with
    | .inl g => rn_S scr t n g
    | .inr _ => some f)
def rn (scr : Option (Nat × (Nat → Int32))) (d : Nat) (t : am_T) (f : am_F) (v : Option Value) (h' : am_H) : Prop := ∃ n, am_run scr (am_ev d) t n f v h'
section
variable {scr : Option (Nat × (Nat → Int32))} {d : Nat} {t : am_T} {f : am_F} {v : Option Value} {h' : am_H}
theorem rn_K {f : am_F} {K : am_F → Prop} {Kr : Prop → Option Value → Prop} {Kc : Nat → List Value → am_F → Prop} (n : Nat) (h1 : ∀ g, K g → am_run scr (am_ev d) t n g v h') (h2 : ∀ c w, Kr c w → c ∧ v = w ∧ h' = f.2.2.2) (h3 : ∀ j as g, Kc j as g → ∃ (w : Option Value) (h1 : am_H), am_ev d j as f.2.2.2 w h1 ∧ am_run scr (am_ev d) t n (g.1, g.2.1, w.toList ++ g.2.2.1, h1) v h') (hk : am_K (rn_out scr t f) K Kr Kc) : am_run scr (am_ev d) t (n + 1) f v h' := by
  obtain ⟨pc, L, st, h⟩ := f
  unfold am_run
  unfold rn_out at hk
  simp only at hk ⊢
  split at hk
  next E hE => rw [hE]; exact am_K_map hk h1 h2 h3
  next => exact hk.elim
theorem rn_one {f g : am_F} (h : rn_out scr t f = .inl g) (hr : rn scr d t g v h') : rn scr d t f v h' := by
  obtain ⟨n, hr⟩ := hr
  exact ⟨n + 1, rn_K (K := fun x => x = g) (Kr := fun _ _ => False) (Kc := fun _ _ _ => False) n (fun x hx => by rw [hx]; exact hr) (fun _ _ h => h.elim) (fun _ _ _ h => h.elim) (by rw [h]; rfl)⟩
/-- a straight stretch -/
theorem rn_go : ∀ (n : Nat) {f g : am_F}, rn_S scr t n f = some g → rn scr d t g v h' → rn scr d t f v h'
  | 0, f, g, h, hr => by cases h; exact hr
  | n + 1, f, g, h, hr => by
    unfold rn_S at h
    cases hg : rn_out scr t f with
    | inl x =>
      rw [hg] at h
      exact rn_one hg (rn_go n h hr)
    | inr o =>
      rw [hg] at h
      cases h
      exact hr
variable {pc0 : Nat} {L0 : am_L} {st0 : List Value} {h0 : am_H}
/-- a branch -/
theorem rn_br {c : Prop} {x y : am_F} (hg : rn_out scr t f = .inr (.inl (c, x, y))) (h1 : c → rn scr d t x v h') (h2 : ¬ c → rn scr d t y v h') : rn scr d t f v h' := by
  by_cases hc : c
  · obtain ⟨k, hr⟩ := h1 hc
    exact ⟨k + 1, rn_K (K := fun z => z = x) (Kr := fun _ _ => False) (Kc := fun _ _ _ => False) k (fun z hz => by rw [hz]; exact hr) (fun _ _ h => h.elim) (fun _ _ _ h => h.elim) (by rw [hg]; exact ⟨fun _ => rfl, fun h => absurd hc h⟩)⟩
  · obtain ⟨k, hr⟩ := h2 hc
    exact ⟨k + 1, rn_K (K := fun z => z = y) (Kr := fun _ _ => False) (Kc := fun _ _ _ => False) k (fun z hz => by rw [hz]; exact hr) (fun _ _ h => h.elim) (fun _ _ _ h => h.elim) (by rw [hg]; exact ⟨fun h => absurd h hc, fun _ => rfl⟩)⟩
/-- a check -/
theorem rn_ck {c : Prop} {x : am_F} (hg : rn_out scr t f = .inr (.inr (.inl (c, x)))) (hc : c) (hr : rn scr d t x v h') : rn scr d t f v h' := by
  obtain ⟨k, hr⟩ := hr
  exact ⟨k + 1, rn_K (K := fun z => z = x) (Kr := fun _ _ => False) (Kc := fun _ _ _ => False) k (fun z hz => by rw [hz]; exact hr) (fun _ _ h => h.elim) (fun _ _ _ h => h.elim) (by rw [hg]; exact ⟨hc, rfl⟩)⟩
/-- an int is read out of an array, at a place known by its number -/
theorem rn_ld {i : Int32} {N pc : Nat} {L : am_L} {st : List Value} {h : am_H} {g : Nat → Int32} (k : Nat) (hg : rn_out scr t f = .inr (.inr (.inl (vp_in i N, (pc, L, .int (am_rd g i) :: st, h))))) (hi : i = nI k) (hk : k < N) (hN : N < 1000000) (hr : rn scr d t (pc, L, .int (g k) :: st, h) v h') : rn scr d t f v h' := by
  subst hi
  refine rn_ck hg (vp_in_nI hk (by omega)) ?_
  have e : am_rd g (nI k) = g k := by unfold am_rd; rw [nI_clamp (by omega)]
  rw [e]
  exact hr
/-- an int is written into an array, at a place known by its number -/
theorem rn_st {i x : Int32} {N q pc : Nat} {L : am_L} {st : List Value} {h : am_H} {z : Bool} {g : Nat → Int32} (k : Nat) (hg : rn_out scr t f = .inr (.inr (.inl (vp_in i N, (pc, L, st, h.set q (.inl (z, N, am_wr g i x))))))) (hi : i = nI k) (hk : k < N) (hN : N < 1000000) (hr : rn scr d t (pc, L, st, h.set q (.inl (z, N, upd g k x))) v h') : rn scr d t f v h' := by
  subst hi
  refine rn_ck hg (vp_in_nI hk (by omega)) ?_
  have e : am_wr g (nI k) x = upd g k x := by unfold am_wr; rw [nI_clamp (by omega)]
  rw [e]
  exact hr
/-- a call -/
theorem rn_cl {j pc : Nat} {as : List Value} {L : am_L} {st : List Value} {w : Option Value} {hx h1 : am_H} (hg : rn_out scr t (pc0, L0, st0, h0) = .inr (.inr (.inr (.inr (.inl (j, as, (pc, L, st, hx))))))) (he : am_ev d j as h0 w h1) (hr : rn scr d t (pc, L, w.toList ++ st, h1) v h') : rn scr d t (pc0, L0, st0, h0) v h' := by
  obtain ⟨k, hr⟩ := hr
  exact ⟨k + 1, rn_K (K := fun _ => False) (Kr := fun _ _ => False) (Kc := fun a b z => a = j ∧ b = as ∧ z = (pc, L, st, hx)) k (fun _ h => h.elim) (fun _ _ h => h.elim) (fun a b z hz => by obtain ⟨rfl, rfl, rfl⟩ := hz; exact ⟨w, h1, he, hr⟩) (by rw [hg]; exact ⟨rfl, rfl, rfl⟩)⟩
/-- an answer -/
theorem rn_rt {c : Prop} {w : Option Value} (hg : rn_out scr t (pc0, L0, st0, h0) = .inr (.inr (.inr (.inl (c, w))))) (hc : c) (hv : v = w) (hh : h' = h0) : rn scr d t (pc0, L0, st0, h0) v h' := by
  exact ⟨1, rn_K (K := fun _ => False) (Kr := fun a b => a = c ∧ b = w) (Kc := fun _ _ _ => False) 0 (fun _ h => h.elim) (fun a b hz => by obtain ⟨rfl, rfl⟩ := hz; exact ⟨hc, hv, hh⟩) (fun _ _ _ h => h.elim) (by rw [hg]; exact ⟨rfl, rfl⟩)⟩
end
/-- a method, out of a run of its table -/
theorem rn_ev {d j : Nat} {as : List Value} {h : am_H} {v : Option Value} {h' : am_H} (M : am_M) (hM : am_ms[j]? = some M) (he : (am_ent M.2.2.1 as).length = M.2.2.1) (hr : rn none d M.2.2.2.2.2.2.2.2.2.2 (0, am_ent M.2.2.1 as, [], h) v h') : am_ev (d + 1) j as h v h' := by
  obtain ⟨n, hr⟩ := hr
  exact ⟨M, n, hM, he, hr⟩
theorem rn_mono {scr : Option (Nat × (Nat → Int32))} {C C' : Nat → List Value → am_H → Option Value → am_H → Prop} (hC : ∀ j as h w h1, C j as h w h1 → C' j as h w h1) {t : am_T} {v : Option Value} {h' : am_H} : ∀ (n : Nat) (f : am_F), am_run scr C t n f v h' → am_run scr C' t n f v h'
  | 0, f, hr => by cases hr
  | n + 1, f, hr => by
    unfold am_run at hr ⊢
    split at hr
    next => cases hr
    next E hE => exact am_K_map hr (fun g hg => rn_mono hC n g hg) (fun c w hw => hw) (fun j as g hg => by obtain ⟨w, h1, h2, h3⟩ := hg; exact ⟨w, h1, hC _ _ _ _ _ h2, rn_mono hC n _ h3⟩)
theorem ev_up1 : ∀ (d j : Nat) (as : List Value) (h : am_H) (v : Option Value) (h' : am_H), am_ev d j as h v h' → am_ev (d + 1) j as h v h'
  | 0, _, _, _, _, _, hv => by cases hv
  | d + 1, j, as, h, v, h', hv => by
    obtain ⟨M, n, hM, he, hr⟩ := hv
    exact ⟨M, n, hM, he, rn_mono (ev_up1 d) n _ hr⟩
theorem ev_up {d e : Nat} (hde : d ≤ e) {j : Nat} {as : List Value} {h : am_H} {v : Option Value} {h' : am_H} (hv : am_ev d j as h v h') : am_ev e j as h v h' := by
  obtain ⟨k, rfl⟩ := Nat.exists_eq_add_of_le hde
  induction k with
  | zero => exact hv
  | succ k ih => exact ev_up1 (d + k) j as h v h' (ih (Nat.le_add_right _ _))
/-- a straight stretch, up to the place q -/
def rn_T (scr : Option (Nat × (Nat → Int32))) (t : am_T) (q : Nat) : Nat → am_F → Option am_F
  | 0, _ => none
  | n + 1, f => (match rn_out scr t f with
    | .inl g => (match Nat.beq g.1 q with
      | true => some g
      | false => rn_T scr t q n g)
    | .inr _ => none)
theorem rn_to {scr : Option (Nat × (Nat → Int32))} {d : Nat} {t : am_T} {v : Option Value} {h' : am_H} (q : Nat) : ∀ (n : Nat) {f g : am_F}, rn_T scr t q n f = some g → rn scr d t g v h' → rn scr d t f v h'
  | 0, f, g, h, hr => by cases h
  | n + 1, f, g, h, hr => by
    unfold rn_T at h
    cases hg : rn_out scr t f with
    | inl x =>
      rw [hg] at h
      simp only at h
      split at h
      · cases h; exact rn_one hg hr
      · exact rn_one hg (rn_to q n h hr)
    | inr o =>
      rw [hg] at h
      cases h
/-- the cells, said otherwise -/
theorem rn_hp {scr : Option (Nat × (Nat → Int32))} {d : Nat} {t : am_T} {v : Option Value} {h' : am_H} {pc : Nat} {L : am_L} {st : List Value} {h h1 : am_H} (e : h = h1) (hr : rn scr d t (pc, L, st, h1) v h') : rn scr d t (pc, L, st, h) v h' := by
  rw [e]; exact hr
theorem rn_of_le {scr : Option (Nat × (Nat → Int32))} {d e : Nat} {t : am_T} {f : am_F} {v : Option Value} {h' : am_H} (hde : d ≤ e) (hr : rn scr d t f v h') : rn scr e t f v h' := by
  obtain ⟨n, hr⟩ := hr
  exact ⟨n, rn_mono (fun j as h w h1 hv => ev_up hde hv) n f hr⟩

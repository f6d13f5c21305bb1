/-! the best plan of days: the reference -/
set_option maxRecDepth 10000 in
theorem m3_7 {A : Nat → Nat → Int32} {s b r s' : Nat → Int32} : tu (tu (tu (tu A 7 s) 8 b) 0 r) 7 s' = tu (tu (tu A 7 s') 8 b) 0 r := by
  rw [tu_cm (show 0 ≠ 7 by decide), tu_cm (show 8 ≠ 7 by decide), tu_tu]
set_option maxRecDepth 10000 in
theorem m3_8 {A : Nat → Nat → Int32} {s b r b' : Nat → Int32} : tu (tu (tu (tu A 7 s) 8 b) 0 r) 8 b' = tu (tu (tu A 7 s) 8 b') 0 r := by
  rw [tu_cm (show 0 ≠ 8 by decide), tu_tu]
set_option maxRecDepth 10000 in
theorem q3_7 {A : Nat → Nat → Int32} {s b r : Nat → Int32} : tu (tu (tu A 7 s) 8 b) 0 r 7 = s := by
  rw [tu_n (by decide), tu_n (by decide), tu_s]
set_option maxRecDepth 10000 in
theorem q3_8 {A : Nat → Nat → Int32} {s b r : Nat → Int32} : tu (tu (tu A 7 s) 8 b) 0 r 8 = b := by
  rw [tu_n (by decide), tu_s]
def PM (g gm : Nat → Int32) (T A Am : Nat → Nat → Int32) (n mo nd dy0 k : Nat) : Prop := ∀ (d c : Nat) (x p r s b : Nat → Int32) (z : Nat × (Nat → Int32)) (o4 o5 o6 : Option Value), d + k = nd → okX x n mo (dy0 + d) → Eqv n mo (upd x 4 (nI c)) (tv r (567 + 21 * d)) → s d + 1 = nI 0 → (∀ i, i < d → s i = p i) → Rb nd b z → z.1 ≤ 5 → c ≤ d → ∃ (r' s' b' : Nat → Int32) (o4' o5' o6' : Option Value), (∀ i, i < 567 + 21 * (d + 1) → r' i = r i) ∧ (∀ i, i < d → s' i = s i) ∧ Rb nd b' (vis n mo nd k (dy0 + d) x c p z) ∧ ∀ v hh, rn none 9 am_t_X9_mostCarried (24, [some (.ref 43), some (.int (nI nd)), some (.int (mI (vis n mo nd k (dy0 + d) x c p z).1)), some (.int (nI d + (-1))), o4', o5', o6'], [], wd g T A gm (tu (tu (tu Am 7 s') 8 b') 0 r')) v hh → rn none 9 am_t_X9_mostCarried (24, [some (.ref 43), some (.int (nI nd)), some (.int (mI z.1)), some (.int (nI d)), o4, o5, o6], [], wd g T A gm (tu (tu (tu Am 7 s) 8 b) 0 r)) v hh
section
variable {g gm : Nat → Int32} {T A Am : Nat → Nat → Int32} {n mo nd dy0 : Nat}
set_option maxRecDepth 10000 in
theorem xm_bsL {r s b : Nat → Int32} (hnd : nd ≤ 4) (M day o4 o5 : Int32) : ∀ q i, i + q = nd → ∀ v hh, rn none 9 am_t_X9_mostCarried (157, [some (.ref 43), some (.int (nI nd)), some (.int M), some (.int day), some (.int o4), some (.int o5), some (.int (nI nd))], [], wd g T A gm (tu (tu (tu Am 7 s) 8 (fl b s nd)) 0 r)) v hh → rn none 9 am_t_X9_mostCarried (131, [some (.ref 43), some (.int (nI nd)), some (.int M), some (.int day), some (.int o4), some (.int o5), some (.int (nI i))], [], wd g T A gm (tu (tu (tu Am 7 s) 8 (fl b s i)) 0 r)) v hh
  | 0, i, hi, v, hh, hend => by
    have hin : i = nd := by omega
    subst hin
    refine rn_go 80 (by with_unfolding_all rfl) ?_
    refine rn_br (by with_unfolding_all rfl) (fun _ => ?_) (fun c_ => absurd (Int32.le_refl _) c_)
    with_unfolding_all exact hend
  | q + 1, i, hi, v, hh, hend => by
    have ih := xm_bsL hnd M day o4 o5 q (i + 1) (by omega) v hh hend
    rw [← nI_1, ← fl_s] at ih
    refine rn_go 80 (by with_unfolding_all rfl) ?_
    refine rn_br (by with_unfolding_all rfl) (fun c_ => absurd c_ (nI_ge (show i < nd by omega) (by omega))) (fun _ => ?_)
    refine rn_go 80 (by with_unfolding_all rfl) ?_
    refine rn_ld (i) (by with_unfolding_all rfl) rfl (by omega) (by decide) ?_
    rw [q3_7]
    refine rn_go 80 (by with_unfolding_all rfl) ?_
    refine rn_st (i) (by with_unfolding_all rfl) rfl (by omega) (by decide) ?_
    refine rn_hp (by with_unfolding_all exact (wM_8)) ?_
    rw [q3_8, m3_8]
    refine rn_to 131 80 (by with_unfolding_all rfl) ?_
    with_unfolding_all exact ih
set_option maxRecDepth 10000 in
theorem xm_leaf (hnd : nd ≤ 4) : PM g gm T A Am n mo nd dy0 0 := by
  intro d c x p r s b z o4 o5 o6 hd hX he hs hp hR hz5 hc
  have hdn : d = nd := by omega
  subst hdn
  have hr4 : r (567 + 21 * d + 4) = nI c := by
    have := he.1 4 (by decide)
    rw [up_eq] at this
    exact this.symm
  have e1 : nI c + nI d - nI d = nI c := by rw [nI_add, pk_sub (by omega), Nat.add_sub_cancel]
  by_cases hq : c + 1 ≤ z.1
  · have ev : vis n mo d 0 (dy0 + d) x c p z = z := by unfold vis; rw [if_pos hq]
    rw [ev]
    refine ⟨r, s, b, some (.int 1), some (.int 16), o6, fun _ _ => rfl, fun _ _ => rfl, hR, fun v hh hend => ?_⟩
    refine rn_go 80 (by with_unfolding_all rfl) ?_
    refine rn_br (by with_unfolding_all rfl) (fun c_ => absurd c_ (nI_pos (by omega))) (fun _ => ?_)
    refine rn_go 80 (by with_unfolding_all rfl) ?_
    refine rn_ld (567 + 21 * d + 4) (by with_unfolding_all rfl) (by rw [show (567 : Int32) = nI 567 from rfl, show (21 : Int32) = nI 21 from rfl, show (4 : Int32) = nI 4 from rfl, pk_mul, nI_add, nI_add]) (by omega) (by decide) ?_
    rw [tu_s, hr4]
    refine rn_go 80 (by with_unfolding_all rfl) ?_
    refine rn_br (by with_unfolding_all rfl) (fun c_ => absurd c_ ((by rw [e1]; exact fun q => (mI_lt (by omega) (by omega)).mp q hq))) (fun _ => ?_)
    refine rn_go 80 (by with_unfolding_all rfl) ?_
    refine rn_br (by with_unfolding_all rfl) (fun _ => ?_) (fun c_ => absurd (rfl) c_)
    refine rn_go 80 (by with_unfolding_all rfl) ?_
    refine rn_br (by with_unfolding_all rfl) (fun _ => ?_) (fun c_ => absurd (rfl) c_)
    refine rn_go 80 (by with_unfolding_all rfl) ?_
    refine rn_ld (567 + 21 * d + 4) (by with_unfolding_all rfl) (by rw [show (567 : Int32) = nI 567 from rfl, show (21 : Int32) = nI 21 from rfl, show (4 : Int32) = nI 4 from rfl, pk_mul, nI_add, nI_add]) (by omega) (by decide) ?_
    rw [tu_s, hr4]
    refine rn_go 80 (by with_unfolding_all rfl) ?_
    refine rn_br (by with_unfolding_all rfl) (fun _ => ?_) (fun c_ => absurd ((mI_le (by omega) (by omega)).mpr hq) c_)
    refine rn_go 80 (by with_unfolding_all rfl) ?_
    refine rn_br (by with_unfolding_all rfl) (fun _ => ?_) (fun c_ => absurd (rfl) c_)
    refine rn_to 24 80 (by with_unfolding_all rfl) ?_
    with_unfolding_all exact hend
  · have ev : vis n mo d 0 (dy0 + d) x c p z = (c + 1, p) := by unfold vis; rw [if_neg hq]
    rw [ev]
    refine ⟨r, s, fl b s d, some (.int 0), some (.int 16), some (.int (nI d)), fun _ _ => rfl, fun _ _ => rfl, Or.inr (fun i hi => by unfold fl; rw [if_pos hi]; exact hp i hi), fun v hh hend => ?_⟩
    rw [show mI ((c + 1, p) : Nat × (Nat → Int32)).1 = nI c from mI_s c] at hend
    have hbs := xm_bsL (g := g) (gm := gm) (T := T) (A := A) (Am := Am) (r := r) (s := s) (b := b) hnd (nI c) (nI d) 0 16 d 0 (by omega)
    rw [fl_0] at hbs
    refine rn_go 80 (by with_unfolding_all rfl) ?_
    refine rn_br (by with_unfolding_all rfl) (fun c_ => absurd c_ (nI_pos (by omega))) (fun _ => ?_)
    refine rn_go 80 (by with_unfolding_all rfl) ?_
    refine rn_ld (567 + 21 * d + 4) (by with_unfolding_all rfl) (by rw [show (567 : Int32) = nI 567 from rfl, show (21 : Int32) = nI 21 from rfl, show (4 : Int32) = nI 4 from rfl, pk_mul, nI_add, nI_add]) (by omega) (by decide) ?_
    rw [tu_s, hr4]
    refine rn_go 80 (by with_unfolding_all rfl) ?_
    refine rn_br (by with_unfolding_all rfl) (fun _ => ?_) (fun c_ => absurd ((by rw [e1]; exact (mI_lt (by omega) (by omega)).mpr hq)) c_)
    refine rn_go 80 (by with_unfolding_all rfl) ?_
    refine rn_br (by with_unfolding_all rfl) (fun _ => ?_) (fun c_ => absurd (rfl) c_)
    refine rn_go 80 (by with_unfolding_all rfl) ?_
    refine rn_br (by with_unfolding_all rfl) (fun _ => ?_) (fun c_ => absurd (rfl) c_)
    refine rn_go 80 (by with_unfolding_all rfl) ?_
    refine rn_ld (567 + 21 * d + 4) (by with_unfolding_all rfl) (by rw [show (567 : Int32) = nI 567 from rfl, show (21 : Int32) = nI 21 from rfl, show (4 : Int32) = nI 4 from rfl, pk_mul, nI_add, nI_add]) (by omega) (by decide) ?_
    rw [tu_s, hr4]
    refine rn_go 80 (by with_unfolding_all rfl) ?_
    refine rn_br (by with_unfolding_all rfl) (fun c_ => absurd c_ ((fun q => hq ((mI_le (by omega) (by omega)).mp q)))) (fun _ => ?_)
    refine rn_go 80 (by with_unfolding_all rfl) ?_
    refine rn_ld (567 + 21 * d + 4) (by with_unfolding_all rfl) (by rw [show (567 : Int32) = nI 567 from rfl, show (21 : Int32) = nI 21 from rfl, show (4 : Int32) = nI 4 from rfl, pk_mul, nI_add, nI_add]) (by omega) (by decide) ?_
    rw [tu_s, hr4]
    refine rn_to 131 80 (by with_unfolding_all rfl) ?_
    refine hbs _ _ ?_
    refine rn_go 80 (by with_unfolding_all rfl) ?_
    refine rn_br (by with_unfolding_all rfl) (fun _ => ?_) (fun c_ => absurd (rfl) c_)
    refine rn_to 24 80 (by with_unfolding_all rfl) ?_
    with_unfolding_all exact hend
set_option maxRecDepth 10000 in
theorem xm_nextL {d dyy : Nat} {x r : Nat → Int32} (hd : d ≤ 3) (he : Eqv n mo x (tv r (567 + 21 * d))) (hX : okX x n mo dyy) (fm : Int32) : ∀ q j, j + q = 16 → ∃ j', j ≤ j' ∧ j' ≤ 16 ∧ (∀ i, j ≤ i → i < j' → ¬ nI i &&& (ta x n ^^^ -1) = 0) ∧ (j' = 16 ∨ nI j' &&& (ta x n ^^^ -1) = 0) ∧ rn none 3 am_t_X9_nextSet (2, [some (.ref 43), some (.int (nI d)), some (.int fm), some (.int (nI j))], [], wd g T A gm (tu Am 0 r)) (some (.int (nI j'))) (wd g T A gm (tu Am 0 r))
  | 0, j, hj => by
    have hin : j = 16 := by omega
    subst hin
    refine ⟨16, by omega, by omega, fun i h1 h2 => absurd h2 (by omega), Or.inl rfl, ?_⟩
    refine rn_go 80 (by with_unfolding_all rfl) ?_
    refine rn_br (by with_unfolding_all rfl) (fun _ => ?_) (fun c_ => absurd ((by decide)) c_)
    refine rn_go 80 (by with_unfolding_all rfl) ?_
    exact rn_rt (by with_unfolding_all rfl) trivial rfl rfl
  | q + 1, j, hj => by
    have eB : (567 : Int32) + 21 * nI d = nI (567 + 21 * d) := by rw [show (567 : Int32) = nI 567 from rfl, show (21 : Int32) = nI 21 from rfl, pk_mul, nI_add]
    by_cases c1 : nI j &&& (ta x n ^^^ -1) = 0
    · refine ⟨j, by omega, by omega, fun i h1 h2 => absurd h2 (by omega), Or.inr c1, ?_⟩
      refine rn_go 80 (by with_unfolding_all rfl) ?_
      refine rn_br (by with_unfolding_all rfl) (fun c_ => absurd c_ ((show ¬ nI 16 ≤ nI j from nI_ge (by omega) (by omega)))) (fun _ => ?_)
      refine rn_go 80 (by with_unfolding_all rfl) ?_
      rw [eB]
      refine rn_cl (by with_unfolding_all rfl) (ev_up (by decide) (xx_can (by omega) he hX)) ?_
      refine rn_go 80 (by with_unfolding_all rfl) ?_
      refine rn_br (by with_unfolding_all rfl) (fun _ => ?_) (fun c_ => absurd (c1) c_)
      refine rn_go 80 (by with_unfolding_all rfl) ?_
      exact rn_rt (by with_unfolding_all rfl) trivial rfl rfl
    · obtain ⟨j', h1, h2, h3, h4, ih⟩ := xm_nextL hd he hX fm q (j + 1) (by omega)
      rw [← nI_1] at ih
      refine ⟨j', by omega, h2, fun i hi1 hi2 => ?_, h4, ?_⟩
      · by_cases e : i = j
        · rw [e]; exact c1
        · exact h3 i (by omega) hi2
      refine rn_go 80 (by with_unfolding_all rfl) ?_
      refine rn_br (by with_unfolding_all rfl) (fun c_ => absurd c_ ((show ¬ nI 16 ≤ nI j from nI_ge (by omega) (by omega)))) (fun _ => ?_)
      refine rn_go 80 (by with_unfolding_all rfl) ?_
      rw [eB]
      refine rn_cl (by with_unfolding_all rfl) (ev_up (by decide) (xx_can (by omega) he hX)) ?_
      refine rn_go 80 (by with_unfolding_all rfl) ?_
      refine rn_br (by with_unfolding_all rfl) (fun c_ => absurd c_ (c1)) (fun _ => ?_)
      refine rn_to 2 80 (by with_unfolding_all rfl) ?_
      with_unfolding_all exact ih
set_option maxRecDepth 10000 in
theorem xm_next {d dyy j : Nat} {x r : Nat → Int32} (hd : d ≤ 3) (hj : j ≤ 16) (he : Eqv n mo x (tv r (567 + 21 * d))) (hX : okX x n mo dyy) : ∃ j', j ≤ j' ∧ j' ≤ 16 ∧ (∀ i, j ≤ i → i < j' → ¬ nI i &&& (ta x n ^^^ -1) = 0) ∧ (j' = 16 ∨ nI j' &&& (ta x n ^^^ -1) = 0) ∧ am_ev 4 192 [.ref 43, .int (nI d), .int (nI j)] (wd g T A gm (tu Am 0 r)) (some (.int (nI j'))) (wd g T A gm (tu Am 0 r)) := by
  obtain ⟨j', h1, h2, h3, h4, ih⟩ := xm_nextL (g := g) (gm := gm) (T := T) (A := A) (Am := Am) hd he hX (nI j) (16 - j) j (by omega)
  refine ⟨j', h1, h2, h3, h4, ?_⟩
  refine rn_ev am_m_X9_nextSet rfl rfl ?_
  refine rn_to 2 80 (by with_unfolding_all rfl) ?_
  with_unfolding_all exact ih
set_option maxRecDepth 10000 in
theorem xm_inner {k d c : Nat} {x p : Nat → Int32} (hnd : nd ≤ 4) (hdy : dy0 ≤ 999) (hP : PM g gm T A Am n mo nd dy0 k) (hdk : d + (k + 1) = nd) (hX : okX x n mo (dy0 + d)) (hc : c ≤ d) : ∀ F q j, q ≤ F → j + q = 16 → ∀ (r s b : Nat → Int32) (z : Nat × (Nat → Int32)) (o4 o5 o6 : Option Value), Eqv n mo (upd x 4 (nI c)) (tv r (567 + 21 * d)) → s d + 1 = nI j → (∀ i, i < d → s i = p i) → Rb nd b z → z.1 ≤ 5 → ∃ (r' s' b' : Nat → Int32) (o4' o5' o6' : Option Value), (∀ i, i < 567 + 21 * (d + 1) → r' i = r i) ∧ (∀ i, i < d → s' i = s i) ∧ Rb nd b' (fr (vf n mo nd k (dy0 + d) x c p) q j z) ∧ ∀ v hh, rn none 9 am_t_X9_mostCarried (24, [some (.ref 43), some (.int (nI nd)), some (.int (mI (fr (vf n mo nd k (dy0 + d) x c p) q j z).1)), some (.int (nI d + (-1))), o4', o5', o6'], [], wd g T A gm (tu (tu (tu Am 7 s') 8 b') 0 r')) v hh → rn none 9 am_t_X9_mostCarried (24, [some (.ref 43), some (.int (nI nd)), some (.int (mI z.1)), some (.int (nI d)), o4, o5, o6], [], wd g T A gm (tu (tu (tu Am 7 s) 8 b) 0 r)) v hh
  | F, q, j, hF, hj, r, s, b, z, o4, o5, o6, he, hs, hp, hR, hz5 => by
    have h4 := hX.2.2.1
    have m4 := hX.2.2.2.2.2.1
    have hr4 : r (567 + 21 * d + 4) = nI c := by
      have := he.1 4 (by decide)
      rw [up_eq] at this
      exact this.symm
    have e1 : nI c + nI nd - nI d = nI (c + (k + 1)) := by rw [nI_add, pk_sub (by omega), show c + nd - d = c + (k + 1) by omega]
    have hne : ¬ nI d = nI nd := fun q => absurd ((nI_eq (by omega) (by omega)).mp q) (by omega)
    by_cases hq : c + (k + 1) + 1 ≤ z.1
    · have ev : fr (vf n mo nd k (dy0 + d) x c p) q j z = z := fr_id (vf_P hq) q j
      rw [ev]
      refine ⟨r, s, b, some (.int 1), some (.int 16), o6, fun _ _ => rfl, fun _ _ => rfl, hR, fun v hh hend => ?_⟩
      refine rn_go 80 (by with_unfolding_all rfl) ?_
      refine rn_br (by with_unfolding_all rfl) (fun c_ => absurd c_ (nI_pos (by omega))) (fun _ => ?_)
      refine rn_go 80 (by with_unfolding_all rfl) ?_
      refine rn_ld (567 + 21 * d + 4) (by with_unfolding_all rfl) (by rw [show (567 : Int32) = nI 567 from rfl, show (21 : Int32) = nI 21 from rfl, show (4 : Int32) = nI 4 from rfl, pk_mul, nI_add, nI_add]) (by omega) (by decide) ?_
      rw [tu_s, hr4]
      refine rn_go 80 (by with_unfolding_all rfl) ?_
      refine rn_br (by with_unfolding_all rfl) (fun c_ => absurd c_ ((by rw [e1]; exact fun q => (mI_lt (by omega) (by omega)).mp q hq))) (fun _ => ?_)
      refine rn_go 80 (by with_unfolding_all rfl) ?_
      refine rn_br (by with_unfolding_all rfl) (fun c_ => absurd c_ (hne)) (fun _ => ?_)
      refine rn_go 80 (by with_unfolding_all rfl) ?_
      refine rn_br (by with_unfolding_all rfl) (fun c_ => absurd c_ ((by decide))) (fun _ => ?_)
      refine rn_go 80 (by with_unfolding_all rfl) ?_
      refine rn_br (by with_unfolding_all rfl) (fun c_ => absurd c_ (hne)) (fun _ => ?_)
      refine rn_go 80 (by with_unfolding_all rfl) ?_
      refine rn_br (by with_unfolding_all rfl) (fun _ => ?_) (fun c_ => absurd (rfl) c_)
      refine rn_to 24 80 (by with_unfolding_all rfl) ?_
      with_unfolding_all exact hend
    obtain ⟨j', h1, h2, h3, h5, hnext⟩ := xm_next (g := g) (gm := gm) (T := T) (A := A) (Am := tu (tu Am 7 s) 8 b) (j := j) (d := d) (by omega) (by omega) he (nz_ox hX)
    rw [ta4] at h3 h5
    have hskip : fr (vf n mo nd k (dy0 + d) x c p) q j z = fr (vf n mo nd k (dy0 + d) x c p) (16 - j') j' z := by
      have := fr_skip (f := vf n mo nd k (dy0 + d) x c p) (s := z) (j' - j) (16 - j') j (fun l hl1 hl2 => by
        unfold vf
        rw [if_neg (h3 l hl1 (by omega))])
      rw [show j' - j + (16 - j') = q by omega, show j + (j' - j) = j' by omega] at this
      exact this
    rw [hskip]
    by_cases hj16 : j' = 16
    · subst hj16
      rw [show fr (vf n mo nd k (dy0 + d) x c p) (16 - 16) 16 z = z from rfl]
      refine ⟨r, s, b, some (.int 0), some (.int (nI 16)), o6, fun _ _ => rfl, fun _ _ => rfl, hR, fun v hh hend => ?_⟩
      refine rn_go 80 (by with_unfolding_all rfl) ?_
      refine rn_br (by with_unfolding_all rfl) (fun c_ => absurd c_ (nI_pos (by omega))) (fun _ => ?_)
      refine rn_go 80 (by with_unfolding_all rfl) ?_
      refine rn_ld (567 + 21 * d + 4) (by with_unfolding_all rfl) (by rw [show (567 : Int32) = nI 567 from rfl, show (21 : Int32) = nI 21 from rfl, show (4 : Int32) = nI 4 from rfl, pk_mul, nI_add, nI_add]) (by omega) (by decide) ?_
      rw [tu_s, hr4]
      refine rn_go 80 (by with_unfolding_all rfl) ?_
      refine rn_br (by with_unfolding_all rfl) (fun _ => ?_) (fun c_ => absurd ((by rw [e1]; exact (mI_lt (by omega) (by omega)).mpr hq)) c_)
      refine rn_go 80 (by with_unfolding_all rfl) ?_
      refine rn_br (by with_unfolding_all rfl) (fun c_ => absurd c_ (hne)) (fun _ => ?_)
      refine rn_go 80 (by with_unfolding_all rfl) ?_
      refine rn_br (by with_unfolding_all rfl) (fun _ => ?_) (fun c_ => absurd (rfl) c_)
      refine rn_go 80 (by with_unfolding_all rfl) ?_
      refine rn_ld (d) (by with_unfolding_all rfl) rfl (by omega) (by decide) ?_
      rw [q3_7]
      refine rn_go 80 (by with_unfolding_all rfl) ?_
      rw [hs]
      refine rn_cl (by with_unfolding_all rfl) (ev_up (by decide) (hnext)) ?_
      refine rn_go 80 (by with_unfolding_all rfl) ?_
      refine rn_br (by with_unfolding_all rfl) (fun c_ => absurd c_ (hne)) (fun _ => ?_)
      refine rn_go 80 (by with_unfolding_all rfl) ?_
      refine rn_br (by with_unfolding_all rfl) (fun _ => ?_) (fun c_ => absurd (rfl) c_)
      refine rn_to 24 80 (by with_unfolding_all rfl) ?_
      with_unfolding_all exact hend
    have hsub := h5.resolve_left hj16
    match F, hF with
    | 0, hF => exact absurd hF (by omega)
    | F + 1, hF =>
      have eB : (567 : Int32) + 21 * nI d = nI (567 + 21 * d) := by rw [show (567 : Int32) = nI 567 from rfl, show (21 : Int32) = nI 21 from rfl, pk_mul, nI_add]
      have eB2 : nI (567 + 21 * d) + 21 = nI (567 + 21 * (d + 1)) := by rw [show (21 : Int32) = nI 21 from rfl, nI_add, Nat.mul_add, Nat.add_assoc]
      have hcopy := xm_copyTown (g := g) (T := T) (A := A) (gm := gm) (Am := tu (tu (tu Am 7 (upd s d (nI j'))) 8 b) 0 r) (a := 567 + 21 * d) (b := 567 + 21 * (d + 1)) (by omega) (by omega) (by omega)
      rw [tu_s, tu_tu] at hcopy
      have he1 : Eqv n mo (upd x 4 (nI c)) (tv (rs r (567 + 21 * (d + 1)) (tv r (567 + 21 * d))) (567 + 21 * (d + 1))) := eqv_tr he (eqv_21 h4 m4 (fun k hk => (tv_rs hk).symm))
      have hmay : sMay x n (nI j') := fun i hi hb => tb_sub h4 hsub hi hb
      have hmay' : sMay (upd x 4 (nI c)) n (nI j') := fun i hi hb => by rw [tc4, up_ne (by omega)]; exact hmay i hi hb
      obtain ⟨r2, ho2, he2, hpass⟩ := xx_pass (g := g) (T := T) (A := A) (gm := gm) (Am := tu (tu Am 7 (upd s d (nI j'))) 8 b) (B := 567 + 21 * (d + 1)) (by omega) he1 (nz_ox hX) hmay'
      rw [ta4, cw4 hX.2.2.2.2.1 m4] at hpass he2
      rw [pd4 (c' := cw x (nI j') (ta x n) n (dy0 + d) mo), cw_cN, nI_add, ← cw_cN] at he2
      have hX' := ox_pd hX hmay (by omega) (cw x (nI j') (ta x n) n (dy0 + d) mo)
      have c01 := cN_1 (x := x) (s := nI j') (a := ta x n) (n := n) (dy := dy0 + d) (mo := mo)
      have ev : vf n mo nd k (dy0 + d) x c p j' z = vis n mo nd k (dy0 + (d + 1)) (pd x (nI j') n (cw x (nI j') (ta x n) n (dy0 + d) mo)) (c + cN x (nI j') (ta x n) n (dy0 + d) mo) (upd p d (nI j')) z := by
        unfold vf
        rw [if_pos hsub, show nd - (k + 1) = d by omega]
        rfl
      obtain ⟨r3, s3, b3, p4, p5, p6, hr3, hs3, hR3, hchild⟩ := hP (d + 1) (c + cN x (nI j') (ta x n) n (dy0 + d) mo) _ (upd p d (nI j')) r2 (upd (upd s d (nI j')) (d + 1) (-1)) b z (some (.int 0)) (some (.int (nI j'))) o6 (by omega) hX' he2 (by rw [up_eq]; decide) (fun i hi => by
        rw [up_ne (by omega)]
        by_cases e : i = d
        · rw [e, up_eq, up_eq]
        · rw [up_ne e, up_ne e, hp i (by omega)]) hR hz5 (by omega)
      rw [← ev] at hchild hR3
      have hv5 := vf_5 (n := n) (mo := mo) (nd := nd) (dy := dy0 + d) (x := x) (p := p) (j := j') (k := k) (c := c) hz5 (by omega)
      have hstep : fr (vf n mo nd k (dy0 + d) x c p) (16 - j') j' z = fr (vf n mo nd k (dy0 + d) x c p) (15 - j') (j' + 1) (vf n mo nd k (dy0 + d) x c p j' z) := by
        rw [show 16 - j' = (15 - j') + 1 by omega]
        rfl
      rw [hstep]
      generalize vf n mo nd k (dy0 + d) x c p j' z = z1 at hchild hR3 hv5
      have hlow : ∀ i, i < 567 + 21 * (d + 1) → r3 i = r i := fun i hi => by rw [hr3 i (by omega), ho2 i (by omega), rs_out (by omega)]
      obtain ⟨r4, s4, b4, u4, u5, u6, hr4', hs4, hR4, ih⟩ := xm_inner hnd hdy hP hdk hX hc F (15 - j') (j' + 1) (by omega) (by omega) r3 s3 b3 z1 p4 p5 p6 (by
        refine eqv_tr he (eqv_21 h4 m4 (fun k hk => ?_))
        unfold tv
        rw [hlow _ (by omega)]) (by rw [hs3 d (by omega), up_ne (by omega), up_eq, nI_1]) (fun i hi => by rw [hs3 i (by omega), up_ne (by omega), up_ne (by omega), hp i hi]) hR3 hv5
      refine ⟨r4, s4, b4, u4, u5, u6, fun i hi => by rw [hr4' i hi, hlow i hi], fun i hi => by rw [hs4 i hi, hs3 i (by omega), up_ne (by omega), up_ne (by omega)], hR4, fun v hh hend => ?_⟩
      have ih := ih v hh hend
      have hch := hchild v hh
      rw [pk_m1] at hch
      have hch := hch ih
      rw [← nI_1] at hch
      refine rn_go 80 (by with_unfolding_all rfl) ?_
      refine rn_br (by with_unfolding_all rfl) (fun c_ => absurd c_ (nI_pos (by omega))) (fun _ => ?_)
      refine rn_go 80 (by with_unfolding_all rfl) ?_
      refine rn_ld (567 + 21 * d + 4) (by with_unfolding_all rfl) (by rw [show (567 : Int32) = nI 567 from rfl, show (21 : Int32) = nI 21 from rfl, show (4 : Int32) = nI 4 from rfl, pk_mul, nI_add, nI_add]) (by omega) (by decide) ?_
      rw [tu_s, hr4]
      refine rn_go 80 (by with_unfolding_all rfl) ?_
      refine rn_br (by with_unfolding_all rfl) (fun _ => ?_) (fun c_ => absurd ((by rw [e1]; exact (mI_lt (by omega) (by omega)).mpr hq)) c_)
      refine rn_go 80 (by with_unfolding_all rfl) ?_
      refine rn_br (by with_unfolding_all rfl) (fun c_ => absurd c_ (hne)) (fun _ => ?_)
      refine rn_go 80 (by with_unfolding_all rfl) ?_
      refine rn_br (by with_unfolding_all rfl) (fun _ => ?_) (fun c_ => absurd (rfl) c_)
      refine rn_go 80 (by with_unfolding_all rfl) ?_
      refine rn_ld (d) (by with_unfolding_all rfl) rfl (by omega) (by decide) ?_
      rw [q3_7]
      refine rn_go 80 (by with_unfolding_all rfl) ?_
      rw [hs]
      refine rn_cl (by with_unfolding_all rfl) (ev_up (by decide) (hnext)) ?_
      refine rn_go 80 (by with_unfolding_all rfl) ?_
      refine rn_br (by with_unfolding_all rfl) (fun c_ => absurd c_ (hne)) (fun _ => ?_)
      refine rn_go 80 (by with_unfolding_all rfl) ?_
      refine rn_br (by with_unfolding_all rfl) (fun c_ => absurd c_ ((fun q => hj16 ((nI_eq (b := 16) (by omega) (by omega)).mp q)))) (fun _ => ?_)
      refine rn_go 80 (by with_unfolding_all rfl) ?_
      refine rn_st (d) (by with_unfolding_all rfl) rfl (by omega) (by decide) ?_
      refine rn_hp (by with_unfolding_all exact (wM_7)) ?_
      rw [q3_7, m3_7]
      refine rn_go 80 (by with_unfolding_all rfl) ?_
      rw [eB, eB2]
      refine rn_cl (by with_unfolding_all rfl) (ev_up (by decide) (hcopy)) ?_
      refine rn_go 80 (by with_unfolding_all rfl) ?_
      rw [eB, eB2]
      refine rn_cl (by with_unfolding_all rfl) (ev_up (by decide) (hpass)) ?_
      refine rn_go 80 (by with_unfolding_all rfl) ?_
      refine rn_st (d + 1) (by with_unfolding_all rfl) (nI_1 d) (by omega) (by decide) ?_
      refine rn_hp (by with_unfolding_all exact (wM_7)) ?_
      rw [q3_7, m3_7]
      refine rn_to 24 80 (by with_unfolding_all rfl) ?_
      with_unfolding_all exact hch
set_option maxRecDepth 10000 in
theorem xm_PM (hnd : nd ≤ 4) (hdy : dy0 ≤ 999) : ∀ k, PM g gm T A Am n mo nd dy0 k
  | 0 => xm_leaf hnd
  | k + 1 => by
    intro d c x p r s b z o4 o5 o6 hd hX he hs hp hR hz5 hc
    exact xm_inner hnd hdy (xm_PM hnd hdy k) hd hX hc 16 16 0 (by omega) (by omega) r s b z o4 o5 o6 he hs hp hR hz5
set_option maxRecDepth 10000 in
theorem xm_most {x : Nat → Int32} (hnd1 : 1 ≤ nd) (hnd : nd ≤ 4) (hdy : dy0 ≤ 999) (he : Eqv n mo x (tv (Am 0) 0)) (hX : okX x n mo dy0) : ∃ r' s' b', Lo (Am 0) r' ∧ (∀ i, i < nd → b' i = (plS n mo dy0 x nd).2 i) ∧ am_ev 10 193 [.ref 43, .int (nI nd)] (wd g T A gm Am) (some (.int (mI (plS n mo dy0 x nd).1))) (wd g T A gm (tu (tu (tu Am 7 s') 8 b') 0 r')) := by
  have h4 := hX.2.2.1
  have m4 := hX.2.2.2.2.2.1
  obtain ⟨r1, hl1, he1, hlay⟩ := lay0 (g := g) (T := T) (A := A) (gm := gm) h4 m4 he
  have e0 : Eqv n mo (upd x 4 (nI 0)) (tv (upd r1 (567 + 4) 0) (567 + 21 * 0)) := by
    rw [show 567 + 21 * 0 = 567 from rfl, tv_upd]
    exact eqv_upd he1 4 0
  obtain ⟨r2, s2, b2, o4, o5, o6, hr2, -, hR, hrun⟩ := xm_PM (g := g) (gm := gm) (T := T) (A := A) (Am := Am) (n := n) (mo := mo) (nd := nd) (dy0 := dy0) hnd hdy nd 0 0 x (fun _ => 0) (upd r1 (567 + 4) 0) (upd (Am 7) 0 (-1)) (Am 8) (0, fun _ => 0) none none none (by omega) hX e0 (by rw [up_eq]; decide) (fun i hi => absurd hi (by omega)) (Or.inl rfl) (by decide) (by omega)
  have hpl : vis n mo nd nd (dy0 + 0) x 0 (fun _ => 0) (0, fun _ => 0) = plS n mo dy0 x nd := rfl
  have hge := vis_1 (n := n) (mo := mo) (nd := nd) nd (dy0 + 0) x 0 (fun _ => 0) (0, fun _ => 0)
  rw [hpl] at hge hR hrun
  refine ⟨r2, s2, b2, fun k hk => by rw [hr2 k (by omega), up_ne (by omega), hl1 k hk], hR.resolve_left (by omega), ?_⟩
  have e8 : tu (tu (tu Am 7 (upd (Am 7) 0 (-1))) 8 (Am 8)) 0 (upd r1 (567 + 4) 0) = tu (tu Am 7 (upd (Am 7) 0 (-1))) 0 (upd r1 (567 + 4) 0) := by
    rw [show Am 8 = tu Am 7 (upd (Am 7) 0 (-1)) 8 from (tu_n (by decide)).symm, tu_id]
  have hfin : rn none 9 am_t_X9_mostCarried (24, [some (.ref 43), some (.int (nI nd)), some (.int (mI (plS n mo dy0 x nd).1)), some (.int (nI 0 + (-1))), o4, o5, o6], [], wd g T A gm (tu (tu (tu Am 7 s2) 8 b2) 0 r2)) (some (.int (mI (plS n mo dy0 x nd).1))) (wd g T A gm (tu (tu (tu Am 7 s2) 8 b2) 0 r2)) := by
    refine rn_go 80 (by with_unfolding_all rfl) ?_
    refine rn_br (by with_unfolding_all rfl) (fun _ => ?_) (fun c_ => absurd ((by decide)) c_)
    refine rn_go 80 (by with_unfolding_all rfl) ?_
    exact rn_rt (by with_unfolding_all rfl) trivial rfl rfl
  have hrun := hrun _ _ hfin
  rw [e8] at hrun
  refine rn_ev am_m_X9_mostCarried rfl rfl ?_
  refine rn_go 80 (by with_unfolding_all rfl) ?_
  refine rn_cl (by with_unfolding_all rfl) (ev_up (by decide) (hlay)) ?_
  refine rn_go 80 (by with_unfolding_all rfl) ?_
  refine rn_st (567 + 4) (by with_unfolding_all rfl) rfl (by omega) (by decide) ?_
  refine rn_hp (by with_unfolding_all exact (wM_0)) ?_
  rw [tu_s, tu_tu]
  refine rn_go 80 (by with_unfolding_all rfl) ?_
  refine rn_st (0) (by with_unfolding_all rfl) rfl (by omega) (by decide) ?_
  refine rn_hp (by with_unfolding_all exact (wM_7)) ?_
  rw [tu_n (show 7 ≠ 0 by decide), tu_cm (show 0 ≠ 7 by decide)]
  with_unfolding_all exact hrun
set_option maxRecDepth 10000 in
theorem xm_plan {dy : Nat} {x : Nat → Int32} (hX : gm 0 = 0 ∨ okX x n mo dy) (he : Eqv n mo x (tv (Am 0) 0)) (hdy : dy ≤ 999) (q K : Int32) : ∃ r' s' b', Lo (Am 0) r' ∧ am_ev 12 194 [.ref 43, .int q, .int K] (wd g T A gm Am) (some (.int (sPlan (gm 0) x n mo dy q K))) (wd g T A gm (tu (tu (tu Am 7 s') 8 b') 0 r')) := by
  have aid : tu (tu (tu Am 7 (Am 7)) 8 (Am 8)) 0 (Am 0) = Am := by rw [tu_id, tu_id, tu_id]
  unfold sPlan
  by_cases q1 : gm 0 = 0
  · rw [if_pos q1]
    refine ⟨Am 0, Am 7, Am 8, fun _ _ => rfl, ?_⟩
    rw [aid]
    refine rn_ev am_m_X9_plan rfl rfl ?_
    refine rn_go 80 (by with_unfolding_all rfl) ?_
    refine rn_br (by with_unfolding_all rfl) (fun _ => ?_) (fun c_ => absurd (q1) c_)
    refine rn_go 80 (by with_unfolding_all rfl) ?_
    exact rn_rt (by with_unfolding_all rfl) trivial rfl rfl
  have hX := hX.resolve_left q1
  rw [if_neg q1]
  by_cases hq : (q < 1 ∨ ¬ q ≤ 4 ∨ K < -1 ∨ ¬ K ≤ 3)
  · rw [if_pos hq]
    refine ⟨Am 0, Am 7, Am 8, fun _ _ => rfl, ?_⟩
    rw [aid]
    refine rn_ev am_m_X9_plan rfl rfl ?_
    refine rn_go 80 (by with_unfolding_all rfl) ?_
    refine rn_br (by with_unfolding_all rfl) (fun c_ => absurd c_ (q1)) (fun _ => ?_)
    refine rn_go 80 (by with_unfolding_all rfl) ?_
    refine rn_cl (by with_unfolding_all rfl) (ev_up (by decide) (xm_in _ _ _)) ?_
    rw [inn_b (a := 1) (b := 4) (P := 1) (Q := 4) (by decide) (by decide)]
    refine rn_go 80 (by with_unfolding_all rfl) ?_
    refine rn_br (by with_unfolding_all rfl) (fun c1 => ?_) (fun c1 => ?_)
    · refine rn_go 80 (by with_unfolding_all rfl) ?_
      exact rn_rt (by with_unfolding_all rfl) trivial rfl rfl
    refine rn_go 80 (by with_unfolding_all rfl) ?_
    refine rn_cl (by with_unfolding_all rfl) (ev_up (by decide) (xm_in _ _ _)) ?_
    rw [inn_b (a := -1) (b := 3) (P := -1) (Q := 3) (by decide) (by decide)]
    refine rn_go 80 (by with_unfolding_all rfl) ?_
    refine rn_br (by with_unfolding_all rfl) (fun c2 => ?_) (fun c2 => ?_)
    · refine rn_go 80 (by with_unfolding_all rfl) ?_
      exact rn_rt (by with_unfolding_all rfl) trivial rfl rfl
    exfalso
    have c1 := btw_f c1
    have c2 := btw_f c2
    rcases hq with e | e | e | e
    · exact c1.1 e
    · exact e c1.2
    · exact c2.1 e
    · exact e c2.2
  rw [if_neg hq]
  have q2 : ¬ q < 1 := fun e => hq (Or.inl e)
  have q3 : q ≤ 4 := Classical.not_not.mp (fun e => hq (Or.inr (Or.inl e)))
  have q4 : ¬ K < -1 := fun e => hq (Or.inr (Or.inr (Or.inl e)))
  have q5 : K ≤ 3 := Classical.not_not.mp (fun e => hq (Or.inr (Or.inr (Or.inr e))))
  obtain ⟨nd, hnd1, hnd4, rfl⟩ := ge1 (m := 4) (by decide) q2 q3
  rw [nI_clamp (show nd < 2 ^ 31 by omega)]
  obtain ⟨r2, s2, b2, hl2, hb2, hrun⟩ := xm_most (g := g) (gm := gm) (T := T) (A := A) (Am := Am) hnd1 hnd4 hdy he hX
  refine ⟨r2, s2, b2, hl2, ?_⟩
  refine rn_ev am_m_X9_plan rfl rfl ?_
  refine rn_go 80 (by with_unfolding_all rfl) ?_
  refine rn_br (by with_unfolding_all rfl) (fun c_ => absurd c_ (q1)) (fun _ => ?_)
  refine rn_go 80 (by with_unfolding_all rfl) ?_
  refine rn_cl (by with_unfolding_all rfl) (ev_up (by decide) (xm_in _ _ _)) ?_
  rw [inn_b (a := 1) (b := 4) (P := 1) (Q := 4) (by decide) (by decide)]
  refine rn_go 80 (by with_unfolding_all rfl) ?_
  refine rn_br (by with_unfolding_all rfl) (fun c_ => absurd c_ (btw_t q2 q3)) (fun _ => ?_)
  refine rn_go 80 (by with_unfolding_all rfl) ?_
  refine rn_cl (by with_unfolding_all rfl) (ev_up (by decide) (xm_in _ _ _)) ?_
  rw [inn_b (a := -1) (b := 3) (P := -1) (Q := 3) (by decide) (by decide)]
  refine rn_go 80 (by with_unfolding_all rfl) ?_
  refine rn_br (by with_unfolding_all rfl) (fun c_ => absurd c_ (btw_t q4 q5)) (fun _ => ?_)
  refine rn_go 80 (by with_unfolding_all rfl) ?_
  refine rn_cl (by with_unfolding_all rfl) (ev_up (by decide) (hrun)) ?_
  refine rn_go 80 (by with_unfolding_all rfl) ?_
  refine rn_br (by with_unfolding_all rfl) (fun c => ?_) (fun c => ?_)
  · rw [if_pos c]
    obtain ⟨j, hj, rfl⟩ := le_of40 (m := 3) (by decide) (Int32.not_lt.mpr c) q5
    rw [nI_clamp (show j < 2 ^ 31 by omega)]
    refine rn_go 80 (by with_unfolding_all rfl) ?_
    refine rn_br (by with_unfolding_all rfl) (fun c2 => ?_) (fun c2 => ?_)
    · rw [if_pos c2]
      refine rn_go 80 (by with_unfolding_all rfl) ?_
      exact rn_rt (by with_unfolding_all rfl) trivial rfl rfl
    · rw [if_neg c2]
      have hjm : j < nd := Nat.lt_of_not_le (fun e => c2 (nI_le e (by omega)))
      refine rn_go 80 (by with_unfolding_all rfl) ?_
      refine rn_ld (j) (by with_unfolding_all rfl) rfl (by omega) (by decide) ?_
      rw [q3_8, hb2 j hjm]
      refine rn_go 80 (by with_unfolding_all rfl) ?_
      exact rn_rt (by with_unfolding_all rfl) trivial rfl rfl
  · rw [if_neg c, if_neg (fun e => c (Int32.le_trans (nI_pos' (by omega)) e))]
    refine rn_go 80 (by with_unfolding_all rfl) ?_
    exact rn_rt (by with_unfolding_all rfl) trivial rfl rfl
end

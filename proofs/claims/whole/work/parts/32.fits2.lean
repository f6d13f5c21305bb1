/-! fits and costs: the calls -/
set_option maxRecDepth 10000 in
theorem ge1 {d : Int32} {m : Nat} (hm : m < 1000) (h1 : ¬ d < 1) (h : d ≤ nI m) : ∃ k : Nat, 1 ≤ k ∧ k ≤ m ∧ d = nI k := by
  have h0 : ¬ d < 0 := fun q => h1 (Int32.lt_trans q (by decide))
  obtain ⟨k, hk, e⟩ := le_of40 hm h0 h
  refine ⟨k, ?_, hk, e⟩
  rcases Nat.eq_zero_or_pos k with q | q
  · subst q; subst e; exact absurd (by decide) h1
  · exact q
set_option maxRecDepth 10000 in
theorem nI_inj {a b : Nat} (ha : a < 1000) (hb : b ≤ 1000) (h : nI a = nI b) : a = b := (nI_eq (by omega) (by omega)).mp h
set_option maxRecDepth 10000 in
theorem up_off {g g' : Nat → Int32} {k : Nat} {s : Int32} {P : Nat → Prop} (h : ∀ j, P j → g' j = g j) : ∀ j, P j → upd g' k s j = upd g k s j := fun j hj => by
  unfold upd
  split
  · rfl
  · exact h j hj
set_option maxRecDepth 10000 in
theorem sh_c {F : Nat → Int32} {b v : Nat} (h : F (b + v) = 0) (hv : b + v < 32) : fsum F b (v + 1) = fsum F b v ||| 0 := by
  show fsum F b v ||| (F (b + v) <<< (nI (b + v) &&& 31)) = _
  rw [h, shl0 _ hv]
set_option maxRecDepth 10000 in
theorem sh_d {F : Nat → Int32} {b v : Nat} (h : ¬ F (b + v) = 0) (h2 : F (b + v) = 0 ∨ F (b + v) = 1) : fsum F b (v + 1) = fsum F b v ||| (1 <<< (nI (b + v) &&& 31)) := by
  show fsum F b v ||| (F (b + v) <<< (nI (b + v) &&& 31)) = _
  rw [h2.resolve_left h]
section
variable {g gm : Nat → Int32} {T A Am : Nat → Nat → Int32} {h : am_H}
set_option maxRecDepth 10000 in
theorem xm_no1 {k : Nat} (hk : k < 8) (hok : okR (Am 2) (Am 3)) (i n : Int32) (h1 : Am 3 k = -1) : am_ev 2 203 [.ref 43, .int (nI k), .int i, .int n] (wd g T A gm Am) (some (.int (-1000011))) (wd g T A (upd gm 4 1) Am) := by
  refine rn_ev am_m_X9_noItems rfl rfl ?_
  refine rn_go 80 (by with_unfolding_all rfl) ?_
  refine rn_ld (k) (by with_unfolding_all rfl) rfl hk (by decide) ?_
  refine rn_go 80 (by with_unfolding_all rfl) ?_
  refine rn_br (by with_unfolding_all rfl) (fun c_ => absurd c_ ((by rw [h1]; decide))) (fun _ => ?_)
  refine rn_go 80 (by with_unfolding_all rfl) ?_
  refine rn_cl (by with_unfolding_all rfl) (ev_up (by decide) (xm_find 1)) ?_
  refine rn_go 80 (by with_unfolding_all rfl) ?_
  exact rn_rt (by with_unfolding_all rfl) trivial rfl rfl
set_option maxRecDepth 10000 in
theorem xm_no2 {k : Nat} (hk : k < 8) (hok : okR (Am 2) (Am 3)) (i n : Int32) (h1 : ¬ Am 3 k = -1) (h2 : hp (Am 3 k) i n = 0) : am_ev 2 203 [.ref 43, .int (nI k), .int i, .int n] (wd g T A gm Am) (some (.int (-1000012))) (wd g T A (upd gm 4 2) Am) := by
  obtain ⟨l, hl, hl2⟩ := (hok k hk).1.resolve_left h1
  refine rn_ev am_m_X9_noItems rfl rfl ?_
  refine rn_go 80 (by with_unfolding_all rfl) ?_
  refine rn_ld (k) (by with_unfolding_all rfl) rfl hk (by decide) ?_
  refine rn_go 80 (by with_unfolding_all rfl) ?_
  refine rn_br (by with_unfolding_all rfl) (fun _ => ?_) (fun c_ => absurd (((okR_neg hok hk).1.mpr h1)) c_)
  refine rn_go 80 (by with_unfolding_all rfl) ?_
  refine rn_cl (by with_unfolding_all rfl) (ev_up (by decide) (xm_isSpan hk i n)) ?_
  rw [hl2, msp_hp hl, ← hl2]
  refine rn_go 80 (by with_unfolding_all rfl) ?_
  refine rn_br (by with_unfolding_all rfl) (fun _ => ?_) (fun c_ => absurd (h2) c_)
  refine rn_go 80 (by with_unfolding_all rfl) ?_
  refine rn_cl (by with_unfolding_all rfl) (ev_up (by decide) (xm_find 2)) ?_
  refine rn_go 80 (by with_unfolding_all rfl) ?_
  exact rn_rt (by with_unfolding_all rfl) trivial rfl rfl
set_option maxRecDepth 10000 in
theorem xm_no0 {k : Nat} (hk : k < 8) (hok : okR (Am 2) (Am 3)) (i n : Int32) (h1 : ¬ Am 3 k = -1) (h2 : ¬ hp (Am 3 k) i n = 0) : am_ev 2 203 [.ref 43, .int (nI k), .int i, .int n] (wd g T A gm Am) (some (.int 0)) (wd g T A gm Am) := by
  obtain ⟨l, hl, hl2⟩ := (hok k hk).1.resolve_left h1
  refine rn_ev am_m_X9_noItems rfl rfl ?_
  refine rn_go 80 (by with_unfolding_all rfl) ?_
  refine rn_ld (k) (by with_unfolding_all rfl) rfl hk (by decide) ?_
  refine rn_go 80 (by with_unfolding_all rfl) ?_
  refine rn_br (by with_unfolding_all rfl) (fun _ => ?_) (fun c_ => absurd (((okR_neg hok hk).1.mpr h1)) c_)
  refine rn_go 80 (by with_unfolding_all rfl) ?_
  refine rn_cl (by with_unfolding_all rfl) (ev_up (by decide) (xm_isSpan hk i n)) ?_
  rw [hl2, msp_hp hl, ← hl2]
  refine rn_go 80 (by with_unfolding_all rfl) ?_
  refine rn_br (by with_unfolding_all rfl) (fun c_ => absurd c_ (h2)) (fun _ => ?_)
  refine rn_go 80 (by with_unfolding_all rfl) ?_
  exact rn_rt (by with_unfolding_all rfl) trivial rfl rfl
section
variable {n mo dy : Nat}
set_option maxRecDepth 10000 in
theorem x8_fits (hb : g 11 = 0 ∨ g 11 = 1) (hn : T 0 1 = nI n) (hn4 : n ≤ 4) (hX : n = 0 ∨ okX (T 0) n mo dy) (hdy : dy ≤ 999) (hok : okR (A 0) (A 1)) (p r i k w : Int32) {v s : Int32} (hq : sFits (T 0) n mo dy p r i k w (A 1) (A 2) (g 1) = (v, s)) : ∃ g' t', (∀ j, j ≠ 12 → g' j = upd g 1 s j) ∧ am_ev 12 115 [.ref 0, .int p, .int r, .int i, .int k, .int w] (wd g T A gm Am) (some (.int v)) (wd g' (tu T 1 t') A gm Am) := by
  unfold sFits at hq
  by_cases hbad : (hm (T 0) p = 0 ∨ ir r = 0 ∨ k < 1 ∨ ¬ k ≤ 12 ∨ ie w = 0)
  · rw [if_pos hbad] at hq
    cases hq
    refine ⟨g, T 1, fun j _ => by rw [up_id], ?_⟩
    rw [tu_id]
    refine rn_ev am_m_X8_fits rfl rfl ?_
    refine rn_go 80 (by with_unfolding_all rfl) ?_
    refine rn_cl (by with_unfolding_all rfl) (ev_up (by decide) (xh_hasMember p)) ?_
    refine rn_go 80 (by with_unfolding_all rfl) ?_
    refine rn_br (by with_unfolding_all rfl) (fun c1 => ?_) (fun c1 => ?_)
    · refine rn_go 80 (by with_unfolding_all rfl) ?_
      exact rn_rt (by with_unfolding_all rfl) trivial rfl rfl
    refine rn_go 80 (by with_unfolding_all rfl) ?_
    refine rn_cl (by with_unfolding_all rfl) (ev_up (by decide) (x6_isRow r)) ?_
    refine rn_go 80 (by with_unfolding_all rfl) ?_
    refine rn_br (by with_unfolding_all rfl) (fun c2 => ?_) (fun c2 => ?_)
    · refine rn_go 80 (by with_unfolding_all rfl) ?_
      exact rn_rt (by with_unfolding_all rfl) trivial rfl rfl
    refine rn_go 80 (by with_unfolding_all rfl) ?_
    refine rn_br (by with_unfolding_all rfl) (fun c3 => ?_) (fun c3 => ?_)
    · refine rn_go 80 (by with_unfolding_all rfl) ?_
      exact rn_rt (by with_unfolding_all rfl) trivial rfl rfl
    refine rn_go 80 (by with_unfolding_all rfl) ?_
    refine rn_br (by with_unfolding_all rfl) (fun c4 => ?_) (fun c4 => ?_)
    · refine rn_go 80 (by with_unfolding_all rfl) ?_
      exact rn_rt (by with_unfolding_all rfl) trivial rfl rfl
    refine rn_go 80 (by with_unfolding_all rfl) ?_
    refine rn_cl (by with_unfolding_all rfl) (ev_up (by decide) (x8_isEither w)) ?_
    refine rn_go 80 (by with_unfolding_all rfl) ?_
    refine rn_br (by with_unfolding_all rfl) (fun c5 => ?_) (fun c5 => ?_)
    · refine rn_go 80 (by with_unfolding_all rfl) ?_
      exact rn_rt (by with_unfolding_all rfl) trivial rfl rfl
    exfalso
    rcases hbad with q | q | q | q | q
    · exact c1 q
    · exact c2 q
    · exact c3 q
    · exact c4 (Int32.not_le.mp q)
    · exact c5 q
  rw [if_neg hbad] at hq
  have b1 : ¬ hm (T 0) p = 0 := fun q => hbad (Or.inl q)
  have b2 : ¬ ir r = 0 := fun q => hbad (Or.inr (Or.inl q))
  have b3 : ¬ k < 1 := fun q => hbad (Or.inr (Or.inr (Or.inl q)))
  have b4 : k ≤ 12 := Classical.not_not.mp (fun q => hbad (Or.inr (Or.inr (Or.inr (Or.inl q)))))
  have b5 : ¬ ie w = 0 := fun q => hbad (Or.inr (Or.inr (Or.inr (Or.inr q))))
  obtain ⟨a, ha, rfl⟩ := hm_of hn hn4 b1
  have hX := hX.resolve_left (by omega)
  obtain ⟨r, hr, rfl⟩ := ir_of b2
  obtain ⟨m, hm1, hm12, rfl⟩ := ge1 (m := 12) (by decide) b3 b4
  rw [nI_clamp (show r < 2 ^ 31 by omega), nI_clamp (show m < 2 ^ 31 by omega), nI_clamp (show a < 2 ^ 31 by omega)] at hq
  unfold sItems at hq
  by_cases q1 : A 1 r = -1
  · rw [if_pos q1] at hq
    cases hq
    refine ⟨upd g 1 1, T 1, fun j _ => rfl, ?_⟩
    rw [tu_id]
    refine rn_ev am_m_X8_fits rfl rfl ?_
    refine rn_go 80 (by with_unfolding_all rfl) ?_
    refine rn_cl (by with_unfolding_all rfl) (ev_up (by decide) (xh_hasMember _)) ?_
    refine rn_go 80 (by with_unfolding_all rfl) ?_
    refine rn_br (by with_unfolding_all rfl) (fun c_ => absurd c_ (b1)) (fun _ => ?_)
    refine rn_go 80 (by with_unfolding_all rfl) ?_
    refine rn_cl (by with_unfolding_all rfl) (ev_up (by decide) (x6_isRow _)) ?_
    refine rn_go 80 (by with_unfolding_all rfl) ?_
    refine rn_br (by with_unfolding_all rfl) (fun c_ => absurd c_ (b2)) (fun _ => ?_)
    refine rn_go 80 (by with_unfolding_all rfl) ?_
    refine rn_br (by with_unfolding_all rfl) (fun c_ => absurd c_ (b3)) (fun _ => ?_)
    refine rn_go 80 (by with_unfolding_all rfl) ?_
    refine rn_br (by with_unfolding_all rfl) (fun c_ => absurd c_ (Int32.not_lt.mpr b4)) (fun _ => ?_)
    refine rn_go 80 (by with_unfolding_all rfl) ?_
    refine rn_cl (by with_unfolding_all rfl) (ev_up (by decide) (x8_isEither _)) ?_
    refine rn_go 80 (by with_unfolding_all rfl) ?_
    refine rn_br (by with_unfolding_all rfl) (fun c_ => absurd c_ (b5)) (fun _ => ?_)
    refine rn_go 80 (by with_unfolding_all rfl) ?_
    refine rn_cl (by with_unfolding_all rfl) (ev_up (by decide) (x6_isMissing hr)) ?_
    refine rn_go 80 (by with_unfolding_all rfl) ?_
    refine rn_br (by with_unfolding_all rfl) (fun c_ => absurd c_ ((by rw [if_pos q1]; decide))) (fun _ => ?_)
    refine rn_go 80 (by with_unfolding_all rfl) ?_
    refine rn_cl (by with_unfolding_all rfl) (ev_up (by decide) (x8_found 1)) ?_
    refine rn_go 80 (by with_unfolding_all rfl) ?_
    exact rn_rt (by with_unfolding_all rfl) trivial rfl rfl
  rw [if_neg q1] at hq
  by_cases q2 : hp (A 1 r) i (nI m) = 0
  · rw [if_pos q2] at hq
    cases hq
    refine ⟨upd g 1 2, T 1, fun j _ => rfl, ?_⟩
    rw [tu_id]
    refine rn_ev am_m_X8_fits rfl rfl ?_
    refine rn_go 80 (by with_unfolding_all rfl) ?_
    refine rn_cl (by with_unfolding_all rfl) (ev_up (by decide) (xh_hasMember _)) ?_
    refine rn_go 80 (by with_unfolding_all rfl) ?_
    refine rn_br (by with_unfolding_all rfl) (fun c_ => absurd c_ (b1)) (fun _ => ?_)
    refine rn_go 80 (by with_unfolding_all rfl) ?_
    refine rn_cl (by with_unfolding_all rfl) (ev_up (by decide) (x6_isRow _)) ?_
    refine rn_go 80 (by with_unfolding_all rfl) ?_
    refine rn_br (by with_unfolding_all rfl) (fun c_ => absurd c_ (b2)) (fun _ => ?_)
    refine rn_go 80 (by with_unfolding_all rfl) ?_
    refine rn_br (by with_unfolding_all rfl) (fun c_ => absurd c_ (b3)) (fun _ => ?_)
    refine rn_go 80 (by with_unfolding_all rfl) ?_
    refine rn_br (by with_unfolding_all rfl) (fun c_ => absurd c_ (Int32.not_lt.mpr b4)) (fun _ => ?_)
    refine rn_go 80 (by with_unfolding_all rfl) ?_
    refine rn_cl (by with_unfolding_all rfl) (ev_up (by decide) (x8_isEither _)) ?_
    refine rn_go 80 (by with_unfolding_all rfl) ?_
    refine rn_br (by with_unfolding_all rfl) (fun c_ => absurd c_ (b5)) (fun _ => ?_)
    refine rn_go 80 (by with_unfolding_all rfl) ?_
    refine rn_cl (by with_unfolding_all rfl) (ev_up (by decide) (x6_isMissing hr)) ?_
    refine rn_go 80 (by with_unfolding_all rfl) ?_
    refine rn_br (by with_unfolding_all rfl) (fun _ => ?_) (fun c_ => absurd ((by rw [if_neg q1])) c_)
    refine rn_go 80 (by with_unfolding_all rfl) ?_
    refine rn_cl (by with_unfolding_all rfl) (ev_up (by decide) (x6_hasPlaces hr i _)) ?_
    refine rn_go 80 (by with_unfolding_all rfl) ?_
    refine rn_br (by with_unfolding_all rfl) (fun _ => ?_) (fun c_ => absurd (q2) c_)
    refine rn_go 80 (by with_unfolding_all rfl) ?_
    refine rn_cl (by with_unfolding_all rfl) (ev_up (by decide) (x8_found 2)) ?_
    refine rn_go 80 (by with_unfolding_all rfl) ?_
    exact rn_rt (by with_unfolding_all rfl) trivial rfl rfl
  rw [if_neg q2] at hq
  obtain ⟨l, hl, hl2⟩ := (hok r hr).1.resolve_left q1
  obtain ⟨i, m', rfl, hm', hil⟩ := hp_of hl (by rw [← hl2]; exact q2)
  have := nI_inj (by omega) (by omega) hm'
  subst this
  rw [nI_clamp (show i < 2 ^ 31 by omega)] at hq
  rcases ie_of b5 with e5 | e5
  · subst e5
    rw [if_pos rfl] at hq
    cases hq
    obtain ⟨g2, t2, hg2, hrun⟩ := x4_breathsL (g := g) (T := T) (A := A) (gm := gm) (Am := Am) (m := m) (r := r) (i := i) hb hX ha (by omega) hr (by omega) 21 0 (by omega) g (T 1) (fun _ _ => rfl)
    rw [tu_id] at hrun
    have key : am_ev 8 54 [.ref 40, .int (nI a), .int (nI r), .int (nI i), .int (nI m)] (wd g T A gm Am) (some (.int (fsum (fitF (A 2) n mo dy (T 0) r i m (13 + a)) 0 21))) (wd g2 (tu T 1 t2) A gm Am) := by
      refine rn_ev am_m_X4_breathsOf rfl rfl ?_
      refine rn_to 6 80 (by with_unfolding_all rfl) ?_
      with_unfolding_all exact hrun
    refine ⟨upd g2 1 0, t2, up_off hg2, ?_⟩
    refine rn_ev am_m_X8_fits rfl rfl ?_
    refine rn_go 80 (by with_unfolding_all rfl) ?_
    refine rn_cl (by with_unfolding_all rfl) (ev_up (by decide) (xh_hasMember _)) ?_
    refine rn_go 80 (by with_unfolding_all rfl) ?_
    refine rn_br (by with_unfolding_all rfl) (fun c_ => absurd c_ (b1)) (fun _ => ?_)
    refine rn_go 80 (by with_unfolding_all rfl) ?_
    refine rn_cl (by with_unfolding_all rfl) (ev_up (by decide) (x6_isRow _)) ?_
    refine rn_go 80 (by with_unfolding_all rfl) ?_
    refine rn_br (by with_unfolding_all rfl) (fun c_ => absurd c_ (b2)) (fun _ => ?_)
    refine rn_go 80 (by with_unfolding_all rfl) ?_
    refine rn_br (by with_unfolding_all rfl) (fun c_ => absurd c_ (b3)) (fun _ => ?_)
    refine rn_go 80 (by with_unfolding_all rfl) ?_
    refine rn_br (by with_unfolding_all rfl) (fun c_ => absurd c_ (Int32.not_lt.mpr b4)) (fun _ => ?_)
    refine rn_go 80 (by with_unfolding_all rfl) ?_
    refine rn_cl (by with_unfolding_all rfl) (ev_up (by decide) (x8_isEither _)) ?_
    refine rn_go 80 (by with_unfolding_all rfl) ?_
    refine rn_br (by with_unfolding_all rfl) (fun c_ => absurd c_ (b5)) (fun _ => ?_)
    refine rn_go 80 (by with_unfolding_all rfl) ?_
    refine rn_cl (by with_unfolding_all rfl) (ev_up (by decide) (x6_isMissing hr)) ?_
    refine rn_go 80 (by with_unfolding_all rfl) ?_
    refine rn_br (by with_unfolding_all rfl) (fun _ => ?_) (fun c_ => absurd ((by rw [if_neg q1])) c_)
    refine rn_go 80 (by with_unfolding_all rfl) ?_
    refine rn_cl (by with_unfolding_all rfl) (ev_up (by decide) (x6_hasPlaces hr _ _)) ?_
    refine rn_go 80 (by with_unfolding_all rfl) ?_
    refine rn_br (by with_unfolding_all rfl) (fun c_ => absurd c_ (q2)) (fun _ => ?_)
    refine rn_go 80 (by with_unfolding_all rfl) ?_
    refine rn_br (by with_unfolding_all rfl) (fun _ => ?_) (fun c_ => absurd (rfl) c_)
    refine rn_go 80 (by with_unfolding_all rfl) ?_
    refine rn_cl (by with_unfolding_all rfl) (ev_up (by decide) (key)) ?_
    refine rn_go 80 (by with_unfolding_all rfl) ?_
    refine rn_cl (by with_unfolding_all rfl) (ev_up (by decide) (x8_well _)) ?_
    refine rn_go 80 (by with_unfolding_all rfl) ?_
    exact rn_rt (by with_unfolding_all rfl) trivial rfl rfl
  · subst e5
    rw [if_neg (by decide)] at hq
    cases hq
    obtain ⟨g2, t2, hg2, hrun⟩ := x4_sortsL (g := g) (T := T) (A := A) (gm := gm) (Am := Am) (m := m) (r := r) (i := i) hb hX ha (by omega) hr (by omega) 5 0 (by omega) g (T 1) (fun _ _ => rfl)
    rw [tu_id] at hrun
    have key : am_ev 8 55 [.ref 40, .int (nI a), .int (nI r), .int (nI i), .int (nI m)] (wd g T A gm Am) (some (.int (fsum (fitF (A 2) n mo dy (T 0) r i m (9 + a)) 1 5))) (wd g2 (tu T 1 t2) A gm Am) := by
      refine rn_ev am_m_X4_sortsOf rfl rfl ?_
      refine rn_to 6 80 (by with_unfolding_all rfl) ?_
      with_unfolding_all exact hrun
    refine ⟨upd g2 1 0, t2, up_off hg2, ?_⟩
    refine rn_ev am_m_X8_fits rfl rfl ?_
    refine rn_go 80 (by with_unfolding_all rfl) ?_
    refine rn_cl (by with_unfolding_all rfl) (ev_up (by decide) (xh_hasMember _)) ?_
    refine rn_go 80 (by with_unfolding_all rfl) ?_
    refine rn_br (by with_unfolding_all rfl) (fun c_ => absurd c_ (b1)) (fun _ => ?_)
    refine rn_go 80 (by with_unfolding_all rfl) ?_
    refine rn_cl (by with_unfolding_all rfl) (ev_up (by decide) (x6_isRow _)) ?_
    refine rn_go 80 (by with_unfolding_all rfl) ?_
    refine rn_br (by with_unfolding_all rfl) (fun c_ => absurd c_ (b2)) (fun _ => ?_)
    refine rn_go 80 (by with_unfolding_all rfl) ?_
    refine rn_br (by with_unfolding_all rfl) (fun c_ => absurd c_ (b3)) (fun _ => ?_)
    refine rn_go 80 (by with_unfolding_all rfl) ?_
    refine rn_br (by with_unfolding_all rfl) (fun c_ => absurd c_ (Int32.not_lt.mpr b4)) (fun _ => ?_)
    refine rn_go 80 (by with_unfolding_all rfl) ?_
    refine rn_cl (by with_unfolding_all rfl) (ev_up (by decide) (x8_isEither _)) ?_
    refine rn_go 80 (by with_unfolding_all rfl) ?_
    refine rn_br (by with_unfolding_all rfl) (fun c_ => absurd c_ (b5)) (fun _ => ?_)
    refine rn_go 80 (by with_unfolding_all rfl) ?_
    refine rn_cl (by with_unfolding_all rfl) (ev_up (by decide) (x6_isMissing hr)) ?_
    refine rn_go 80 (by with_unfolding_all rfl) ?_
    refine rn_br (by with_unfolding_all rfl) (fun _ => ?_) (fun c_ => absurd ((by rw [if_neg q1])) c_)
    refine rn_go 80 (by with_unfolding_all rfl) ?_
    refine rn_cl (by with_unfolding_all rfl) (ev_up (by decide) (x6_hasPlaces hr _ _)) ?_
    refine rn_go 80 (by with_unfolding_all rfl) ?_
    refine rn_br (by with_unfolding_all rfl) (fun c_ => absurd c_ (q2)) (fun _ => ?_)
    refine rn_go 80 (by with_unfolding_all rfl) ?_
    refine rn_br (by with_unfolding_all rfl) (fun c_ => absurd c_ ((by decide))) (fun _ => ?_)
    refine rn_go 80 (by with_unfolding_all rfl) ?_
    refine rn_cl (by with_unfolding_all rfl) (ev_up (by decide) (key)) ?_
    refine rn_go 80 (by with_unfolding_all rfl) ?_
    refine rn_cl (by with_unfolding_all rfl) (ev_up (by decide) (x8_well _)) ?_
    refine rn_go 80 (by with_unfolding_all rfl) ?_
    exact rn_rt (by with_unfolding_all rfl) trivial rfl rfl
set_option maxRecDepth 10000 in
theorem x8_costs (hb : g 11 = 0 ∨ g 11 = 1) (hX : g 11 = 0 ∨ okX (T 0) n mo dy) (hdy : dy ≤ 999) (hok : okR (A 0) (A 1)) (r i k : Int32) {v s : Int32} (hq : sCosts (g 11) (T 0) n mo dy r i k (A 1) (A 2) (g 1) = (v, s)) : ∃ g' t', (∀ j, j ≠ 12 → g' j = upd g 1 s j) ∧ am_ev 12 116 [.ref 0, .int r, .int i, .int k] (wd g T A gm Am) (some (.int v)) (wd g' (tu T 1 t') A gm Am) := by
  unfold sCosts at hq
  by_cases q0 : g 11 = 0
  · rw [if_pos q0] at hq
    cases hq
    refine ⟨g, T 1, fun j _ => by rw [up_id], ?_⟩
    rw [tu_id]
    refine rn_ev am_m_X8_costs rfl rfl ?_
    refine rn_go 80 (by with_unfolding_all rfl) ?_
    refine rn_br (by with_unfolding_all rfl) (fun _ => ?_) (fun c_ => absurd (q0) c_)
    refine rn_go 80 (by with_unfolding_all rfl) ?_
    exact rn_rt (by with_unfolding_all rfl) trivial rfl rfl
  rw [if_neg q0] at hq
  have hX := hX.resolve_left q0
  by_cases hbad : (ir r = 0 ∨ k < 1 ∨ ¬ k ≤ 12)
  · rw [if_pos hbad] at hq
    cases hq
    refine ⟨g, T 1, fun j _ => by rw [up_id], ?_⟩
    rw [tu_id]
    refine rn_ev am_m_X8_costs rfl rfl ?_
    refine rn_go 80 (by with_unfolding_all rfl) ?_
    refine rn_br (by with_unfolding_all rfl) (fun c_ => absurd c_ (q0)) (fun _ => ?_)
    refine rn_go 80 (by with_unfolding_all rfl) ?_
    refine rn_cl (by with_unfolding_all rfl) (ev_up (by decide) (x6_isRow r)) ?_
    refine rn_go 80 (by with_unfolding_all rfl) ?_
    refine rn_br (by with_unfolding_all rfl) (fun c2 => ?_) (fun c2 => ?_)
    · refine rn_go 80 (by with_unfolding_all rfl) ?_
      exact rn_rt (by with_unfolding_all rfl) trivial rfl rfl
    refine rn_go 80 (by with_unfolding_all rfl) ?_
    refine rn_br (by with_unfolding_all rfl) (fun c3 => ?_) (fun c3 => ?_)
    · refine rn_go 80 (by with_unfolding_all rfl) ?_
      exact rn_rt (by with_unfolding_all rfl) trivial rfl rfl
    refine rn_go 80 (by with_unfolding_all rfl) ?_
    refine rn_br (by with_unfolding_all rfl) (fun c_ => absurd c_ (((hbad.resolve_left c2).resolve_left c3))) (fun _ => ?_)
    refine rn_go 80 (by with_unfolding_all rfl) ?_
    exact rn_rt (by with_unfolding_all rfl) trivial rfl rfl
  rw [if_neg hbad] at hq
  have b2 : ¬ ir r = 0 := fun q => hbad (Or.inl q)
  have b3 : ¬ k < 1 := fun q => hbad (Or.inr (Or.inl q))
  have b4 : k ≤ 12 := Classical.not_not.mp (fun q => hbad (Or.inr (Or.inr q)))
  obtain ⟨r, hr, rfl⟩ := ir_of b2
  obtain ⟨m, hm1, hm12, rfl⟩ := ge1 (m := 12) (by decide) b3 b4
  rw [nI_clamp (show r < 2 ^ 31 by omega), nI_clamp (show m < 2 ^ 31 by omega)] at hq
  unfold sItems at hq
  by_cases q1 : A 1 r = -1
  · rw [if_pos q1] at hq
    cases hq
    refine ⟨upd g 1 1, T 1, fun j _ => rfl, ?_⟩
    rw [tu_id]
    refine rn_ev am_m_X8_costs rfl rfl ?_
    refine rn_go 80 (by with_unfolding_all rfl) ?_
    refine rn_br (by with_unfolding_all rfl) (fun c_ => absurd c_ (q0)) (fun _ => ?_)
    refine rn_go 80 (by with_unfolding_all rfl) ?_
    refine rn_cl (by with_unfolding_all rfl) (ev_up (by decide) (x6_isRow _)) ?_
    refine rn_go 80 (by with_unfolding_all rfl) ?_
    refine rn_br (by with_unfolding_all rfl) (fun c_ => absurd c_ (b2)) (fun _ => ?_)
    refine rn_go 80 (by with_unfolding_all rfl) ?_
    refine rn_br (by with_unfolding_all rfl) (fun c_ => absurd c_ (b3)) (fun _ => ?_)
    refine rn_go 80 (by with_unfolding_all rfl) ?_
    refine rn_br (by with_unfolding_all rfl) (fun _ => ?_) (fun c_ => absurd (b4) c_)
    refine rn_go 80 (by with_unfolding_all rfl) ?_
    refine rn_cl (by with_unfolding_all rfl) (ev_up (by decide) (x6_isMissing hr)) ?_
    refine rn_go 80 (by with_unfolding_all rfl) ?_
    refine rn_br (by with_unfolding_all rfl) (fun c_ => absurd c_ ((by rw [if_pos q1]; decide))) (fun _ => ?_)
    refine rn_go 80 (by with_unfolding_all rfl) ?_
    refine rn_cl (by with_unfolding_all rfl) (ev_up (by decide) (x8_found 1)) ?_
    refine rn_go 80 (by with_unfolding_all rfl) ?_
    exact rn_rt (by with_unfolding_all rfl) trivial rfl rfl
  rw [if_neg q1] at hq
  by_cases q2 : hp (A 1 r) i (nI m) = 0
  · rw [if_pos q2] at hq
    cases hq
    refine ⟨upd g 1 2, T 1, fun j _ => rfl, ?_⟩
    rw [tu_id]
    refine rn_ev am_m_X8_costs rfl rfl ?_
    refine rn_go 80 (by with_unfolding_all rfl) ?_
    refine rn_br (by with_unfolding_all rfl) (fun c_ => absurd c_ (q0)) (fun _ => ?_)
    refine rn_go 80 (by with_unfolding_all rfl) ?_
    refine rn_cl (by with_unfolding_all rfl) (ev_up (by decide) (x6_isRow _)) ?_
    refine rn_go 80 (by with_unfolding_all rfl) ?_
    refine rn_br (by with_unfolding_all rfl) (fun c_ => absurd c_ (b2)) (fun _ => ?_)
    refine rn_go 80 (by with_unfolding_all rfl) ?_
    refine rn_br (by with_unfolding_all rfl) (fun c_ => absurd c_ (b3)) (fun _ => ?_)
    refine rn_go 80 (by with_unfolding_all rfl) ?_
    refine rn_br (by with_unfolding_all rfl) (fun _ => ?_) (fun c_ => absurd (b4) c_)
    refine rn_go 80 (by with_unfolding_all rfl) ?_
    refine rn_cl (by with_unfolding_all rfl) (ev_up (by decide) (x6_isMissing hr)) ?_
    refine rn_go 80 (by with_unfolding_all rfl) ?_
    refine rn_br (by with_unfolding_all rfl) (fun _ => ?_) (fun c_ => absurd ((by rw [if_neg q1])) c_)
    refine rn_go 80 (by with_unfolding_all rfl) ?_
    refine rn_cl (by with_unfolding_all rfl) (ev_up (by decide) (x6_hasPlaces hr i _)) ?_
    refine rn_go 80 (by with_unfolding_all rfl) ?_
    refine rn_br (by with_unfolding_all rfl) (fun _ => ?_) (fun c_ => absurd (q2) c_)
    refine rn_go 80 (by with_unfolding_all rfl) ?_
    refine rn_cl (by with_unfolding_all rfl) (ev_up (by decide) (x8_found 2)) ?_
    refine rn_go 80 (by with_unfolding_all rfl) ?_
    exact rn_rt (by with_unfolding_all rfl) trivial rfl rfl
  rw [if_neg q2] at hq
  obtain ⟨l, hl, hl2⟩ := (hok r hr).1.resolve_left q1
  obtain ⟨i, m', rfl, hm', hil⟩ := hp_of hl (by rw [← hl2]; exact q2)
  have := nI_inj (by omega) (by omega) hm'
  subst this
  rw [nI_clamp (show i < 2 ^ 31 by omega)] at hq
  cases hq
  obtain ⟨g2, t2, hg2, hrun⟩ := x4_costsL (g := g) (T := T) (A := A) (gm := gm) (Am := Am) (m := m) (r := r) (i := i) hb hX (by omega) hr (by omega) 9 0 (by omega) g (T 1) (fun _ _ => rfl)
  rw [tu_id] at hrun
  have key : am_ev 8 56 [.ref 40, .int (nI r), .int (nI i), .int (nI m)] (wd g T A gm Am) (some (.int (fsum (fitF (A 2) n mo dy (T 0) r i m 2) 1 9))) (wd g2 (tu T 1 t2) A gm Am) := by
    refine rn_ev am_m_X4_costsOf rfl rfl ?_
    refine rn_to 6 80 (by with_unfolding_all rfl) ?_
    with_unfolding_all exact hrun
  refine ⟨upd g2 1 0, t2, up_off hg2, ?_⟩
  · refine rn_ev am_m_X8_costs rfl rfl ?_
    refine rn_go 80 (by with_unfolding_all rfl) ?_
    refine rn_br (by with_unfolding_all rfl) (fun c_ => absurd c_ (q0)) (fun _ => ?_)
    refine rn_go 80 (by with_unfolding_all rfl) ?_
    refine rn_cl (by with_unfolding_all rfl) (ev_up (by decide) (x6_isRow _)) ?_
    refine rn_go 80 (by with_unfolding_all rfl) ?_
    refine rn_br (by with_unfolding_all rfl) (fun c_ => absurd c_ (b2)) (fun _ => ?_)
    refine rn_go 80 (by with_unfolding_all rfl) ?_
    refine rn_br (by with_unfolding_all rfl) (fun c_ => absurd c_ (b3)) (fun _ => ?_)
    refine rn_go 80 (by with_unfolding_all rfl) ?_
    refine rn_br (by with_unfolding_all rfl) (fun _ => ?_) (fun c_ => absurd (b4) c_)
    refine rn_go 80 (by with_unfolding_all rfl) ?_
    refine rn_cl (by with_unfolding_all rfl) (ev_up (by decide) (x6_isMissing hr)) ?_
    refine rn_go 80 (by with_unfolding_all rfl) ?_
    refine rn_br (by with_unfolding_all rfl) (fun _ => ?_) (fun c_ => absurd ((by rw [if_neg q1])) c_)
    refine rn_go 80 (by with_unfolding_all rfl) ?_
    refine rn_cl (by with_unfolding_all rfl) (ev_up (by decide) (x6_hasPlaces hr _ _)) ?_
    refine rn_go 80 (by with_unfolding_all rfl) ?_
    refine rn_br (by with_unfolding_all rfl) (fun c_ => absurd c_ (q2)) (fun _ => ?_)
    refine rn_go 80 (by with_unfolding_all rfl) ?_
    refine rn_cl (by with_unfolding_all rfl) (ev_up (by decide) (key)) ?_
    refine rn_go 80 (by with_unfolding_all rfl) ?_
    refine rn_cl (by with_unfolding_all rfl) (ev_up (by decide) (x8_well _)) ?_
    refine rn_go 80 (by with_unfolding_all rfl) ?_
    exact rn_rt (by with_unfolding_all rfl) trivial rfl rfl
set_option maxRecDepth 10000 in
theorem xm_fits0L {x r0 : Nat → Int32} {m r i : Nat} (he : Eqv n mo x (tv r0 0)) (hX : okX x n mo dy) {p : Nat} (hp : p < n) (hd : dy + m < 2000) (hr : r < 8) (hi : i + m ≤ 40) : ∀ k v, v + k = 21 → ∀ ro, Lo r0 ro → ∃ r', Lo r0 r' ∧ rn none 11 am_t_X9_fits (67, [some (.ref 43), some (.int (nI p)), some (.int (nI r)), some (.int (nI i)), some (.int (nI m)), some (.int 0), some (.int 0), some (.int (fsum (fitF (Am 4) n mo dy x r i m (13 + p)) 0 v)), some (.int (nI (0 + v)))], [], wd g T A gm (tu Am 0 ro)) (some (.int (fsum (fitF (Am 4) n mo dy x r i m (13 + p)) 0 21))) (wd g T A (upd gm 4 0) (tu Am 0 r'))
  | 0, v, hv, ro, hl => by
    have hin : v = 21 := by omega
    subst hin
    refine ⟨ro, hl, ?_⟩
    refine rn_go 80 (by with_unfolding_all rfl) ?_
    refine rn_br (by with_unfolding_all rfl) (fun _ => ?_) (fun c_ => absurd (rfl) c_)
    refine rn_go 80 (by with_unfolding_all rfl) ?_
    refine rn_br (by with_unfolding_all rfl) (fun _ => ?_) (fun c_ => absurd ((by decide)) c_)
    refine rn_go 80 (by with_unfolding_all rfl) ?_
    refine rn_cl (by with_unfolding_all rfl) (ev_up (by decide) (xm_well _)) ?_
    refine rn_go 80 (by with_unfolding_all rfl) ?_
    exact rn_rt (by with_unfolding_all rfl) trivial rfl rfl
  | k + 1, v, hv, ro, hl => by
    have h4 := hX.2.2.1
    obtain ⟨r1, hl1, hso⟩ := xm_isSo (g := g) (T := T) (A := A) (gm := gm) (Am := Am) (m := m) (r := r) (i := i) (pl := (13 + p)) (v := nI (0 + v)) hl he hX (by omega) (ox_br hX hp (show 0 + v ≤ 20 by omega)) hd hr hi
    obtain ⟨r2, hl2, ih⟩ := xm_fits0L he hX hp hd hr hi k (v + 1) (by omega) r1 hl1
    rw [← Nat.add_assoc, ← nI_1] at ih
    rw [← nI_add 13 p] at hso
    refine ⟨r2, hl2, ?_⟩
    refine rn_go 80 (by with_unfolding_all rfl) ?_
    refine rn_br (by with_unfolding_all rfl) (fun _ => ?_) (fun c_ => absurd (rfl) c_)
    refine rn_go 80 (by with_unfolding_all rfl) ?_
    refine rn_br (by with_unfolding_all rfl) (fun c_ => absurd c_ ((show ¬ nI 21 ≤ nI (0 + v) from nI_ge (by omega) (by omega)))) (fun _ => ?_)
    refine rn_go 80 (by with_unfolding_all rfl) ?_
    refine rn_br (by with_unfolding_all rfl) (fun _ => ?_) (fun c_ => absurd (rfl) c_)
    refine rn_go 80 (by with_unfolding_all rfl) ?_
    refine rn_cl (by with_unfolding_all rfl) (ev_up (by decide) (hso)) ?_
    refine rn_go 80 (by with_unfolding_all rfl) ?_
    refine rn_br (by with_unfolding_all rfl) (fun c => ?_) (fun c => ?_)
    · refine rn_to 67 80 (by with_unfolding_all rfl) ?_
      rw [sh_c (F := fitF (Am 4) n mo dy x r i m (13 + p)) c (by omega)] at ih
      with_unfolding_all exact ih
    · refine rn_to 67 80 (by with_unfolding_all rfl) ?_
      rw [sh_d (F := fitF (Am 4) n mo dy x r i m (13 + p)) c (cab_01 _ _ _ _ _ _ _)] at ih
      with_unfolding_all exact ih
set_option maxRecDepth 10000 in
theorem xm_fits1L {x r0 : Nat → Int32} {m r i : Nat} (he : Eqv n mo x (tv r0 0)) (hX : okX x n mo dy) {p : Nat} (hp : p < n) (hd : dy + m < 2000) (hr : r < 8) (hi : i + m ≤ 40) : ∀ k v, v + k = 5 → ∀ ro, Lo r0 ro → ∃ r', Lo r0 r' ∧ rn none 11 am_t_X9_fits (67, [some (.ref 43), some (.int (nI p)), some (.int (nI r)), some (.int (nI i)), some (.int (nI m)), some (.int 1), some (.int 0), some (.int (fsum (fitF (Am 4) n mo dy x r i m (9 + p)) 1 v)), some (.int (nI (1 + v)))], [], wd g T A gm (tu Am 0 ro)) (some (.int (fsum (fitF (Am 4) n mo dy x r i m (9 + p)) 1 5))) (wd g T A (upd gm 4 0) (tu Am 0 r'))
  | 0, v, hv, ro, hl => by
    have hin : v = 5 := by omega
    subst hin
    refine ⟨ro, hl, ?_⟩
    refine rn_go 80 (by with_unfolding_all rfl) ?_
    refine rn_br (by with_unfolding_all rfl) (fun c_ => absurd c_ ((by decide))) (fun _ => ?_)
    refine rn_go 80 (by with_unfolding_all rfl) ?_
    refine rn_br (by with_unfolding_all rfl) (fun _ => ?_) (fun c_ => absurd ((by decide)) c_)
    refine rn_go 80 (by with_unfolding_all rfl) ?_
    refine rn_cl (by with_unfolding_all rfl) (ev_up (by decide) (xm_well _)) ?_
    refine rn_go 80 (by with_unfolding_all rfl) ?_
    exact rn_rt (by with_unfolding_all rfl) trivial rfl rfl
  | k + 1, v, hv, ro, hl => by
    have h4 := hX.2.2.1
    obtain ⟨r1, hl1, hso⟩ := xm_isSo (g := g) (T := T) (A := A) (gm := gm) (Am := Am) (m := m) (r := r) (i := i) (pl := (9 + p)) (v := nI (1 + v)) hl he hX (by omega) (ox_kd hX hp (show 1 ≤ 1 + v by omega) (show 1 + v ≤ 5 by omega)) hd hr hi
    obtain ⟨r2, hl2, ih⟩ := xm_fits1L he hX hp hd hr hi k (v + 1) (by omega) r1 hl1
    rw [← Nat.add_assoc, ← nI_1] at ih
    rw [← nI_add 9 p] at hso
    refine ⟨r2, hl2, ?_⟩
    refine rn_go 80 (by with_unfolding_all rfl) ?_
    refine rn_br (by with_unfolding_all rfl) (fun c_ => absurd c_ ((by decide))) (fun _ => ?_)
    refine rn_go 80 (by with_unfolding_all rfl) ?_
    refine rn_br (by with_unfolding_all rfl) (fun c_ => absurd c_ ((show ¬ nI 6 ≤ nI (1 + v) from nI_ge (by omega) (by omega)))) (fun _ => ?_)
    refine rn_go 80 (by with_unfolding_all rfl) ?_
    refine rn_br (by with_unfolding_all rfl) (fun c_ => absurd c_ ((by decide))) (fun _ => ?_)
    refine rn_go 80 (by with_unfolding_all rfl) ?_
    refine rn_cl (by with_unfolding_all rfl) (ev_up (by decide) (hso)) ?_
    refine rn_go 80 (by with_unfolding_all rfl) ?_
    refine rn_br (by with_unfolding_all rfl) (fun c => ?_) (fun c => ?_)
    · refine rn_to 67 80 (by with_unfolding_all rfl) ?_
      rw [sh_c (F := fitF (Am 4) n mo dy x r i m (9 + p)) c (by omega)] at ih
      with_unfolding_all exact ih
    · refine rn_to 67 80 (by with_unfolding_all rfl) ?_
      rw [sh_d (F := fitF (Am 4) n mo dy x r i m (9 + p)) c (cab_01 _ _ _ _ _ _ _)] at ih
      with_unfolding_all exact ih
set_option maxRecDepth 10000 in
theorem xm_costsL {x r0 : Nat → Int32} {m r i : Nat} (he : Eqv n mo x (tv r0 0)) (hX : okX x n mo dy) (hd : dy + m < 2000) (hr : r < 8) (hi : i + m ≤ 40) : ∀ k v, v + k = 9 → ∀ ro, Lo r0 ro → ∃ r', Lo r0 r' ∧ rn none 11 am_t_X9_costs (55, [some (.ref 43), some (.int (nI r)), some (.int (nI i)), some (.int (nI m)), some (.int 0), some (.int (fsum (fitF (Am 4) n mo dy x r i m 2) 1 v)), some (.int (nI (1 + v)))], [], wd g T A gm (tu Am 0 ro)) (some (.int (fsum (fitF (Am 4) n mo dy x r i m 2) 1 9))) (wd g T A (upd gm 4 0) (tu Am 0 r'))
  | 0, v, hv, ro, hl => by
    have hin : v = 9 := by omega
    subst hin
    refine ⟨ro, hl, ?_⟩
    refine rn_go 80 (by with_unfolding_all rfl) ?_
    refine rn_br (by with_unfolding_all rfl) (fun _ => ?_) (fun c_ => absurd ((by decide)) c_)
    refine rn_go 80 (by with_unfolding_all rfl) ?_
    refine rn_cl (by with_unfolding_all rfl) (ev_up (by decide) (xm_well _)) ?_
    refine rn_go 80 (by with_unfolding_all rfl) ?_
    exact rn_rt (by with_unfolding_all rfl) trivial rfl rfl
  | k + 1, v, hv, ro, hl => by
    have h4 := hX.2.2.1
    obtain ⟨r1, hl1, hso⟩ := xm_isSo (g := g) (T := T) (A := A) (gm := gm) (Am := Am) (m := m) (r := r) (i := i) (pl := 2) (v := nI (1 + v)) hl he hX (by omega) (ox_co hX (show 1 + v ≤ 9 by omega)) hd hr hi
    obtain ⟨r2, hl2, ih⟩ := xm_costsL he hX hd hr hi k (v + 1) (by omega) r1 hl1
    rw [← Nat.add_assoc, ← nI_1] at ih
    skip
    refine ⟨r2, hl2, ?_⟩
    refine rn_go 80 (by with_unfolding_all rfl) ?_
    refine rn_br (by with_unfolding_all rfl) (fun c_ => absurd c_ ((show ¬ nI 10 ≤ nI (1 + v) from nI_ge (by omega) (by omega)))) (fun _ => ?_)
    refine rn_go 80 (by with_unfolding_all rfl) ?_
    refine rn_cl (by with_unfolding_all rfl) (ev_up (by decide) (hso)) ?_
    refine rn_go 80 (by with_unfolding_all rfl) ?_
    refine rn_br (by with_unfolding_all rfl) (fun c => ?_) (fun c => ?_)
    · refine rn_to 55 80 (by with_unfolding_all rfl) ?_
      rw [sh_c (F := fitF (Am 4) n mo dy x r i m 2) c (by omega)] at ih
      with_unfolding_all exact ih
    · refine rn_to 55 80 (by with_unfolding_all rfl) ?_
      rw [sh_d (F := fitF (Am 4) n mo dy x r i m 2) c (cab_01 _ _ _ _ _ _ _)] at ih
      with_unfolding_all exact ih
set_option maxRecDepth 10000 in
theorem xm_fits {x : Nat → Int32} (hn : x 1 = nI n) (hn4 : n ≤ 4) (he : Eqv n mo x (tv (Am 0) 0)) (hX : n = 0 ∨ okX x n mo dy) (hdy : dy ≤ 999) (hok : okR (Am 2) (Am 3)) (p r i k w : Int32) {v s : Int32} (hq : sFits x n mo dy p r i k w (Am 3) (Am 4) (gm 4) = (v, s)) : ∃ r', Lo (Am 0) r' ∧ am_ev 12 205 [.ref 43, .int p, .int r, .int i, .int k, .int w] (wd g T A gm Am) (some (.int v)) (wd g T A (upd gm 4 s) (tu Am 0 r')) := by
  have hn' : tv (Am 0) 0 1 = nI n := by rw [← he.1 1 (by decide)]; exact hn
  unfold sFits at hq
  by_cases hbad : (hm x p = 0 ∨ ir r = 0 ∨ k < 1 ∨ ¬ k ≤ 12 ∨ ie w = 0)
  · rw [if_pos hbad] at hq
    cases hq
    refine ⟨Am 0, fun j _ => rfl, ?_⟩
    rw [tu_id, up_id]
    refine rn_ev am_m_X9_fits rfl rfl ?_
    refine rn_go 80 (by with_unfolding_all rfl) ?_
    refine rn_cl (by with_unfolding_all rfl) (ev_up (by decide) (xm_isMember hn' hn4 _)) ?_
    rw [← cg_hm he]
    refine rn_go 80 (by with_unfolding_all rfl) ?_
    refine rn_br (by with_unfolding_all rfl) (fun c1 => ?_) (fun c1 => ?_)
    · refine rn_go 80 (by with_unfolding_all rfl) ?_
      exact rn_rt (by with_unfolding_all rfl) trivial rfl rfl
    refine rn_go 80 (by with_unfolding_all rfl) ?_
    refine rn_cl (by with_unfolding_all rfl) (ev_up (by decide) (xm_isRow _)) ?_
    refine rn_go 80 (by with_unfolding_all rfl) ?_
    refine rn_br (by with_unfolding_all rfl) (fun c2 => ?_) (fun c2 => ?_)
    · refine rn_go 80 (by with_unfolding_all rfl) ?_
      exact rn_rt (by with_unfolding_all rfl) trivial rfl rfl
    refine rn_go 80 (by with_unfolding_all rfl) ?_
    refine rn_cl (by with_unfolding_all rfl) (ev_up (by decide) (xm_in _ _ _)) ?_
    rw [inn_b (a := 1) (b := 12) (P := 1) (Q := 12) (by decide) (by decide)]
    refine rn_go 80 (by with_unfolding_all rfl) ?_
    refine rn_br (by with_unfolding_all rfl) (fun c3 => ?_) (fun c3 => ?_)
    · refine rn_go 80 (by with_unfolding_all rfl) ?_
      exact rn_rt (by with_unfolding_all rfl) trivial rfl rfl
    have c3 := btw_f c3
    refine rn_go 80 (by with_unfolding_all rfl) ?_
    refine rn_cl (by with_unfolding_all rfl) (ev_up (by decide) (xm_in _ _ _)) ?_
    rw [inn_b (a := 0) (b := 1) (P := 0) (Q := 1) (by decide) (by decide), ie_btw]
    refine rn_go 80 (by with_unfolding_all rfl) ?_
    refine rn_br (by with_unfolding_all rfl) (fun c5 => ?_) (fun c5 => ?_)
    · refine rn_go 80 (by with_unfolding_all rfl) ?_
      exact rn_rt (by with_unfolding_all rfl) trivial rfl rfl
    exfalso
    rcases hbad with q | q | q | q | q
    · exact c1 q
    · exact c2 q
    · exact c3.1 q
    · exact q c3.2
    · exact c5 q
  rw [if_neg hbad] at hq
  have b1 : ¬ hm x p = 0 := fun q => hbad (Or.inl q)
  have b2 : ¬ ir r = 0 := fun q => hbad (Or.inr (Or.inl q))
  have b3 : ¬ k < 1 := fun q => hbad (Or.inr (Or.inr (Or.inl q)))
  have b4 : k ≤ 12 := Classical.not_not.mp (fun q => hbad (Or.inr (Or.inr (Or.inr (Or.inl q)))))
  have b5 : ¬ ie w = 0 := fun q => hbad (Or.inr (Or.inr (Or.inr (Or.inr q))))
  obtain ⟨a, ha, rfl⟩ := hm_of hn hn4 b1
  have hX := hX.resolve_left (by omega)
  obtain ⟨r, hr, rfl⟩ := ir_of b2
  obtain ⟨m, hm1, hm12, rfl⟩ := ge1 (m := 12) (by decide) b3 b4
  rw [nI_clamp (show r < 2 ^ 31 by omega), nI_clamp (show m < 2 ^ 31 by omega), nI_clamp (show a < 2 ^ 31 by omega)] at hq
  unfold sItems at hq
  by_cases q1 : Am 3 r = -1
  · rw [if_pos q1] at hq
    cases hq
    refine ⟨Am 0, fun j _ => rfl, ?_⟩
    rw [tu_id]
    refine rn_ev am_m_X9_fits rfl rfl ?_
    refine rn_go 80 (by with_unfolding_all rfl) ?_
    refine rn_cl (by with_unfolding_all rfl) (ev_up (by decide) (xm_isMember hn' hn4 _)) ?_
    rw [← cg_hm he]
    refine rn_go 80 (by with_unfolding_all rfl) ?_
    refine rn_br (by with_unfolding_all rfl) (fun c_ => absurd c_ (b1)) (fun _ => ?_)
    refine rn_go 80 (by with_unfolding_all rfl) ?_
    refine rn_cl (by with_unfolding_all rfl) (ev_up (by decide) (xm_isRow _)) ?_
    refine rn_go 80 (by with_unfolding_all rfl) ?_
    refine rn_br (by with_unfolding_all rfl) (fun c_ => absurd c_ (b2)) (fun _ => ?_)
    refine rn_go 80 (by with_unfolding_all rfl) ?_
    refine rn_cl (by with_unfolding_all rfl) (ev_up (by decide) (xm_in _ _ _)) ?_
    rw [inn_b (a := 1) (b := 12) (P := 1) (Q := 12) (by decide) (by decide)]
    refine rn_go 80 (by with_unfolding_all rfl) ?_
    refine rn_br (by with_unfolding_all rfl) (fun c_ => absurd c_ (btw_t b3 b4)) (fun _ => ?_)
    refine rn_go 80 (by with_unfolding_all rfl) ?_
    refine rn_cl (by with_unfolding_all rfl) (ev_up (by decide) (xm_in _ _ _)) ?_
    rw [inn_b (a := 0) (b := 1) (P := 0) (Q := 1) (by decide) (by decide), ie_btw]
    refine rn_go 80 (by with_unfolding_all rfl) ?_
    refine rn_br (by with_unfolding_all rfl) (fun c_ => absurd c_ (b5)) (fun _ => ?_)
    refine rn_go 80 (by with_unfolding_all rfl) ?_
    refine rn_cl (by with_unfolding_all rfl) (ev_up (by decide) (xm_no1 hr hok _ _ q1)) ?_
    refine rn_go 80 (by with_unfolding_all rfl) ?_
    refine rn_br (by with_unfolding_all rfl) (fun c_ => absurd c_ ((by decide))) (fun _ => ?_)
    refine rn_go 80 (by with_unfolding_all rfl) ?_
    exact rn_rt (by with_unfolding_all rfl) trivial rfl rfl
  rw [if_neg q1] at hq
  by_cases q2 : hp (Am 3 r) i (nI m) = 0
  · rw [if_pos q2] at hq
    cases hq
    refine ⟨Am 0, fun j _ => rfl, ?_⟩
    rw [tu_id]
    refine rn_ev am_m_X9_fits rfl rfl ?_
    refine rn_go 80 (by with_unfolding_all rfl) ?_
    refine rn_cl (by with_unfolding_all rfl) (ev_up (by decide) (xm_isMember hn' hn4 _)) ?_
    rw [← cg_hm he]
    refine rn_go 80 (by with_unfolding_all rfl) ?_
    refine rn_br (by with_unfolding_all rfl) (fun c_ => absurd c_ (b1)) (fun _ => ?_)
    refine rn_go 80 (by with_unfolding_all rfl) ?_
    refine rn_cl (by with_unfolding_all rfl) (ev_up (by decide) (xm_isRow _)) ?_
    refine rn_go 80 (by with_unfolding_all rfl) ?_
    refine rn_br (by with_unfolding_all rfl) (fun c_ => absurd c_ (b2)) (fun _ => ?_)
    refine rn_go 80 (by with_unfolding_all rfl) ?_
    refine rn_cl (by with_unfolding_all rfl) (ev_up (by decide) (xm_in _ _ _)) ?_
    rw [inn_b (a := 1) (b := 12) (P := 1) (Q := 12) (by decide) (by decide)]
    refine rn_go 80 (by with_unfolding_all rfl) ?_
    refine rn_br (by with_unfolding_all rfl) (fun c_ => absurd c_ (btw_t b3 b4)) (fun _ => ?_)
    refine rn_go 80 (by with_unfolding_all rfl) ?_
    refine rn_cl (by with_unfolding_all rfl) (ev_up (by decide) (xm_in _ _ _)) ?_
    rw [inn_b (a := 0) (b := 1) (P := 0) (Q := 1) (by decide) (by decide), ie_btw]
    refine rn_go 80 (by with_unfolding_all rfl) ?_
    refine rn_br (by with_unfolding_all rfl) (fun c_ => absurd c_ (b5)) (fun _ => ?_)
    refine rn_go 80 (by with_unfolding_all rfl) ?_
    refine rn_cl (by with_unfolding_all rfl) (ev_up (by decide) (xm_no2 hr hok _ _ q1 q2)) ?_
    refine rn_go 80 (by with_unfolding_all rfl) ?_
    refine rn_br (by with_unfolding_all rfl) (fun c_ => absurd c_ ((by decide))) (fun _ => ?_)
    refine rn_go 80 (by with_unfolding_all rfl) ?_
    exact rn_rt (by with_unfolding_all rfl) trivial rfl rfl
  rw [if_neg q2] at hq
  obtain ⟨l, hl, hl2⟩ := (hok r hr).1.resolve_left q1
  obtain ⟨i, m', rfl, hm', hil⟩ := hp_of hl (by rw [← hl2]; exact q2)
  have := nI_inj (by omega) (by omega) hm'
  subst this
  rw [nI_clamp (show i < 2 ^ 31 by omega)] at hq
  rcases ie_of b5 with e5 | e5
  · subst e5
    rw [if_pos rfl] at hq
    cases hq
    obtain ⟨r2, hl2', hrun⟩ := xm_fits0L (g := g) (T := T) (A := A) (gm := gm) (Am := Am) (m := m) (r := r) (i := i) he hX ha (by omega) hr (by omega) 21 0 (by omega) (Am 0) (fun _ _ => rfl)
    rw [tu_id] at hrun
    refine ⟨r2, hl2', ?_⟩
    refine rn_ev am_m_X9_fits rfl rfl ?_
    refine rn_go 80 (by with_unfolding_all rfl) ?_
    refine rn_cl (by with_unfolding_all rfl) (ev_up (by decide) (xm_isMember hn' hn4 _)) ?_
    rw [← cg_hm he]
    refine rn_go 80 (by with_unfolding_all rfl) ?_
    refine rn_br (by with_unfolding_all rfl) (fun c_ => absurd c_ (b1)) (fun _ => ?_)
    refine rn_go 80 (by with_unfolding_all rfl) ?_
    refine rn_cl (by with_unfolding_all rfl) (ev_up (by decide) (xm_isRow _)) ?_
    refine rn_go 80 (by with_unfolding_all rfl) ?_
    refine rn_br (by with_unfolding_all rfl) (fun c_ => absurd c_ (b2)) (fun _ => ?_)
    refine rn_go 80 (by with_unfolding_all rfl) ?_
    refine rn_cl (by with_unfolding_all rfl) (ev_up (by decide) (xm_in _ _ _)) ?_
    rw [inn_b (a := 1) (b := 12) (P := 1) (Q := 12) (by decide) (by decide)]
    refine rn_go 80 (by with_unfolding_all rfl) ?_
    refine rn_br (by with_unfolding_all rfl) (fun c_ => absurd c_ (btw_t b3 b4)) (fun _ => ?_)
    refine rn_go 80 (by with_unfolding_all rfl) ?_
    refine rn_cl (by with_unfolding_all rfl) (ev_up (by decide) (xm_in _ _ _)) ?_
    rw [inn_b (a := 0) (b := 1) (P := 0) (Q := 1) (by decide) (by decide), ie_btw]
    refine rn_go 80 (by with_unfolding_all rfl) ?_
    refine rn_br (by with_unfolding_all rfl) (fun c_ => absurd c_ (b5)) (fun _ => ?_)
    refine rn_go 80 (by with_unfolding_all rfl) ?_
    refine rn_cl (by with_unfolding_all rfl) (ev_up (by decide) (xm_no0 hr hok _ _ q1 q2)) ?_
    refine rn_go 80 (by with_unfolding_all rfl) ?_
    refine rn_br (by with_unfolding_all rfl) (fun _ => ?_) (fun c_ => absurd (rfl) c_)
    refine rn_to 67 80 (by with_unfolding_all rfl) ?_
    with_unfolding_all exact hrun
  · subst e5
    rw [if_neg (by decide)] at hq
    cases hq
    obtain ⟨r2, hl2', hrun⟩ := xm_fits1L (g := g) (T := T) (A := A) (gm := gm) (Am := Am) (m := m) (r := r) (i := i) he hX ha (by omega) hr (by omega) 5 0 (by omega) (Am 0) (fun _ _ => rfl)
    rw [tu_id] at hrun
    refine ⟨r2, hl2', ?_⟩
    refine rn_ev am_m_X9_fits rfl rfl ?_
    refine rn_go 80 (by with_unfolding_all rfl) ?_
    refine rn_cl (by with_unfolding_all rfl) (ev_up (by decide) (xm_isMember hn' hn4 _)) ?_
    rw [← cg_hm he]
    refine rn_go 80 (by with_unfolding_all rfl) ?_
    refine rn_br (by with_unfolding_all rfl) (fun c_ => absurd c_ (b1)) (fun _ => ?_)
    refine rn_go 80 (by with_unfolding_all rfl) ?_
    refine rn_cl (by with_unfolding_all rfl) (ev_up (by decide) (xm_isRow _)) ?_
    refine rn_go 80 (by with_unfolding_all rfl) ?_
    refine rn_br (by with_unfolding_all rfl) (fun c_ => absurd c_ (b2)) (fun _ => ?_)
    refine rn_go 80 (by with_unfolding_all rfl) ?_
    refine rn_cl (by with_unfolding_all rfl) (ev_up (by decide) (xm_in _ _ _)) ?_
    rw [inn_b (a := 1) (b := 12) (P := 1) (Q := 12) (by decide) (by decide)]
    refine rn_go 80 (by with_unfolding_all rfl) ?_
    refine rn_br (by with_unfolding_all rfl) (fun c_ => absurd c_ (btw_t b3 b4)) (fun _ => ?_)
    refine rn_go 80 (by with_unfolding_all rfl) ?_
    refine rn_cl (by with_unfolding_all rfl) (ev_up (by decide) (xm_in _ _ _)) ?_
    rw [inn_b (a := 0) (b := 1) (P := 0) (Q := 1) (by decide) (by decide), ie_btw]
    refine rn_go 80 (by with_unfolding_all rfl) ?_
    refine rn_br (by with_unfolding_all rfl) (fun c_ => absurd c_ (b5)) (fun _ => ?_)
    refine rn_go 80 (by with_unfolding_all rfl) ?_
    refine rn_cl (by with_unfolding_all rfl) (ev_up (by decide) (xm_no0 hr hok _ _ q1 q2)) ?_
    refine rn_go 80 (by with_unfolding_all rfl) ?_
    refine rn_br (by with_unfolding_all rfl) (fun _ => ?_) (fun c_ => absurd (rfl) c_)
    refine rn_to 67 80 (by with_unfolding_all rfl) ?_
    with_unfolding_all exact hrun
set_option maxRecDepth 10000 in
theorem xm_costs {x : Nat → Int32} (hX : gm 0 = 0 ∨ okX x n mo dy) (he : Eqv n mo x (tv (Am 0) 0)) (hdy : dy ≤ 999) (hok : okR (Am 2) (Am 3)) (r i k : Int32) {v s : Int32} (hq : sCosts (gm 0) x n mo dy r i k (Am 3) (Am 4) (gm 4) = (v, s)) : ∃ r', Lo (Am 0) r' ∧ am_ev 12 206 [.ref 43, .int r, .int i, .int k] (wd g T A gm Am) (some (.int v)) (wd g T A (upd gm 4 s) (tu Am 0 r')) := by
  unfold sCosts at hq
  by_cases q0 : gm 0 = 0
  · rw [if_pos q0] at hq
    cases hq
    refine ⟨Am 0, fun j _ => rfl, ?_⟩
    rw [tu_id, up_id]
    refine rn_ev am_m_X9_costs rfl rfl ?_
    refine rn_go 80 (by with_unfolding_all rfl) ?_
    refine rn_br (by with_unfolding_all rfl) (fun _ => ?_) (fun c_ => absurd (q0) c_)
    refine rn_go 80 (by with_unfolding_all rfl) ?_
    exact rn_rt (by with_unfolding_all rfl) trivial rfl rfl
  rw [if_neg q0] at hq
  have hX := hX.resolve_left q0
  by_cases hbad : (ir r = 0 ∨ k < 1 ∨ ¬ k ≤ 12)
  · rw [if_pos hbad] at hq
    cases hq
    refine ⟨Am 0, fun j _ => rfl, ?_⟩
    rw [tu_id, up_id]
    refine rn_ev am_m_X9_costs rfl rfl ?_
    refine rn_go 80 (by with_unfolding_all rfl) ?_
    refine rn_br (by with_unfolding_all rfl) (fun c_ => absurd c_ (q0)) (fun _ => ?_)
    refine rn_go 80 (by with_unfolding_all rfl) ?_
    refine rn_cl (by with_unfolding_all rfl) (ev_up (by decide) (xm_isRow _)) ?_
    refine rn_go 80 (by with_unfolding_all rfl) ?_
    refine rn_br (by with_unfolding_all rfl) (fun c2 => ?_) (fun c2 => ?_)
    · refine rn_go 80 (by with_unfolding_all rfl) ?_
      exact rn_rt (by with_unfolding_all rfl) trivial rfl rfl
    refine rn_go 80 (by with_unfolding_all rfl) ?_
    refine rn_cl (by with_unfolding_all rfl) (ev_up (by decide) (xm_in _ _ _)) ?_
    rw [inn_b (a := 1) (b := 12) (P := 1) (Q := 12) (by decide) (by decide)]
    refine rn_go 80 (by with_unfolding_all rfl) ?_
    refine rn_br (by with_unfolding_all rfl) (fun c3 => ?_) (fun c3 => ?_)
    · refine rn_go 80 (by with_unfolding_all rfl) ?_
      exact rn_rt (by with_unfolding_all rfl) trivial rfl rfl
    exfalso
    have c3 := btw_f c3
    rcases hbad with q | q | q
    · exact c2 q
    · exact c3.1 q
    · exact q c3.2
  rw [if_neg hbad] at hq
  have b2 : ¬ ir r = 0 := fun q => hbad (Or.inl q)
  have b3 : ¬ k < 1 := fun q => hbad (Or.inr (Or.inl q))
  have b4 : k ≤ 12 := Classical.not_not.mp (fun q => hbad (Or.inr (Or.inr q)))
  obtain ⟨r, hr, rfl⟩ := ir_of b2
  obtain ⟨m, hm1, hm12, rfl⟩ := ge1 (m := 12) (by decide) b3 b4
  rw [nI_clamp (show r < 2 ^ 31 by omega), nI_clamp (show m < 2 ^ 31 by omega)] at hq
  unfold sItems at hq
  by_cases q1 : Am 3 r = -1
  · rw [if_pos q1] at hq
    cases hq
    refine ⟨Am 0, fun j _ => rfl, ?_⟩
    rw [tu_id]
    refine rn_ev am_m_X9_costs rfl rfl ?_
    refine rn_go 80 (by with_unfolding_all rfl) ?_
    refine rn_br (by with_unfolding_all rfl) (fun c_ => absurd c_ (q0)) (fun _ => ?_)
    refine rn_go 80 (by with_unfolding_all rfl) ?_
    refine rn_cl (by with_unfolding_all rfl) (ev_up (by decide) (xm_isRow _)) ?_
    refine rn_go 80 (by with_unfolding_all rfl) ?_
    refine rn_br (by with_unfolding_all rfl) (fun c_ => absurd c_ (b2)) (fun _ => ?_)
    refine rn_go 80 (by with_unfolding_all rfl) ?_
    refine rn_cl (by with_unfolding_all rfl) (ev_up (by decide) (xm_in _ _ _)) ?_
    rw [inn_b (a := 1) (b := 12) (P := 1) (Q := 12) (by decide) (by decide)]
    refine rn_go 80 (by with_unfolding_all rfl) ?_
    refine rn_br (by with_unfolding_all rfl) (fun c_ => absurd c_ (btw_t b3 b4)) (fun _ => ?_)
    refine rn_go 80 (by with_unfolding_all rfl) ?_
    refine rn_cl (by with_unfolding_all rfl) (ev_up (by decide) (xm_no1 hr hok _ _ q1)) ?_
    refine rn_go 80 (by with_unfolding_all rfl) ?_
    refine rn_br (by with_unfolding_all rfl) (fun c_ => absurd c_ ((by decide))) (fun _ => ?_)
    refine rn_go 80 (by with_unfolding_all rfl) ?_
    exact rn_rt (by with_unfolding_all rfl) trivial rfl rfl
  rw [if_neg q1] at hq
  by_cases q2 : hp (Am 3 r) i (nI m) = 0
  · rw [if_pos q2] at hq
    cases hq
    refine ⟨Am 0, fun j _ => rfl, ?_⟩
    rw [tu_id]
    refine rn_ev am_m_X9_costs rfl rfl ?_
    refine rn_go 80 (by with_unfolding_all rfl) ?_
    refine rn_br (by with_unfolding_all rfl) (fun c_ => absurd c_ (q0)) (fun _ => ?_)
    refine rn_go 80 (by with_unfolding_all rfl) ?_
    refine rn_cl (by with_unfolding_all rfl) (ev_up (by decide) (xm_isRow _)) ?_
    refine rn_go 80 (by with_unfolding_all rfl) ?_
    refine rn_br (by with_unfolding_all rfl) (fun c_ => absurd c_ (b2)) (fun _ => ?_)
    refine rn_go 80 (by with_unfolding_all rfl) ?_
    refine rn_cl (by with_unfolding_all rfl) (ev_up (by decide) (xm_in _ _ _)) ?_
    rw [inn_b (a := 1) (b := 12) (P := 1) (Q := 12) (by decide) (by decide)]
    refine rn_go 80 (by with_unfolding_all rfl) ?_
    refine rn_br (by with_unfolding_all rfl) (fun c_ => absurd c_ (btw_t b3 b4)) (fun _ => ?_)
    refine rn_go 80 (by with_unfolding_all rfl) ?_
    refine rn_cl (by with_unfolding_all rfl) (ev_up (by decide) (xm_no2 hr hok _ _ q1 q2)) ?_
    refine rn_go 80 (by with_unfolding_all rfl) ?_
    refine rn_br (by with_unfolding_all rfl) (fun c_ => absurd c_ ((by decide))) (fun _ => ?_)
    refine rn_go 80 (by with_unfolding_all rfl) ?_
    exact rn_rt (by with_unfolding_all rfl) trivial rfl rfl
  rw [if_neg q2] at hq
  obtain ⟨l, hl, hl2⟩ := (hok r hr).1.resolve_left q1
  obtain ⟨i, m', rfl, hm', hil⟩ := hp_of hl (by rw [← hl2]; exact q2)
  have := nI_inj (by omega) (by omega) hm'
  subst this
  rw [nI_clamp (show i < 2 ^ 31 by omega)] at hq
  cases hq
  obtain ⟨r2, hl2', hrun⟩ := xm_costsL (g := g) (T := T) (A := A) (gm := gm) (Am := Am) (m := m) (r := r) (i := i) he hX (by omega) hr (by omega) 9 0 (by omega) (Am 0) (fun _ _ => rfl)
  rw [tu_id] at hrun
  refine ⟨r2, hl2', ?_⟩
  · refine rn_ev am_m_X9_costs rfl rfl ?_
    refine rn_go 80 (by with_unfolding_all rfl) ?_
    refine rn_br (by with_unfolding_all rfl) (fun c_ => absurd c_ (q0)) (fun _ => ?_)
    refine rn_go 80 (by with_unfolding_all rfl) ?_
    refine rn_cl (by with_unfolding_all rfl) (ev_up (by decide) (xm_isRow _)) ?_
    refine rn_go 80 (by with_unfolding_all rfl) ?_
    refine rn_br (by with_unfolding_all rfl) (fun c_ => absurd c_ (b2)) (fun _ => ?_)
    refine rn_go 80 (by with_unfolding_all rfl) ?_
    refine rn_cl (by with_unfolding_all rfl) (ev_up (by decide) (xm_in _ _ _)) ?_
    rw [inn_b (a := 1) (b := 12) (P := 1) (Q := 12) (by decide) (by decide)]
    refine rn_go 80 (by with_unfolding_all rfl) ?_
    refine rn_br (by with_unfolding_all rfl) (fun c_ => absurd c_ (btw_t b3 b4)) (fun _ => ?_)
    refine rn_go 80 (by with_unfolding_all rfl) ?_
    refine rn_cl (by with_unfolding_all rfl) (ev_up (by decide) (xm_no0 hr hok _ _ q1 q2)) ?_
    refine rn_go 80 (by with_unfolding_all rfl) ?_
    refine rn_br (by with_unfolding_all rfl) (fun _ => ?_) (fun c_ => absurd (rfl) c_)
    refine rn_to 55 80 (by with_unfolding_all rfl) ?_
    with_unfolding_all exact hrun
end
end

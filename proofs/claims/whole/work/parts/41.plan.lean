/-! the best plan of days: the class -/
def Rb (nd : Nat) (b : Nat → Int32) (s : Nat × (Nat → Int32)) : Prop := s.1 = 0 ∨ ∀ i, i < nd → b i = s.2 i
set_option maxRecDepth 10000 in
theorem a3_6 {A : Nat → Nat → Int32} {a6 a7 a8 b : Nat → Int32} : tu (tu (tu (tu A 6 a6) 7 a7) 8 a8) 6 b = tu (tu (tu A 6 b) 7 a7) 8 a8 := by
  rw [tu_cm (show 8 ≠ 6 by decide), tu_cm (show 7 ≠ 6 by decide), tu_tu]
set_option maxRecDepth 10000 in
theorem a3_7 {A : Nat → Nat → Int32} {a6 a7 a8 b : Nat → Int32} : tu (tu (tu (tu A 6 a6) 7 a7) 8 a8) 7 b = tu (tu (tu A 6 a6) 7 b) 8 a8 := by
  rw [tu_cm (show 8 ≠ 7 by decide), tu_tu]
set_option maxRecDepth 10000 in
theorem r3_6 {A : Nat → Nat → Int32} {a6 a7 a8 : Nat → Int32} : tu (tu (tu A 6 a6) 7 a7) 8 a8 6 = a6 := by
  rw [tu_n (by decide), tu_n (by decide), tu_s]
set_option maxRecDepth 10000 in
theorem r3_7 {A : Nat → Nat → Int32} {a6 a7 a8 : Nat → Int32} : tu (tu (tu A 6 a6) 7 a7) 8 a8 7 = a7 := by
  rw [tu_n (by decide), tu_s]
section
variable {g gm : Nat → Int32} {T A Am : Nat → Nat → Int32} {h : am_H} {n mo : Nat}
set_option maxRecDepth 10000 in
theorem ws_ov {src : Nat → Int32} {b : Nat} : (wd g T A gm Am).set 13 (.inl (false, 4, va_cpy src (wa (T 1) 13) b 0 4)) = wd g (tu T 1 (ov (T 1) (fun i => src (b + i)) 4)) A gm Am := by
  have e13 : wa (ov (T 1) (fun i => src (b + i)) 4) 13 = va_cpy src (wa (T 1) 13) b 0 4 := by
    funext j
    by_cases hj : j < 4
    · rw [wa_at hj, ov_at hj, pk_cpy_in (by omega) (by omega), Nat.sub_zero]
    · rw [pk_cpy_out (by omega)]
      unfold wa
      rw [if_neg hj, if_neg hj]
  have ew : ∀ c, (c + 4 ≤ 13 ∨ 17 ≤ c) → wa (ov (T 1) (fun i => src (b + i)) 4) c = wa (T 1) c := by
    intro c hc
    funext j
    by_cases hj : j < 4
    · rw [wa_at hj, wa_at hj, ov_lo (by omega)]
    · unfold wa
      rw [if_neg hj, if_neg hj]
  unfold wd
  simp only [List.set_cons_succ, List.set_cons_zero, show tu T 1 (ov (T 1) (fun i => src (b + i)) 4) 0 = T 0 from rfl, show tu T 1 (ov (T 1) (fun i => src (b + i)) 4) 1 = ov (T 1) (fun i => src (b + i)) 4 from rfl, show tu T 1 (ov (T 1) (fun i => src (b + i)) 4) 2 = T 2 from rfl, show tu T 1 (ov (T 1) (fun i => src (b + i)) 4) 3 = T 3 from rfl, show tu T 1 (ov (T 1) (fun i => src (b + i)) 4) 4 = T 4 from rfl, e13, ew 5 (by omega), ew 9 (by omega), ew 17 (by omega), ov_lo (show 0 < 13 ∨ 13 + 4 ≤ 0 by omega), ov_lo (show 1 < 13 ∨ 13 + 4 ≤ 1 by omega), ov_lo (show 2 < 13 ∨ 13 + 4 ≤ 2 by omega), ov_lo (show 3 < 13 ∨ 13 + 4 ≤ 3 by omega), ov_lo (show 4 < 13 ∨ 13 + 4 ≤ 4 by omega)]
set_option maxRecDepth 10000 in
theorem x5_takeL {m : Nat} {a6 a7 a8 : Nat → Int32} (h7 : g 7 = nI (m + 1)) (hm : m < 4) (last cM : Int32) : ∀ q i, i + q = m → rn none 0 am_t_X5_takePath (7, [some (.ref 36), some (.int last), some (.int cM), some (.int (nI i))], [], wd g T (tu (tu (tu A 6 a6) 7 a7) 8 (fl a8 a7 i)) gm Am) none (wd g T (tu (tu (tu A 6 a6) 7 a7) 8 (upd (fl a8 a7 m) m last)) gm Am)
  | 0, i, hi => by
    have hin : i = m := by omega
    subst hin
    refine rn_go 80 (by with_unfolding_all rfl) ?_
    refine rn_br (by with_unfolding_all rfl) (fun _ => ?_) (fun c_ => absurd ((by rw [h7, nI_pred]; exact Int32.le_refl _)) c_)
    refine rn_go 80 (by with_unfolding_all rfl) ?_
    refine rn_st (i) (by with_unfolding_all rfl) (by rw [h7, nI_pred]) (by omega) (by decide) ?_
    refine rn_hp (by with_unfolding_all exact (wA_8)) ?_
    rw [tu_s, tu_tu]
    refine rn_go 80 (by with_unfolding_all rfl) ?_
    exact rn_rt (by with_unfolding_all rfl) trivial rfl rfl
  | q + 1, i, hi => by
    have ih := x5_takeL h7 hm last cM (a6 := a6) (a7 := a7) (a8 := a8) q (i + 1) (by omega)
    rw [← nI_1, ← fl_s] at ih
    refine rn_go 80 (by with_unfolding_all rfl) ?_
    refine rn_br (by with_unfolding_all rfl) (fun c_ => absurd c_ ((by rw [h7, nI_pred]; exact nI_ge (by omega) (by omega)))) (fun _ => ?_)
    refine rn_go 80 (by with_unfolding_all rfl) ?_
    refine rn_ld (i) (by with_unfolding_all rfl) rfl (by omega) (by decide) ?_
    rw [r3_7]
    refine rn_go 80 (by with_unfolding_all rfl) ?_
    refine rn_st (i) (by with_unfolding_all rfl) rfl (by omega) (by decide) ?_
    refine rn_hp (by with_unfolding_all exact (wA_8)) ?_
    rw [tu_s, tu_tu]
    refine rn_to 7 80 (by with_unfolding_all rfl) ?_
    with_unfolding_all exact ih
set_option maxRecDepth 10000 in
theorem x5_take {m : Nat} {a6 a7 a8 : Nat → Int32} (h7 : g 7 = nI (m + 1)) (hm : m < 4) (last cM : Int32) : am_ev 1 62 [.ref 36, .int last, .int cM] (wd g T (tu (tu (tu A 6 a6) 7 a7) 8 a8) gm Am) none (wd (upd g 8 cM) T (tu (tu (tu A 6 a6) 7 a7) 8 (upd (fl a8 a7 m) m last)) gm Am) := by
  have key := x5_takeL (g := upd g 8 cM) (T := T) (A := A) (gm := gm) (Am := Am) (a6 := a6) (a7 := a7) (a8 := a8) (by rw [up_ne (by decide)]; exact h7) hm last cM m 0 (by omega)
  rw [fl_0] at key
  refine rn_ev am_m_X5_takePath rfl rfl ?_
  refine rn_to 5 80 (by with_unfolding_all rfl) ?_
  refine rn_hp (by with_unfolding_all exact (wG_8)) ?_
  refine rn_to 7 80 (by with_unfolding_all rfl) ?_
  with_unfolding_all exact key
set_option maxRecDepth 10000 in
theorem Rb_take {m c : Nat} {p a7 a8 : Nat → Int32} {last : Int32} (hp : ∀ i, i < m → a7 i = p i) : Rb (m + 1) (upd (fl a8 a7 m) m last) (c, upd p m last) := Or.inr (fun i hi => by
  show upd (fl a8 a7 m) m last i = upd p m last i
  by_cases e : i = m
  · rw [e, up_eq, up_eq]
  · rw [up_ne e, up_ne e]
    unfold fl
    rw [if_pos (by omega), hp i (by omega)])
set_option maxRecDepth 10000 in
theorem x5_closeL {m aN c dyy : Nat} {x p a6 a7 a8 : Nat → Int32} {d4 : Int32} {s : Nat × (Nat → Int32)} (hX : okX x n mo dyy) (ha : aN < 16) (hta : ta x n = nI aN) (hyes : cN x (nI aN) (nI aN) n dyy mo = 1) (h7 : g 7 = nI (m + 1)) (hm : m < 4) (hp : ∀ i, i < m → a7 i = p i) (hs : s.1 ≤ c + 1) : ∀ q j, j + q = aN + 1 → (∀ i, i < j → nI i &&& (nI aN ^^^ -1) = 0 → cN x (nI i) (nI aN) n dyy mo = 0) → ∃ a8', Rb (m + 1) a8' (vis n mo (m + 1) 1 dyy x c p s) ∧ rn none 5 am_t_X5_closePlan (29, [some (.ref 36), some (.int (nI aN)), some (.int (nI c)), some (.int (nI j))], [], wd g (tu T 1 (upd x 4 d4)) (tu (tu (tu A 6 a6) 7 a7) 8 a8) gm Am) none (wd (upd g 8 (mI (vis n mo (m + 1) 1 dyy x c p s).1)) (tu T 1 (upd x 4 d4)) (tu (tu (tu A 6 a6) 7 a7) 8 a8') gm Am)
  | 0, j, hj, hpre => by
    exfalso
    have hsub : ∀ a, a < 16 → nI a &&& (nI a ^^^ -1) = 0 := by decide +kernel
    have := hpre aN (by omega) (hsub aN ha)
    omega
  | q + 1, j, hj, hpre => by
    have hcar := xk_carried (g := g) (T := T) (A := (tu (tu (tu A 6 a6) 7 a7) 8 a8)) (gm := gm) (Am := Am) (nz_ox (c := d4) hX) (nI j) (nI aN)
    rw [cw4 hX.2.2.2.2.1 hX.2.2.2.2.2.1] at hcar
    by_cases c1 : nI j &&& (nI aN ^^^ -1) = 0
    · by_cases c2 : cw x (nI j) (nI aN) n dyy mo = 0
      · obtain ⟨a8', hR, ih⟩ := x5_closeL hX ha hta hyes h7 hm hp hs q (j + 1) (by omega) (fun i hi hsub => by
          by_cases e : i = j
          · subst e; exact cN_0.mp c2
          · exact hpre i (by omega) hsub)
        rw [← nI_1] at ih
        refine ⟨a8', hR, ?_⟩
        refine rn_go 80 (by with_unfolding_all rfl) ?_
        refine rn_br (by with_unfolding_all rfl) (fun c_ => absurd c_ (nI_nlt (by omega) (by omega))) (fun _ => ?_)
        refine rn_go 80 (by with_unfolding_all rfl) ?_
        refine rn_br (by with_unfolding_all rfl) (fun _ => ?_) (fun c_ => absurd (c1) c_)
        refine rn_go 80 (by with_unfolding_all rfl) ?_
        refine rn_cl (by with_unfolding_all rfl) (ev_up (by decide) (hcar)) ?_
        refine rn_go 80 (by with_unfolding_all rfl) ?_
        refine rn_br (by with_unfolding_all rfl) (fun _ => ?_) (fun c_ => absurd (c2) c_)
        refine rn_to 29 80 (by with_unfolding_all rfl) ?_
        with_unfolding_all exact ih
      · have hc1 : cN x (nI j) (nI aN) n dyy mo = 1 := by
          have h1 := cN_1 (x := x) (s := nI j) (a := nI aN) (n := n) (dy := dyy) (mo := mo)
          have h2 : ¬ cN x (nI j) (nI aN) n dyy mo = 0 := fun q => c2 (cN_0.mpr q)
          omega
        have ev : vis n mo (m + 1) 1 dyy x c p s = (c + 1 + 1, upd p m (nI j)) := vis_yes (by omega) (by rw [hta]; exact c1) (by rw [hta]; exact hc1) (by rw [hta]; exact hpre) hs
        rw [ev]
        refine ⟨_, Rb_take (a8 := a8) hp, ?_⟩
        rw [show mI ((c + 1 + 1, upd p m (nI j)) : Nat × (Nat → Int32)).1 = nI c + 1 by show mI (c + 1 + 1) = _; rw [mI_s, nI_1]]
        refine rn_go 80 (by with_unfolding_all rfl) ?_
        refine rn_br (by with_unfolding_all rfl) (fun c_ => absurd c_ (nI_nlt (by omega) (by omega))) (fun _ => ?_)
        refine rn_go 80 (by with_unfolding_all rfl) ?_
        refine rn_br (by with_unfolding_all rfl) (fun _ => ?_) (fun c_ => absurd (c1) c_)
        refine rn_go 80 (by with_unfolding_all rfl) ?_
        refine rn_cl (by with_unfolding_all rfl) (ev_up (by decide) (hcar)) ?_
        refine rn_go 80 (by with_unfolding_all rfl) ?_
        refine rn_br (by with_unfolding_all rfl) (fun c_ => absurd c_ (c2)) (fun _ => ?_)
        refine rn_go 80 (by with_unfolding_all rfl) ?_
        refine rn_cl (by with_unfolding_all rfl) (ev_up (by decide) (x5_take h7 hm _ _)) ?_
        refine rn_go 80 (by with_unfolding_all rfl) ?_
        exact rn_rt (by with_unfolding_all rfl) trivial rfl rfl
    · obtain ⟨a8', hR, ih⟩ := x5_closeL hX ha hta hyes h7 hm hp hs q (j + 1) (by omega) (fun i hi hsub => by
        by_cases e : i = j
        · subst e; exact absurd hsub c1
        · exact hpre i (by omega) hsub)
      rw [← nI_1] at ih
      refine ⟨a8', hR, ?_⟩
      refine rn_go 80 (by with_unfolding_all rfl) ?_
      refine rn_br (by with_unfolding_all rfl) (fun c_ => absurd c_ (nI_nlt (by omega) (by omega))) (fun _ => ?_)
      refine rn_go 80 (by with_unfolding_all rfl) ?_
      refine rn_br (by with_unfolding_all rfl) (fun c_ => absurd c_ (c1)) (fun _ => ?_)
      refine rn_to 29 80 (by with_unfolding_all rfl) ?_
      with_unfolding_all exact ih
set_option maxRecDepth 10000 in
theorem x5_close {m c dyy : Nat} {x p a6 a7 a8 : Nat → Int32} {d4 : Int32} {s : Nat × (Nat → Int32)} (hX : okX x n mo dyy) (h7 : g 7 = nI (m + 1)) (h8 : g 8 = mI s.1) (hs5 : s.1 ≤ 5) (hc4 : c ≤ 4) (hm : m < 4) (hp : ∀ i, i < m → a7 i = p i) (hR : Rb (m + 1) a8 s) (hs : s.1 ≤ c + 1) : ∃ a8', Rb (m + 1) a8' (vis n mo (m + 1) 1 dyy x c p s) ∧ am_ev 6 61 [.ref 36, .int (ta x n), .int (nI c)] (wd g (tu T 1 (upd x 4 d4)) (tu (tu (tu A 6 a6) 7 a7) 8 a8) gm Am) none (wd (upd g 8 (mI (vis n mo (m + 1) 1 dyy x c p s).1)) (tu T 1 (upd x 4 d4)) (tu (tu (tu A 6 a6) 7 a7) 8 a8') gm Am) := by
  obtain ⟨aN, ha, hta⟩ := ta16 (x := x) hX.2.2.1
  have hcar := xk_carried (g := g) (T := T) (A := (tu (tu (tu A 6 a6) 7 a7) 8 a8)) (gm := gm) (Am := Am) (nz_ox (c := d4) hX) (nI aN) (nI aN)
  rw [cw4 hX.2.2.2.2.1 hX.2.2.2.2.2.1] at hcar
  by_cases c1 : cw x (nI aN) (nI aN) n dyy mo = 0
  · have ev : vis n mo (m + 1) 1 dyy x c p s = if c + 1 ≤ s.1 then s else (c + 1, upd p m (nI 0)) := vis_no (cN_mono hX (by rw [hta]; exact cN_0.mp c1))
    rw [ev, hta]
    by_cases c2 : c + 1 ≤ s.1
    · rw [if_pos c2]
      refine ⟨a8, hR, ?_⟩
      rw [← h8, up_id]
      refine rn_ev am_m_X5_closePlan rfl rfl ?_
      refine rn_go 80 (by with_unfolding_all rfl) ?_
      refine rn_cl (by with_unfolding_all rfl) (ev_up (by decide) (hcar)) ?_
      refine rn_go 80 (by with_unfolding_all rfl) ?_
      refine rn_br (by with_unfolding_all rfl) (fun _ => ?_) (fun c_ => absurd (c1) c_)
      refine rn_go 80 (by with_unfolding_all rfl) ?_
      refine rn_br (by with_unfolding_all rfl) (fun _ => ?_) (fun c_ => absurd ((by rw [h8]; exact (mI_le (by omega) (by omega)).mpr c2)) c_)
      refine rn_go 80 (by with_unfolding_all rfl) ?_
      exact rn_rt (by with_unfolding_all rfl) trivial rfl rfl
    · rw [if_neg c2]
      refine ⟨_, Rb_take (a8 := a8) hp, ?_⟩
      rw [show mI ((c + 1, upd p m (nI 0)) : Nat × (Nat → Int32)).1 = nI c from mI_s c]
      refine rn_ev am_m_X5_closePlan rfl rfl ?_
      refine rn_go 80 (by with_unfolding_all rfl) ?_
      refine rn_cl (by with_unfolding_all rfl) (ev_up (by decide) (hcar)) ?_
      refine rn_go 80 (by with_unfolding_all rfl) ?_
      refine rn_br (by with_unfolding_all rfl) (fun _ => ?_) (fun c_ => absurd (c1) c_)
      refine rn_go 80 (by with_unfolding_all rfl) ?_
      refine rn_br (by with_unfolding_all rfl) (fun c_ => absurd c_ ((by rw [h8]; exact fun q => c2 ((mI_le (by omega) (by omega)).mp q)))) (fun _ => ?_)
      refine rn_go 80 (by with_unfolding_all rfl) ?_
      refine rn_cl (by with_unfolding_all rfl) (ev_up (by decide) (x5_take h7 hm _ _)) ?_
      refine rn_go 80 (by with_unfolding_all rfl) ?_
      exact rn_rt (by with_unfolding_all rfl) trivial rfl rfl
  · have hc1 : cN x (nI aN) (nI aN) n dyy mo = 1 := by
      have h1 := cN_1 (x := x) (s := nI aN) (a := nI aN) (n := n) (dy := dyy) (mo := mo)
      have h2 : ¬ cN x (nI aN) (nI aN) n dyy mo = 0 := fun q => c1 (cN_0.mpr q)
      omega
    obtain ⟨a8', hR', hrun⟩ := x5_closeL (g := g) (T := T) (A := A) (gm := gm) (Am := Am) (a6 := a6) (a7 := a7) (a8 := a8) (d4 := d4) hX ha hta hc1 h7 hm hp hs (aN + 1) 0 (by omega) (fun i hi => absurd hi (by omega))
    refine ⟨a8', hR', ?_⟩
    rw [hta]
    refine rn_ev am_m_X5_closePlan rfl rfl ?_
    refine rn_go 80 (by with_unfolding_all rfl) ?_
    refine rn_cl (by with_unfolding_all rfl) (ev_up (by decide) (hcar)) ?_
    refine rn_go 80 (by with_unfolding_all rfl) ?_
    refine rn_br (by with_unfolding_all rfl) (fun c_ => absurd c_ (c1)) (fun _ => ?_)
    refine rn_to 29 80 (by with_unfolding_all rfl) ?_
    with_unfolding_all exact hrun
set_option maxRecDepth 10000 in
theorem x5_keep {depth : Nat} {y a6 a7 a8 : Nat → Int32} (hd : depth < 4) : am_ev 1 63 [.ref 36, .int (nI depth)] (wd g (tu T 1 y) (tu (tu (tu A 6 a6) 7 a7) 8 a8) gm Am) none (wd g (tu T 1 y) (tu (tu (tu A 6 (va_cpy (wa y 13) a6 0 (4 * depth) 4)) 7 a7) 8 a8) gm Am) := by
  have e1 : nI depth * 4 = nI (4 * depth) := by rw [show (4 : Int32) = nI 4 from rfl, pk_mul, Nat.mul_comm]
  have q1 : (nI (4 * depth)).toNatClampNeg = 4 * depth := nI_clamp (by omega)
  have hck : ¬ (0 : Int32) < 0 ∧ ¬ (nI depth * 4) < 0 ∧ ¬ (4 : Int32) < 0 ∧ (0 : Int32).toNatClampNeg + (4 : Int32).toNatClampNeg ≤ 4 ∧ (nI depth * 4).toNatClampNeg + (4 : Int32).toNatClampNeg ≤ 16 := ⟨by decide, by rw [e1]; exact nI_pos (by omega), by decide, by decide, by rw [e1, q1, show (4 : Int32).toNatClampNeg = 4 from rfl]; omega⟩
  refine rn_ev am_m_X5_keepBreaths rfl rfl ?_
  refine rn_go 80 (by with_unfolding_all rfl) ?_
  refine rn_ck (by with_unfolding_all rfl) hck ?_
  refine rn_hp (by with_unfolding_all exact (wA_6)) ?_
  rw [tu_s, r3_6, a3_6, e1, q1, show (4 : Int32).toNatClampNeg = 4 from rfl, show (0 : Int32).toNatClampNeg = 0 from rfl]
  refine rn_go 80 (by with_unfolding_all rfl) ?_
  exact rn_rt (by with_unfolding_all rfl) trivial rfl rfl
set_option maxRecDepth 10000 in
theorem x5_back {depth : Nat} {y a6 a7 a8 : Nat → Int32} (hd : depth < 4) : am_ev 1 64 [.ref 36, .int (nI depth)] (wd g (tu T 1 y) (tu (tu (tu A 6 a6) 7 a7) 8 a8) gm Am) none (wd g (tu T 1 (upd (ov y (fun i => a6 (4 * depth + i)) 4) 3 (T 0 3 + nI depth))) (tu (tu (tu A 6 a6) 7 a7) 8 a8) gm Am) := by
  have e1 : nI depth * 4 = nI (4 * depth) := by rw [show (4 : Int32) = nI 4 from rfl, pk_mul, Nat.mul_comm]
  have q1 : (nI (4 * depth)).toNatClampNeg = 4 * depth := nI_clamp (by omega)
  have hck : ¬ (nI depth * 4) < 0 ∧ ¬ (0 : Int32) < 0 ∧ ¬ (4 : Int32) < 0 ∧ (nI depth * 4).toNatClampNeg + (4 : Int32).toNatClampNeg ≤ 16 ∧ (0 : Int32).toNatClampNeg + (4 : Int32).toNatClampNeg ≤ 4 := ⟨by rw [e1]; exact nI_pos (by omega), by decide, by decide, by rw [e1, q1, show (4 : Int32).toNatClampNeg = 4 from rfl]; omega, by decide⟩
  refine rn_ev am_m_X5_giveBreathsBack rfl rfl ?_
  refine rn_go 80 (by with_unfolding_all rfl) ?_
  refine rn_ck (by with_unfolding_all rfl) hck ?_
  rw [r3_6, e1, q1, show (4 : Int32).toNatClampNeg = 4 from rfl, show (0 : Int32).toNatClampNeg = 0 from rfl]
  refine rn_hp (by with_unfolding_all exact (ws_ov)) ?_
  rw [tu_s, tu_tu]
  refine rn_to 35 80 (by with_unfolding_all rfl) ?_
  refine rn_hp (by with_unfolding_all exact (wf_1_3)) ?_
  rw [tu_s, tu_tu, tu_n (show 0 ≠ 1 by decide)]
  refine rn_go 80 (by with_unfolding_all rfl) ?_
  exact rn_rt (by with_unfolding_all rfl) trivial rfl rfl
end

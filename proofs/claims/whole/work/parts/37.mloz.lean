/-! lozenges: the reference -/
section
variable {g gm : Nat → Int32} {T A Am : Nat → Nat → Int32} {h : am_H} {n mo dy : Nat}
set_option maxRecDepth 10000 in
theorem xm_gets {r : Nat → Int32} (hn : r 1 = nI n) (way p : Int32) : am_ev 1 197 [.ref 43, .int way, .int p] (wd g T A gm (tu Am 0 r)) (some (.int (dg way p (nI n)))) (wd g T A gm (tu Am 0 r)) := by
  refine rn_ev am_m_X9_gets rfl rfl ?_
  refine rn_go 80 (by with_unfolding_all rfl) ?_
  refine rn_ld (1) (by with_unfolding_all rfl) rfl (by omega) (by decide) ?_
  rw [tu_s, hn]
  refine rn_go 80 (by with_unfolding_all rfl) ?_
  exact rn_rt (by with_unfolding_all rfl) trivial rfl rfl
set_option maxRecDepth 10000 in
theorem xm_lozInL {r : Nat → Int32} (hn : r 1 = nI n) (h4 : n ≤ 4) (way : Int32) : ∀ q i, i + q = n → rn none 1 am_t_X9_lozengesIn (4, [some (.ref 43), some (.int way), some (.int (gv (nI n) way i)), some (.int (nI i))], [], wd g T A gm (tu Am 0 r)) (some (.int (gv (nI n) way n))) (wd g T A gm (tu Am 0 r))
  | 0, i, hi => by
    have hin : i = n := by omega
    subst hin
    refine rn_go 80 (by with_unfolding_all rfl) ?_
    refine rn_ld (1) (by with_unfolding_all rfl) rfl (by omega) (by decide) ?_
    rw [tu_s, hn]
    refine rn_go 80 (by with_unfolding_all rfl) ?_
    refine rn_br (by with_unfolding_all rfl) (fun _ => ?_) (fun c_ => absurd (Int32.le_refl _) c_)
    refine rn_go 80 (by with_unfolding_all rfl) ?_
    exact rn_rt (by with_unfolding_all rfl) trivial rfl rfl
  | q + 1, i, hi => by
    have ih := xm_lozInL hn h4 way q (i + 1) (by omega)
    rw [← nI_1] at ih
    refine rn_go 80 (by with_unfolding_all rfl) ?_
    refine rn_ld (1) (by with_unfolding_all rfl) rfl (by omega) (by decide) ?_
    rw [tu_s, hn]
    refine rn_go 80 (by with_unfolding_all rfl) ?_
    refine rn_br (by with_unfolding_all rfl) (fun c_ => absurd c_ (nI_ge (show i < n by omega) (by omega))) (fun _ => ?_)
    refine rn_go 80 (by with_unfolding_all rfl) ?_
    refine rn_cl (by with_unfolding_all rfl) (ev_up (by decide) (xm_gets hn _ _)) ?_
    refine rn_to 4 80 (by with_unfolding_all rfl) ?_
    with_unfolding_all exact ih
set_option maxRecDepth 10000 in
theorem xm_lozIn {r : Nat → Int32} (hn : r 1 = nI n) (h4 : n ≤ 4) (way : Int32) : am_ev 2 198 [.ref 43, .int way] (wd g T A gm (tu Am 0 r)) (some (.int (gv (nI n) way n))) (wd g T A gm (tu Am 0 r)) := by
  refine rn_ev am_m_X9_lozengesIn rfl rfl ?_
  refine rn_to 4 80 (by with_unfolding_all rfl) ?_
  with_unfolding_all exact xm_lozInL hn h4 way n 0 (by omega)
set_option maxRecDepth 10000 in
theorem cw_or {t : Nat → Int32} {s a : Int32} : cw t s a n dy mo = 0 ∨ cw t s a n dy mo = 1 := by
  unfold cw
  split
  · exact Or.inl rfl
  · exact Or.inr rfl
set_option maxRecDepth 10000 in
theorem xm_turnL {x r0 : Nat → Int32} (hn : r0 1 = nI n) (hX : okX x n mo dy) (way : Int32) : ∀ q i, i + q = n → ∀ r, Lo r0 r → Eqv n mo (ov x (lf x (nI n) way) i) (tv r 567) → ∃ r', Lo r0 r' ∧ rn none 6 am_t_X9_turns (6, [some (.ref 43), some (.int way), some (.int (nI i))], [], wd g T A gm (tu Am 0 r)) (some (.int (cw (ov x (lf x (nI n) way) n) (ta (ov x (lf x (nI n) way) n) n) (ta (ov x (lf x (nI n) way) n) n) n dy mo))) (wd g T A gm (tu Am 0 r'))
  | 0, i, hi, r, hl, he => by
    have hin : i = n := by omega
    subst hin
    have hXi := ox_ov hX (lf_ok hX (nI i) way)
    refine ⟨r, hl, ?_⟩
    refine rn_go 80 (by with_unfolding_all rfl) ?_
    refine rn_ld (1) (by with_unfolding_all rfl) rfl (by omega) (by decide) ?_
    rw [tu_s, hl 1 (by omega), hn]
    refine rn_go 80 (by with_unfolding_all rfl) ?_
    refine rn_br (by with_unfolding_all rfl) (fun _ => ?_) (fun c_ => absurd (Int32.le_refl _) c_)
    refine rn_go 80 (by with_unfolding_all rfl) ?_
    refine rn_cl (by with_unfolding_all rfl) (ev_up (by decide) (xx_can (B := 567) (by omega) he hXi)) ?_
    refine rn_go 80 (by with_unfolding_all rfl) ?_
    refine rn_cl (by with_unfolding_all rfl) (ev_up (by decide) (xx_isCarried (B := 567) (by omega) he hXi _)) ?_
    refine rn_go 80 (by with_unfolding_all rfl) ?_
    exact rn_rt (by with_unfolding_all rfl) (cw_or) (rfl) (rfl)
  | q + 1, i, hi, r, hl, he => by
    have h4 := hX.2.2.1
    have e1 : r (567 + (13 + i)) = x (13 + i) := by
      have := (he.2.2 i (by omega)).2.1
      rw [ov_lo (by omega)] at this
      exact this.symm
    obtain ⟨r', hl', ih⟩ := xm_turnL hn hX way q (i + 1) (by omega) (upd r (567 + (13 + i)) (lf x (nI n) way i)) (lo_upd (by omega) hl) (by rw [tv_upd, ← ov_s]; exact eqv_upd he _ _)
    rw [← nI_1] at ih
    refine ⟨r', hl', ?_⟩
    refine rn_go 80 (by with_unfolding_all rfl) ?_
    refine rn_ld (1) (by with_unfolding_all rfl) rfl (by omega) (by decide) ?_
    rw [tu_s, hl 1 (by omega), hn]
    refine rn_go 80 (by with_unfolding_all rfl) ?_
    refine rn_br (by with_unfolding_all rfl) (fun c_ => absurd c_ (nI_ge (show i < n by omega) (by omega))) (fun _ => ?_)
    refine rn_go 80 (by with_unfolding_all rfl) ?_
    refine rn_ld (567 + (13 + i)) (by with_unfolding_all rfl) (by rw [show (580 : Int32) = nI 580 from rfl, nI_add, show 580 + i = 567 + (13 + i) by omega]) (by omega) (by decide) ?_
    rw [tu_s, e1]
    refine rn_go 80 (by with_unfolding_all rfl) ?_
    refine rn_cl (by with_unfolding_all rfl) (ev_up (by decide) (xm_gets (by rw [hl 1 (by omega)]; exact hn) _ _)) ?_
    refine rn_go 80 (by with_unfolding_all rfl) ?_
    refine rn_cl (by with_unfolding_all rfl) (ev_up (by decide) (xm_between _)) ?_
    rw [lf_m hX (nI n) way (by omega)]
    refine rn_go 80 (by with_unfolding_all rfl) ?_
    refine rn_st (567 + (13 + i)) (by with_unfolding_all rfl) (by rw [show (580 : Int32) = nI 580 from rfl, nI_add, show 580 + i = 567 + (13 + i) by omega]) (by omega) (by decide) ?_
    refine rn_hp (by with_unfolding_all exact (wM_0)) ?_
    rw [tu_tu, tu_s]
    refine rn_to 6 80 (by with_unfolding_all rfl) ?_
    with_unfolding_all exact ih
set_option maxRecDepth 10000 in
theorem xm_turns {x r0 r : Nat → Int32} (hn : r0 1 = nI n) (he0 : Eqv n mo x (tv r0 0)) (hX : okX x n mo dy) (way : Int32) (hl : Lo r0 r) : ∃ r', Lo r0 r' ∧ am_ev 7 199 [.ref 43, .int way] (wd g T A gm (tu Am 0 r)) (some (.int (cw (ov x (lf x (nI n) way) n) (ta (ov x (lf x (nI n) way) n) n) (ta (ov x (lf x (nI n) way) n) n) n dy mo))) (wd g T A gm (tu Am 0 r')) := by
  have h4 := hX.2.2.1
  have m4 := hX.2.2.2.2.2.1
  obtain ⟨r1, ho, he1, hlay⟩ := xx_lay (g := g) (T := T) (A := A) (gm := gm) (Am := Am) (r := r)
  have hl1 := lo_out (by omega) hl ho
  have e1 : Eqv n mo (ov x (lf x (nI n) way) 0) (tv r1 567) := by
    rw [ov_0]
    refine eqv_tr he0 (eqv_tr (eqv_21 h4 m4 (fun j hj => ?_)) (eqv_21 h4 m4 he1))
    unfold tv
    rw [hl _ (by omega)]
  obtain ⟨r2, hl2, hrun⟩ := xm_turnL (g := g) (T := T) (A := A) (gm := gm) (Am := Am) hn hX way n 0 (by omega) r1 hl1 e1
  refine ⟨r2, hl2, ?_⟩
  refine rn_ev am_m_X9_turns rfl rfl ?_
  refine rn_go 80 (by with_unfolding_all rfl) ?_
  refine rn_cl (by with_unfolding_all rfl) (ev_up (by decide) (hlay)) ?_
  refine rn_to 6 80 (by with_unfolding_all rfl) ?_
  with_unfolding_all exact hrun
set_option maxRecDepth 10000 in
theorem xm_lozL {x r0 : Nat → Int32} (hn : r0 1 = nI n) (he0 : Eqv n mo x (tv r0 0)) (hX : okX x n mo dy) (K : Int32) : ∀ q k, k + q = 4 ^ n → ∀ r o, Lo r0 r → ∃ r', Lo r0 r' ∧ rn none 11 am_t_X9_lozenges (32, [some (.ref 43), some (.int K), some (.int (bl x n dy mo k)), some (.int (nI k)), o], [], wd g T A gm (tu Am 0 r)) (some (.int (if nI n ≤ K then -1000000 else if bl x n dy mo (4 ^ n) = -1000000 then -1000000 else if 0 ≤ K then dg (bl x n dy mo (4 ^ n)) K (nI n) else gv (nI n) (bl x n dy mo (4 ^ n)) n))) (wd g T A gm (tu Am 0 r'))
  | 0, k, hk, r, o, hl => by
    have hin : k = 4 ^ n := by omega
    have h4 := hX.2.2.1
    have p4 : 4 ^ n ≤ 4 ^ 4 := Nat.pow_le_pow_right (by decide) h4
    have hn1 : r 1 = nI n := by rw [hl 1 (by omega)]; exact hn
    rw [← hin]
    refine ⟨r, hl, ?_⟩
    refine rn_go 80 (by with_unfolding_all rfl) ?_
    refine rn_ld (1) (by with_unfolding_all rfl) rfl (by omega) (by decide) ?_
    rw [tu_s, hn1]
    refine rn_go 80 (by with_unfolding_all rfl) ?_
    refine rn_br (by with_unfolding_all rfl) (fun _ => ?_) (fun c_ => absurd ((by rw [shn2 n (by omega), hin]; exact Int32.le_refl _)) c_)
    refine rn_go 80 (by with_unfolding_all rfl) ?_
    refine rn_br (by with_unfolding_all rfl) (fun c => ?_) (fun c => ?_)
    · refine rn_go 80 (by with_unfolding_all rfl) ?_
      exact rn_rt (by with_unfolding_all rfl) (trivial) (by rw [if_pos c]; split <;> rfl) (rfl)
    rw [if_neg c]
    refine rn_go 80 (by with_unfolding_all rfl) ?_
    refine rn_ld (1) (by with_unfolding_all rfl) rfl (by omega) (by decide) ?_
    rw [tu_s, hn1]
    refine rn_go 80 (by with_unfolding_all rfl) ?_
    refine rn_br (by with_unfolding_all rfl) (fun c2 => ?_) (fun c2 => ?_)
    · rw [if_neg (Int32.not_le.mpr c2)]
      refine rn_go 80 (by with_unfolding_all rfl) ?_
      refine rn_br (by with_unfolding_all rfl) (fun c3 => ?_) (fun c3 => ?_)
      · rw [if_pos c3]
        refine rn_go 80 (by with_unfolding_all rfl) ?_
        refine rn_cl (by with_unfolding_all rfl) (ev_up (by decide) (xm_gets hn1 _ _)) ?_
        refine rn_go 80 (by with_unfolding_all rfl) ?_
        exact rn_rt (by with_unfolding_all rfl) trivial rfl rfl
      · rw [if_neg c3]
        refine rn_go 80 (by with_unfolding_all rfl) ?_
        refine rn_cl (by with_unfolding_all rfl) (ev_up (by decide) (xm_lozIn hn1 h4 _)) ?_
        refine rn_go 80 (by with_unfolding_all rfl) ?_
        exact rn_rt (by with_unfolding_all rfl) trivial rfl rfl
    · rw [if_pos (Int32.not_lt.mp c2)]
      refine rn_go 80 (by with_unfolding_all rfl) ?_
      exact rn_rt (by with_unfolding_all rfl) trivial rfl rfl
  | q + 1, k, hk, r, o, hl => by
    have h4 := hX.2.2.1
    have p4 : 4 ^ n ≤ 4 ^ 4 := Nat.pow_le_pow_right (by decide) h4
    have hn1 : r 1 = nI n := by rw [hl 1 (by omega)]; exact hn
    obtain ⟨r1, hl1, htu⟩ := xm_turns (g := g) (T := T) (A := A) (gm := gm) (Am := Am) hn he0 hX (nI k) hl
    by_cases c : bl x n dy mo k = -1000000
    · by_cases c2 : lcw x n dy mo k = 0
      · have e : bl x n dy mo (k + 1) = bl x n dy mo k := by simp only [bl]; rw [if_pos c, if_pos c2]
        obtain ⟨r2, hl2, ih⟩ := xm_lozL hn he0 hX K q (k + 1) (by omega) r1 (some (.int 0)) hl1
        rw [e, ← nI_1] at ih
        refine ⟨r2, hl2, ?_⟩
        refine rn_go 80 (by with_unfolding_all rfl) ?_
        refine rn_ld (1) (by with_unfolding_all rfl) rfl (by omega) (by decide) ?_
        rw [tu_s, hn1]
        refine rn_go 80 (by with_unfolding_all rfl) ?_
        refine rn_br (by with_unfolding_all rfl) (fun c_ => absurd c_ ((by rw [shn2 n (by omega)]; exact nI_ge (show k < 4 ^ n by omega) (by omega)))) (fun _ => ?_)
        refine rn_go 80 (by with_unfolding_all rfl) ?_
        refine rn_br (by with_unfolding_all rfl) (fun _ => ?_) (fun c_ => absurd (c) c_)
        refine rn_go 80 (by with_unfolding_all rfl) ?_
        refine rn_cl (by with_unfolding_all rfl) (ev_up (by decide) (htu)) ?_
        refine rn_go 80 (by with_unfolding_all rfl) ?_
        refine rn_br (by with_unfolding_all rfl) (fun _ => ?_) (fun c_ => absurd (c2) c_)
        refine rn_go 80 (by with_unfolding_all rfl) ?_
        refine rn_br (by with_unfolding_all rfl) (fun _ => ?_) (fun c_ => absurd (rfl) c_)
        refine rn_to 32 80 (by with_unfolding_all rfl) ?_
        with_unfolding_all exact ih
      · have e : bl x n dy mo (k + 1) = nI k := by simp only [bl]; rw [if_pos c, if_neg c2]
        obtain ⟨r2, hl2, ih⟩ := xm_lozL hn he0 hX K q (k + 1) (by omega) r1 (some (.int 1)) hl1
        rw [e, ← nI_1] at ih
        refine ⟨r2, hl2, ?_⟩
        refine rn_go 80 (by with_unfolding_all rfl) ?_
        refine rn_ld (1) (by with_unfolding_all rfl) rfl (by omega) (by decide) ?_
        rw [tu_s, hn1]
        refine rn_go 80 (by with_unfolding_all rfl) ?_
        refine rn_br (by with_unfolding_all rfl) (fun c_ => absurd c_ ((by rw [shn2 n (by omega)]; exact nI_ge (show k < 4 ^ n by omega) (by omega)))) (fun _ => ?_)
        refine rn_go 80 (by with_unfolding_all rfl) ?_
        refine rn_br (by with_unfolding_all rfl) (fun _ => ?_) (fun c_ => absurd (c) c_)
        refine rn_go 80 (by with_unfolding_all rfl) ?_
        refine rn_cl (by with_unfolding_all rfl) (ev_up (by decide) (htu)) ?_
        refine rn_go 80 (by with_unfolding_all rfl) ?_
        refine rn_br (by with_unfolding_all rfl) (fun c_ => absurd c_ (c2)) (fun _ => ?_)
        refine rn_go 80 (by with_unfolding_all rfl) ?_
        refine rn_br (by with_unfolding_all rfl) (fun c_ => absurd c_ ((by decide))) (fun _ => ?_)
        refine rn_to 32 80 (by with_unfolding_all rfl) ?_
        with_unfolding_all exact ih
    · by_cases c3 : gv (nI n) (bl x n dy mo k) n ≤ gv (nI n) (nI k) n
      · have e : bl x n dy mo (k + 1) = bl x n dy mo k := by simp only [bl]; rw [if_neg c, if_pos c3]
        obtain ⟨r2, hl2, ih⟩ := xm_lozL hn he0 hX K q (k + 1) (by omega) r (some (.int 0)) hl
        rw [e, ← nI_1] at ih
        refine ⟨r2, hl2, ?_⟩
        refine rn_go 80 (by with_unfolding_all rfl) ?_
        refine rn_ld (1) (by with_unfolding_all rfl) rfl (by omega) (by decide) ?_
        rw [tu_s, hn1]
        refine rn_go 80 (by with_unfolding_all rfl) ?_
        refine rn_br (by with_unfolding_all rfl) (fun c_ => absurd c_ ((by rw [shn2 n (by omega)]; exact nI_ge (show k < 4 ^ n by omega) (by omega)))) (fun _ => ?_)
        refine rn_go 80 (by with_unfolding_all rfl) ?_
        refine rn_br (by with_unfolding_all rfl) (fun c_ => absurd c_ (c)) (fun _ => ?_)
        refine rn_go 80 (by with_unfolding_all rfl) ?_
        refine rn_cl (by with_unfolding_all rfl) (ev_up (by decide) (xm_lozIn hn1 h4 _)) ?_
        refine rn_go 80 (by with_unfolding_all rfl) ?_
        refine rn_cl (by with_unfolding_all rfl) (ev_up (by decide) (xm_lozIn hn1 h4 _)) ?_
        refine rn_go 80 (by with_unfolding_all rfl) ?_
        refine rn_br (by with_unfolding_all rfl) (fun _ => ?_) (fun c_ => absurd (c3) c_)
        refine rn_go 80 (by with_unfolding_all rfl) ?_
        refine rn_br (by with_unfolding_all rfl) (fun _ => ?_) (fun c_ => absurd (rfl) c_)
        refine rn_to 32 80 (by with_unfolding_all rfl) ?_
        with_unfolding_all exact ih
      · by_cases c2 : lcw x n dy mo k = 0
        · have e : bl x n dy mo (k + 1) = bl x n dy mo k := by simp only [bl]; rw [if_neg c, if_neg c3, if_pos c2]
          obtain ⟨r2, hl2, ih⟩ := xm_lozL hn he0 hX K q (k + 1) (by omega) r1 (some (.int 0)) hl1
          rw [e, ← nI_1] at ih
          refine ⟨r2, hl2, ?_⟩
          refine rn_go 80 (by with_unfolding_all rfl) ?_
          refine rn_ld (1) (by with_unfolding_all rfl) rfl (by omega) (by decide) ?_
          rw [tu_s, hn1]
          refine rn_go 80 (by with_unfolding_all rfl) ?_
          refine rn_br (by with_unfolding_all rfl) (fun c_ => absurd c_ ((by rw [shn2 n (by omega)]; exact nI_ge (show k < 4 ^ n by omega) (by omega)))) (fun _ => ?_)
          refine rn_go 80 (by with_unfolding_all rfl) ?_
          refine rn_br (by with_unfolding_all rfl) (fun c_ => absurd c_ (c)) (fun _ => ?_)
          refine rn_go 80 (by with_unfolding_all rfl) ?_
          refine rn_cl (by with_unfolding_all rfl) (ev_up (by decide) (xm_lozIn hn1 h4 _)) ?_
          refine rn_go 80 (by with_unfolding_all rfl) ?_
          refine rn_cl (by with_unfolding_all rfl) (ev_up (by decide) (xm_lozIn hn1 h4 _)) ?_
          refine rn_go 80 (by with_unfolding_all rfl) ?_
          refine rn_br (by with_unfolding_all rfl) (fun c_ => absurd c_ (c3)) (fun _ => ?_)
          refine rn_go 80 (by with_unfolding_all rfl) ?_
          refine rn_cl (by with_unfolding_all rfl) (ev_up (by decide) (htu)) ?_
          refine rn_go 80 (by with_unfolding_all rfl) ?_
          refine rn_br (by with_unfolding_all rfl) (fun _ => ?_) (fun c_ => absurd (c2) c_)
          refine rn_go 80 (by with_unfolding_all rfl) ?_
          refine rn_br (by with_unfolding_all rfl) (fun _ => ?_) (fun c_ => absurd (rfl) c_)
          refine rn_to 32 80 (by with_unfolding_all rfl) ?_
          with_unfolding_all exact ih
        · have e : bl x n dy mo (k + 1) = nI k := by simp only [bl]; rw [if_neg c, if_neg c3, if_neg c2]
          obtain ⟨r2, hl2, ih⟩ := xm_lozL hn he0 hX K q (k + 1) (by omega) r1 (some (.int 1)) hl1
          rw [e, ← nI_1] at ih
          refine ⟨r2, hl2, ?_⟩
          refine rn_go 80 (by with_unfolding_all rfl) ?_
          refine rn_ld (1) (by with_unfolding_all rfl) rfl (by omega) (by decide) ?_
          rw [tu_s, hn1]
          refine rn_go 80 (by with_unfolding_all rfl) ?_
          refine rn_br (by with_unfolding_all rfl) (fun c_ => absurd c_ ((by rw [shn2 n (by omega)]; exact nI_ge (show k < 4 ^ n by omega) (by omega)))) (fun _ => ?_)
          refine rn_go 80 (by with_unfolding_all rfl) ?_
          refine rn_br (by with_unfolding_all rfl) (fun c_ => absurd c_ (c)) (fun _ => ?_)
          refine rn_go 80 (by with_unfolding_all rfl) ?_
          refine rn_cl (by with_unfolding_all rfl) (ev_up (by decide) (xm_lozIn hn1 h4 _)) ?_
          refine rn_go 80 (by with_unfolding_all rfl) ?_
          refine rn_cl (by with_unfolding_all rfl) (ev_up (by decide) (xm_lozIn hn1 h4 _)) ?_
          refine rn_go 80 (by with_unfolding_all rfl) ?_
          refine rn_br (by with_unfolding_all rfl) (fun c_ => absurd c_ (c3)) (fun _ => ?_)
          refine rn_go 80 (by with_unfolding_all rfl) ?_
          refine rn_cl (by with_unfolding_all rfl) (ev_up (by decide) (htu)) ?_
          refine rn_go 80 (by with_unfolding_all rfl) ?_
          refine rn_br (by with_unfolding_all rfl) (fun c_ => absurd c_ (c2)) (fun _ => ?_)
          refine rn_go 80 (by with_unfolding_all rfl) ?_
          refine rn_br (by with_unfolding_all rfl) (fun c_ => absurd c_ ((by decide))) (fun _ => ?_)
          refine rn_to 32 80 (by with_unfolding_all rfl) ?_
          with_unfolding_all exact ih
set_option maxRecDepth 10000 in
theorem xm_lozenges {x : Nat → Int32} (hX : gm 0 = 0 ∨ okX x n mo dy) (he : Eqv n mo x (tv (Am 0) 0)) (K : Int32) : ∃ r', Lo (Am 0) r' ∧ am_ev 12 200 [.ref 43, .int K] (wd g T A gm Am) (some (.int (sLoz (gm 0) x n mo dy K))) (wd g T A gm (tu Am 0 r')) := by
  unfold sLoz
  by_cases q1 : gm 0 = 0
  · rw [if_pos q1]
    refine ⟨Am 0, fun _ _ => rfl, ?_⟩
    rw [tu_id]
    refine rn_ev am_m_X9_lozenges rfl rfl ?_
    refine rn_go 80 (by with_unfolding_all rfl) ?_
    refine rn_br (by with_unfolding_all rfl) (fun _ => ?_) (fun c_ => absurd (q1) c_)
    refine rn_go 80 (by with_unfolding_all rfl) ?_
    exact rn_rt (by with_unfolding_all rfl) trivial rfl rfl
  have hX := hX.resolve_left q1
  rw [if_neg q1]
  by_cases hq : (K < -1 ∨ ¬ K ≤ 3)
  · rw [if_pos hq]
    refine ⟨Am 0, fun _ _ => rfl, ?_⟩
    rw [tu_id]
    refine rn_ev am_m_X9_lozenges rfl rfl ?_
    refine rn_go 80 (by with_unfolding_all rfl) ?_
    refine rn_br (by with_unfolding_all rfl) (fun c_ => absurd c_ (q1)) (fun _ => ?_)
    refine rn_go 80 (by with_unfolding_all rfl) ?_
    refine rn_cl (by with_unfolding_all rfl) (ev_up (by decide) (xm_in _ _ _)) ?_
    rw [inn_b (a := -1) (b := 3) (P := -1) (Q := 3) (by decide) (by decide)]
    refine rn_go 80 (by with_unfolding_all rfl) ?_
    refine rn_br (by with_unfolding_all rfl) (fun c1 => ?_) (fun c1 => ?_)
    · refine rn_go 80 (by with_unfolding_all rfl) ?_
      exact rn_rt (by with_unfolding_all rfl) trivial rfl rfl
    exfalso
    have c1 := btw_f c1
    rcases hq with q | q
    · exact c1.1 q
    · exact q c1.2
  · rw [if_neg hq]
    have q2 : ¬ K < -1 := fun q => hq (Or.inl q)
    have q3 : K ≤ 3 := Classical.not_not.mp (fun q => hq (Or.inr q))
    have hn1 : Am 0 1 = nI n := by
      have := he.1 1 (by decide)
      unfold tv at this
      rw [← hX.2.1, this]
    obtain ⟨r2, hl2, hrun⟩ := xm_lozL (g := g) (T := T) (A := A) (gm := gm) (Am := Am) (r0 := Am 0) hn1 he hX K (4 ^ n) 0 (by omega) (Am 0) none (fun _ _ => rfl)
    rw [tu_id] at hrun
    refine ⟨r2, hl2, ?_⟩
    refine rn_ev am_m_X9_lozenges rfl rfl ?_
    refine rn_go 80 (by with_unfolding_all rfl) ?_
    refine rn_br (by with_unfolding_all rfl) (fun c_ => absurd c_ (q1)) (fun _ => ?_)
    refine rn_go 80 (by with_unfolding_all rfl) ?_
    refine rn_cl (by with_unfolding_all rfl) (ev_up (by decide) (xm_in _ _ _)) ?_
    rw [inn_b (a := -1) (b := 3) (P := -1) (Q := 3) (by decide) (by decide)]
    refine rn_go 80 (by with_unfolding_all rfl) ?_
    refine rn_br (by with_unfolding_all rfl) (fun c_ => absurd c_ (btw_t q2 q3)) (fun _ => ?_)
    refine rn_to 32 80 (by with_unfolding_all rfl) ?_
    with_unfolding_all exact hrun
end

/-! colds: the reference; lozenges: both -/
section
variable {g gm : Nat → Int32} {T A Am : Nat → Nat → Int32} {h : am_H} {n mo dy : Nat}
set_option maxRecDepth 10000 in
theorem xm_coldL {x r0 : Nat → Int32} (hn : r0 1 = nI n) (hX : okX x n mo dy) (c w ab be s : Int32) : ∀ q i, i + q = n → ∀ r, Lo r0 r → Eqv n mo (ov x (cf x s) i) (tv r 567) → ∃ r', Lo r0 r' ∧ Eqv n mo (ov x (cf x s) n) (tv r' 567) ∧ ∀ v hh, rn none 11 am_t_X9_colds (147, [some (.ref 43), some (.int c), some (.int w), some (.int ab), some (.int be), some (.int s), some (.int (wy c s n)), some (.int (nI n))], [], wd g T A gm (tu Am 0 r')) v hh → rn none 11 am_t_X9_colds (66, [some (.ref 43), some (.int c), some (.int w), some (.int ab), some (.int be), some (.int s), some (.int (wy c s i)), some (.int (nI i))], [], wd g T A gm (tu Am 0 r)) v hh
  | 0, i, hi, r, hl, he => by
    have hin : i = n := by omega
    subst hin
    refine ⟨r, hl, he, fun v hh hend => ?_⟩
    refine rn_go 80 (by with_unfolding_all rfl) ?_
    refine rn_ld (1) (by with_unfolding_all rfl) rfl (by omega) (by decide) ?_
    rw [tu_s, hl 1 (by omega), hn]
    refine rn_go 80 (by with_unfolding_all rfl) ?_
    refine rn_br (by with_unfolding_all rfl) (fun _ => ?_) (fun c_ => absurd (Int32.le_refl _) c_)
    with_unfolding_all exact hend
  | q + 1, i, hi, r, hl, he => by
    have h4 := hX.2.2.1
    have e1 : r (567 + (13 + i)) = x (13 + i) := by
      have := (he.2.2 i (by omega)).2.1
      rw [ov_lo (by omega)] at this
      exact this.symm
    obtain ⟨r', hl', he', ih⟩ := xm_coldL hn hX c w ab be s q (i + 1) (by omega) (upd r (567 + (13 + i)) (cf x s i)) (lo_upd (by omega) hl) (by rw [tv_upd, ← ov_s]; exact eqv_upd he _ _)
    refine ⟨r', hl', he', fun v hh hend => ?_⟩
    have ih := ih v hh hend
    rw [← nI_1] at ih
    obtain ⟨-, ⟨b, hb, eb⟩, -⟩ := hX.1.1 i (by omega)
    have cm := cf_m b (by omega)
    rw [← eb] at cm
    refine rn_go 80 (by with_unfolding_all rfl) ?_
    refine rn_ld (1) (by with_unfolding_all rfl) rfl (by omega) (by decide) ?_
    rw [tu_s, hl 1 (by omega), hn]
    refine rn_go 80 (by with_unfolding_all rfl) ?_
    refine rn_br (by with_unfolding_all rfl) (fun c_ => absurd c_ (nI_ge (show i < n by omega) (by omega))) (fun _ => ?_)
    refine rn_go 80 (by with_unfolding_all rfl) ?_
    refine rn_cl (by with_unfolding_all rfl) (ev_up (by decide) (xm_has s i)) ?_
    refine rn_go 80 (by with_unfolding_all rfl) ?_
    refine rn_br (by with_unfolding_all rfl) (fun c1 => ?_) (fun c1 => ?_)
    · rw [show cf x s i = x (13 + i) by unfold cf; rw [if_pos c1], show wy c s (i + 1) = wy c s i * (10 - c) by simp only [wy]; rw [if_pos c1]] at ih
      refine rn_go 80 (by with_unfolding_all rfl) ?_
      refine rn_ld (567 + (13 + i)) (by with_unfolding_all rfl) (by rw [show (580 : Int32) = nI 580 from rfl, nI_add, show 580 + i = 567 + (13 + i) by omega]) (by omega) (by decide) ?_
      rw [tu_s, e1]
      refine rn_go 80 (by with_unfolding_all rfl) ?_
      refine rn_cl (by with_unfolding_all rfl) (ev_up (by decide) (xm_has s i)) ?_
      refine rn_go 80 (by with_unfolding_all rfl) ?_
      refine rn_br (by with_unfolding_all rfl) (fun _ => ?_) (fun c_ => absurd (c1) c_)
      refine rn_go 80 (by with_unfolding_all rfl) ?_
      refine rn_cl (by with_unfolding_all rfl) (ev_up (by decide) (xm_between _)) ?_
      rw [cm.2]
      refine rn_go 80 (by with_unfolding_all rfl) ?_
      refine rn_st (567 + (13 + i)) (by with_unfolding_all rfl) (by rw [show (580 : Int32) = nI 580 from rfl, nI_add, show 580 + i = 567 + (13 + i) by omega]) (by omega) (by decide) ?_
      refine rn_hp (by with_unfolding_all exact (wM_0)) ?_
      rw [tu_tu, tu_s]
      refine rn_to 66 80 (by with_unfolding_all rfl) ?_
      with_unfolding_all exact ih
    · rw [show cf x s i = (if 0 < x (13 + i) - 5 then x (13 + i) - 5 else 0) by unfold cf; rw [if_neg c1], show wy c s (i + 1) = wy c s i * c by simp only [wy]; rw [if_neg c1]] at ih
      refine rn_go 80 (by with_unfolding_all rfl) ?_
      refine rn_ld (567 + (13 + i)) (by with_unfolding_all rfl) (by rw [show (580 : Int32) = nI 580 from rfl, nI_add, show 580 + i = 567 + (13 + i) by omega]) (by omega) (by decide) ?_
      rw [tu_s, e1]
      refine rn_go 80 (by with_unfolding_all rfl) ?_
      refine rn_cl (by with_unfolding_all rfl) (ev_up (by decide) (xm_has s i)) ?_
      refine rn_go 80 (by with_unfolding_all rfl) ?_
      refine rn_br (by with_unfolding_all rfl) (fun c_ => absurd c_ (c1)) (fun _ => ?_)
      refine rn_go 80 (by with_unfolding_all rfl) ?_
      refine rn_cl (by with_unfolding_all rfl) (ev_up (by decide) (xm_between _)) ?_
      rw [cm.1]
      refine rn_go 80 (by with_unfolding_all rfl) ?_
      refine rn_st (567 + (13 + i)) (by with_unfolding_all rfl) (by rw [show (580 : Int32) = nI 580 from rfl, nI_add, show 580 + i = 567 + (13 + i) by omega]) (by omega) (by decide) ?_
      refine rn_hp (by with_unfolding_all exact (wM_0)) ?_
      rw [tu_tu, tu_s]
      refine rn_to 66 80 (by with_unfolding_all rfl) ?_
      with_unfolding_all exact ih
set_option maxRecDepth 10000 in
theorem xm_coldsL {x r0 : Nat → Int32} {cc : Nat} (hn : r0 1 = nI n) (he0 : Eqv n mo x (tv r0 0)) (hX : okX x n mo dy) (hc : cc ≤ 10) (w : Int32) : ∀ q k, k + q = 2 ^ n → ∀ r, Lo r0 r → ∀ o6 o7, ∃ r', Lo r0 r' ∧ rn none 11 am_t_X9_colds (43, [some (.ref 43), some (.int (nI cc)), some (.int w), some (.int (cdA x (nI cc) n dy mo k)), some (.int (cdB (nI cc) n k)), some (.int (nI k)), o6, o7], [], wd g T A gm (tu Am 0 r)) (some (.int (lwI (cdA x (nI cc) n dy mo (2 ^ n)) (cdB (nI cc) n (2 ^ n)) w))) (wd g T A gm (tu Am 0 r'))
  | 0, k, hk, r, hl, o6, o7 => by
    have hin : k = 2 ^ n := by omega
    have h4 := hX.2.2.1
    obtain ⟨u, hu, eu⟩ := cdA_n (x := x) (dy := dy) (mo := mo) hc h4 (2 ^ n)
    have eb := cdB_n n (by omega) cc (by omega)
    have p2 : 2 ^ n ≤ 2 ^ 4 := Nat.pow_le_pow_right (by decide) h4
    have p10 : 10 ^ n ≤ 10 ^ 4 := Nat.pow_le_pow_right (by decide) h4
    have p0 : 0 < 10 ^ n := Nat.pow_pos (by decide)
    rw [eu, eb]
    rw [← hin] at eu eb
    refine ⟨r, hl, ?_⟩
    rw [eu, eb]
    refine rn_go 80 (by with_unfolding_all rfl) ?_
    refine rn_ld (1) (by with_unfolding_all rfl) rfl (by omega) (by decide) ?_
    rw [tu_s, hl 1 (by omega), hn]
    refine rn_go 80 (by with_unfolding_all rfl) ?_
    refine rn_br (by with_unfolding_all rfl) (fun _ => ?_) (fun c_ => absurd ((by rw [shn n (by omega), hin]; exact Int32.le_refl _)) c_)
    refine rn_go 80 (by with_unfolding_all rfl) ?_
    refine rn_cl (by with_unfolding_all rfl) (ev_up (by decide) (xm_tellPart (by omega) p0 (by omega) w)) ?_
    refine rn_go 80 (by with_unfolding_all rfl) ?_
    exact rn_rt (by with_unfolding_all rfl) trivial rfl rfl
  | q + 1, k, hk, r, hl, o6, o7 => by
    have h4 := hX.2.2.1
    have m4 := hX.2.2.2.2.2.1
    have p2 : 2 ^ n ≤ 2 ^ 4 := Nat.pow_le_pow_right (by decide) h4
    have hXi := ox_ov hX (cf_ok hX (nI k))
    obtain ⟨r1, ho, he1, hlay⟩ := xx_lay (g := g) (T := T) (A := A) (gm := gm) (Am := Am) (r := r)
    have hl1 := lo_out (by omega) hl ho
    have e1 : Eqv n mo (ov x (cf x (nI k)) 0) (tv r1 567) := by
      rw [ov_0]
      refine eqv_tr he0 (eqv_tr (eqv_21 h4 m4 (fun j hj => ?_)) (eqv_21 h4 m4 he1))
      unfold tv
      rw [hl _ (by omega)]
    obtain ⟨r2, hl2, he2, hin⟩ := xm_coldL (g := g) (T := T) (A := A) (gm := gm) (Am := Am) hn hX (nI cc) w (cdA x (nI cc) n dy mo k) (cdB (nI cc) n k) (nI k) n 0 (by omega) r1 hl1 e1
    obtain ⟨r3, hl3, ih⟩ := xm_coldsL hn he0 hX hc w q (k + 1) (by omega) r2 hl2 (some (.int (wy (nI cc) (nI k) n))) (some (.int (nI n)))
    rw [← nI_1] at ih
    refine ⟨r3, hl3, ?_⟩
    refine rn_go 80 (by with_unfolding_all rfl) ?_
    refine rn_ld (1) (by with_unfolding_all rfl) rfl (by omega) (by decide) ?_
    rw [tu_s, hl 1 (by omega), hn]
    refine rn_go 80 (by with_unfolding_all rfl) ?_
    refine rn_br (by with_unfolding_all rfl) (fun c_ => absurd c_ ((by rw [shn n (by omega)]; exact nI_ge (show k < 2 ^ n by omega) (by omega)))) (fun _ => ?_)
    refine rn_go 80 (by with_unfolding_all rfl) ?_
    refine rn_cl (by with_unfolding_all rfl) (ev_up (by decide) (hlay)) ?_
    refine rn_to 66 80 (by with_unfolding_all rfl) ?_
    refine hin _ _ ?_
    refine rn_go 80 (by with_unfolding_all rfl) ?_
    refine rn_cl (by with_unfolding_all rfl) (ev_up (by decide) (xx_can (B := 567) (by omega) he2 hXi)) ?_
    refine rn_go 80 (by with_unfolding_all rfl) ?_
    refine rn_cl (by with_unfolding_all rfl) (ev_up (by decide) (xx_isCarried (B := 567) (by omega) he2 hXi _)) ?_
    refine rn_go 80 (by with_unfolding_all rfl) ?_
    refine rn_br (by with_unfolding_all rfl) (fun c => ?_) (fun c => ?_)
    · rw [show cdA x (nI cc) n dy mo (k + 1) = cdA x (nI cc) n dy mo k + 0 by simp only [cdA]; rw [if_pos c, Int32.add_zero]] at ih
      refine rn_to 43 80 (by with_unfolding_all rfl) ?_
      with_unfolding_all exact ih
    · rw [show cdA x (nI cc) n dy mo (k + 1) = cdA x (nI cc) n dy mo k + wy (nI cc) (nI k) n by simp only [cdA]; rw [if_neg c]] at ih
      refine rn_to 43 80 (by with_unfolding_all rfl) ?_
      with_unfolding_all exact ih
set_option maxRecDepth 10000 in
theorem xm_colds {x : Nat → Int32} (hX : gm 0 = 0 ∨ okX x n mo dy) (he : Eqv n mo x (tv (Am 0) 0)) (c w : Int32) : ∃ r', Lo (Am 0) r' ∧ am_ev 12 207 [.ref 43, .int c, .int w] (wd g T A gm Am) (some (.int (sColds (gm 0) x n mo dy c w))) (wd g T A gm (tu Am 0 r')) := by
  unfold sColds
  by_cases q1 : gm 0 = 0
  · rw [if_pos q1]
    refine ⟨Am 0, fun _ _ => rfl, ?_⟩
    rw [tu_id]
    refine rn_ev am_m_X9_colds rfl rfl ?_
    refine rn_go 80 (by with_unfolding_all rfl) ?_
    refine rn_br (by with_unfolding_all rfl) (fun _ => ?_) (fun c_ => absurd (q1) c_)
    refine rn_go 80 (by with_unfolding_all rfl) ?_
    exact rn_rt (by with_unfolding_all rfl) trivial rfl rfl
  have hX := hX.resolve_left q1
  rw [if_neg q1]
  by_cases hq : (c < 0 ∨ ¬ c ≤ 10 ∨ ie w = 0)
  · rw [if_pos hq]
    refine ⟨Am 0, fun _ _ => rfl, ?_⟩
    rw [tu_id]
    refine rn_ev am_m_X9_colds rfl rfl ?_
    refine rn_go 80 (by with_unfolding_all rfl) ?_
    refine rn_br (by with_unfolding_all rfl) (fun c_ => absurd c_ (q1)) (fun _ => ?_)
    refine rn_go 80 (by with_unfolding_all rfl) ?_
    refine rn_cl (by with_unfolding_all rfl) (ev_up (by decide) (xm_in _ _ _)) ?_
    rw [inn_b (a := 0) (b := 10) (P := 0) (Q := 10) (by decide) (by decide)]
    refine rn_go 80 (by with_unfolding_all rfl) ?_
    refine rn_br (by with_unfolding_all rfl) (fun c1 => ?_) (fun c1 => ?_)
    · refine rn_go 80 (by with_unfolding_all rfl) ?_
      exact rn_rt (by with_unfolding_all rfl) trivial rfl rfl
    refine rn_go 80 (by with_unfolding_all rfl) ?_
    refine rn_cl (by with_unfolding_all rfl) (ev_up (by decide) (xm_in _ _ _)) ?_
    rw [inn_b (a := 0) (b := 1) (P := 0) (Q := 1) (by decide) (by decide), ie_btw]
    refine rn_go 80 (by with_unfolding_all rfl) ?_
    refine rn_br (by with_unfolding_all rfl) (fun c3 => ?_) (fun c3 => ?_)
    · refine rn_go 80 (by with_unfolding_all rfl) ?_
      exact rn_rt (by with_unfolding_all rfl) trivial rfl rfl
    exfalso
    have c1 := btw_f c1
    rcases hq with q | q | q
    · exact c1.1 q
    · exact q c1.2
    · exact c3 q
  · rw [if_neg hq]
    have q2 : ¬ c < 0 := fun q => hq (Or.inl q)
    have q3 : c ≤ 10 := Classical.not_not.mp (fun q => hq (Or.inr (Or.inl q)))
    have q6 : ¬ ie w = 0 := fun q => hq (Or.inr (Or.inr q))
    obtain ⟨cc, hcc, rfl⟩ := le_of40 (m := 10) (by decide) q2 q3
    have hn1 : Am 0 1 = nI n := by
      have := he.1 1 (by decide)
      unfold tv at this
      rw [← hX.2.1, this]
    obtain ⟨r2, hl2, hrun⟩ := xm_coldsL (g := g) (T := T) (A := A) (gm := gm) (Am := Am) (r0 := Am 0) hn1 he hX hcc w (2 ^ n) 0 (by omega) (Am 0) (fun _ _ => rfl) none none
    rw [tu_id] at hrun
    refine ⟨r2, hl2, ?_⟩
    refine rn_ev am_m_X9_colds rfl rfl ?_
    refine rn_go 80 (by with_unfolding_all rfl) ?_
    refine rn_br (by with_unfolding_all rfl) (fun c_ => absurd c_ (q1)) (fun _ => ?_)
    refine rn_go 80 (by with_unfolding_all rfl) ?_
    refine rn_cl (by with_unfolding_all rfl) (ev_up (by decide) (xm_in _ _ _)) ?_
    rw [inn_b (a := 0) (b := 10) (P := 0) (Q := 10) (by decide) (by decide)]
    refine rn_go 80 (by with_unfolding_all rfl) ?_
    refine rn_br (by with_unfolding_all rfl) (fun c_ => absurd c_ (btw_t q2 q3)) (fun _ => ?_)
    refine rn_go 80 (by with_unfolding_all rfl) ?_
    refine rn_cl (by with_unfolding_all rfl) (ev_up (by decide) (xm_in _ _ _)) ?_
    rw [inn_b (a := 0) (b := 1) (P := 0) (Q := 1) (by decide) (by decide), ie_btw]
    refine rn_go 80 (by with_unfolding_all rfl) ?_
    refine rn_br (by with_unfolding_all rfl) (fun c_ => absurd c_ (q6)) (fun _ => ?_)
    refine rn_to 43 80 (by with_unfolding_all rfl) ?_
    with_unfolding_all exact hrun
set_option maxRecDepth 10000 in
theorem x2_digit (a p m : Int32) : am_ev 1 25 [.int a, .int p, .int m] h (some (.int (dg a p m))) h := by
  refine rn_ev am_m_X2_digit rfl rfl ?_
  refine rn_go 80 (by with_unfolding_all rfl) ?_
  exact rn_rt (by with_unfolding_all rfl) trivial rfl rfl
set_option maxRecDepth 10000 in
theorem x8_isPick (k : Int32) : am_ev 1 131 [.int k] h (some (.int (btw k (-1) 3))) h := by
  unfold btw
  refine rn_ev am_m_X8_isPick rfl rfl ?_
  refine rn_go 80 (by with_unfolding_all rfl) ?_
  refine rn_br (by with_unfolding_all rfl) (fun c => ?_) (fun c => ?_)
  · rw [if_pos c]
    refine rn_go 80 (by with_unfolding_all rfl) ?_
    exact rn_rt (by with_unfolding_all rfl) (Or.inl rfl) (rfl) (rfl)
  rw [if_neg c]
  refine rn_go 80 (by with_unfolding_all rfl) ?_
  refine rn_br (by with_unfolding_all rfl) (fun c2 => ?_) (fun c2 => ?_)
  · rw [if_pos c2]
    refine rn_go 80 (by with_unfolding_all rfl) ?_
    exact rn_rt (by with_unfolding_all rfl) (Or.inl rfl) (rfl) (rfl)
  · rw [if_neg c2]
    refine rn_go 80 (by with_unfolding_all rfl) ?_
    exact rn_rt (by with_unfolding_all rfl) (Or.inr rfl) (rfl) (rfl)
set_option maxRecDepth 10000 in
theorem x2_giveL (hX : okX (T 0) n mo dy) (way : Int32) (y : Nat → Int32) : ∀ q i, i + q = n → ∀ o, rn none 1 am_t_X2_give (4, [some (.ref 34), some (.int way), some (.int (gv (nI n) way i)), some (.int (nI i)), o], [], wd g (tu T 1 (ov y (lf (T 0) (nI n) way) i)) A gm Am) (some (.int (gv (nI n) way n))) (wd g (tu T 1 (ov y (lf (T 0) (nI n) way) n)) A gm Am)
  | 0, i, hi, o => by
    have hin : i = n := by omega
    subst hin
    refine rn_go 80 (by with_unfolding_all rfl) ?_
    refine rn_br (by with_unfolding_all rfl) (fun _ => ?_) (fun c_ => absurd ((by rw [tu_n (by decide), hX.2.1]; exact Int32.le_refl _)) c_)
    refine rn_go 80 (by with_unfolding_all rfl) ?_
    exact rn_rt (by with_unfolding_all rfl) trivial rfl rfl
  | q + 1, i, hi, o => by
    have ih := x2_giveL hX way y q (i + 1) (by omega)
    rw [← nI_1, ← ov_s] at ih
    have h4 := hX.2.2.1
    refine rn_go 80 (by with_unfolding_all rfl) ?_
    refine rn_br (by with_unfolding_all rfl) (fun c_ => absurd c_ ((by rw [tu_n (by decide), hX.2.1]; exact nI_ge (show i < n by omega) (by omega)))) (fun _ => ?_)
    refine rn_go 80 (by with_unfolding_all rfl) ?_
    refine rn_cl (by with_unfolding_all rfl) (ev_up (by decide) (x2_digit _ _ _)) ?_
    rw [tu_n (by decide), hX.2.1]
    refine rn_go 80 (by with_unfolding_all rfl) ?_
    refine rn_ld (i) (by with_unfolding_all rfl) rfl (by omega) (by decide) ?_
    rw [wa_at (by omega), tu_n (by decide)]
    refine rn_go 80 (by with_unfolding_all rfl) ?_
    refine rn_cl (by with_unfolding_all rfl) (ev_up (by decide) (x8_bal _ _)) ?_
    refine rn_go 80 (by with_unfolding_all rfl) ?_
    refine rn_st (i) (by with_unfolding_all rfl) rfl (by omega) (by decide) ?_
    refine rn_hp (by with_unfolding_all exact (ww_1_13 (by omega))) ?_
    rw [tu_tu, tu_s]
    refine rn_to 4 80 (by with_unfolding_all rfl) ?_
    with_unfolding_all exact ih _
set_option maxRecDepth 10000 in
theorem x2_give (hX : okX (T 0) n mo dy) (way : Int32) (y : Nat → Int32) : am_ev 2 29 [.ref 34, .int way] (wd g (tu T 1 y) A gm Am) (some (.int (gv (nI n) way n))) (wd g (tu T 1 (ov y (lf (T 0) (nI n) way) n)) A gm Am) := by
  have key := x2_giveL (g := g) (A := A) (gm := gm) (Am := Am) hX way y n 0 (by omega) none
  rw [ov_0] at key
  refine rn_ev am_m_X2_give rfl rfl ?_
  refine rn_to 4 80 (by with_unfolding_all rfl) ?_
  with_unfolding_all exact key
set_option maxRecDepth 10000 in
theorem x2_lozL (hX : okX (T 0) n mo dy) {K : Int32} (hK : K < nI n) : ∀ q k, k + q = 4 ^ n → ∀ y o, (∀ f, ov y f n = ov (T 0) f n) → ∃ y', rn none 6 am_t_X2_fewestLozenges (36, [some (.ref 34), some (.int K), some (.int (nI n)), some (.int (bl (T 0) n dy mo k)), some (.int (fg (T 0) n dy mo k)), some (.int (nI k)), o], [], wd g (tu T 1 y) A gm Am) (some (.int (if bl (T 0) n dy mo (4 ^ n) = -1000000 then -1000000 else if 0 ≤ K then dg (bl (T 0) n dy mo (4 ^ n)) K (nI n) else gv (nI n) (bl (T 0) n dy mo (4 ^ n)) n))) (wd g (tu T 1 y') A gm Am)
  | 0, k, hk, y, o, hy => by
    have hin : k = 4 ^ n := by omega
    have h4 := hX.2.2.1
    have p4 : 4 ^ n ≤ 4 ^ 4 := Nat.pow_le_pow_right (by decide) h4
    rw [← hin]
    refine ⟨y, ?_⟩
    refine rn_go 80 (by with_unfolding_all rfl) ?_
    refine rn_br (by with_unfolding_all rfl) (fun _ => ?_) (fun c_ => absurd ((by rw [shn2 n (by omega), hin]; exact Int32.le_refl _)) c_)
    refine rn_go 80 (by with_unfolding_all rfl) ?_
    refine rn_br (by with_unfolding_all rfl) (fun c => ?_) (fun c => ?_)
    · rw [if_pos c]
      refine rn_go 80 (by with_unfolding_all rfl) ?_
      exact rn_rt (by with_unfolding_all rfl) trivial rfl rfl
    rw [if_neg c]
    refine rn_go 80 (by with_unfolding_all rfl) ?_
    refine rn_br (by with_unfolding_all rfl) (fun c2 => ?_) (fun c2 => ?_)
    · rw [if_pos c2]
      refine rn_go 80 (by with_unfolding_all rfl) ?_
      refine rn_cl (by with_unfolding_all rfl) (ev_up (by decide) (x2_digit _ _ _)) ?_
      refine rn_go 80 (by with_unfolding_all rfl) ?_
      exact rn_rt (by with_unfolding_all rfl) trivial rfl rfl
    · rw [if_neg c2]
      refine rn_go 80 (by with_unfolding_all rfl) ?_
      exact rn_rt (by with_unfolding_all rfl) (trivial) (by unfold fg; rw [if_neg c]) (rfl)
  | q + 1, k, hk, y, o, hy => by
    have h4 := hX.2.2.1
    have p4 : 4 ^ n ≤ 4 ^ 4 := Nat.pow_le_pow_right (by decide) h4
    have hXi := ox_ov hX (lf_ok hX (nI n) (nI k))
    have hgi := x2_give (g := g) (A := A) (gm := gm) (Am := Am) hX (nI k) y
    rw [hy] at hgi
    obtain ⟨y', ih⟩ := x2_lozL hX hK q (k + 1) (by omega) (ov (T 0) (lf (T 0) (nI n) (nI k)) n) (some (.int (gv (nI n) (nI k) n))) (fun f => ov_ov)
    rw [← nI_1] at ih
    have hsame : bl (T 0) n dy mo (k + 1) = bl (T 0) n dy mo k → rn none 6 am_t_X2_fewestLozenges (84, [some (.ref 34), some (.int K), some (.int (nI n)), some (.int (bl (T 0) n dy mo k)), some (.int (fg (T 0) n dy mo k)), some (.int (nI k)), some (.int (gv (nI n) (nI k) n))], [], wd g (tu T 1 (ov (T 0) (lf (T 0) (nI n) (nI k)) n)) A gm Am) (some (.int (if bl (T 0) n dy mo (4 ^ n) = -1000000 then -1000000 else if 0 ≤ K then dg (bl (T 0) n dy mo (4 ^ n)) K (nI n) else gv (nI n) (bl (T 0) n dy mo (4 ^ n)) n))) (wd g (tu T 1 y') A gm Am) := by
      intro e
      rw [fg_same e, e] at ih
      refine rn_to 36 80 (by with_unfolding_all rfl) ?_
      with_unfolding_all exact ih
    have hnew : bl (T 0) n dy mo (k + 1) = nI k → rn none 6 am_t_X2_fewestLozenges (77, [some (.ref 34), some (.int K), some (.int (nI n)), some (.int (bl (T 0) n dy mo k)), some (.int (fg (T 0) n dy mo k)), some (.int (nI k)), some (.int (gv (nI n) (nI k) n))], [], wd g (tu T 1 (ov (T 0) (lf (T 0) (nI n) (nI k)) n)) A gm Am) (some (.int (if bl (T 0) n dy mo (4 ^ n) = -1000000 then -1000000 else if 0 ≤ K then dg (bl (T 0) n dy mo (4 ^ n)) K (nI n) else gv (nI n) (bl (T 0) n dy mo (4 ^ n)) n))) (wd g (tu T 1 y') A gm Am) := by
      intro e
      rw [fg_new (by omega) e, e] at ih
      refine rn_to 36 80 (by with_unfolding_all rfl) ?_
      with_unfolding_all exact ih
    refine ⟨y', ?_⟩
    refine rn_go 80 (by with_unfolding_all rfl) ?_
    refine rn_br (by with_unfolding_all rfl) (fun c_ => absurd c_ ((by rw [shn2 n (by omega)]; exact nI_ge (show k < 4 ^ n by omega) (by omega)))) (fun _ => ?_)
    refine rn_go 80 (by with_unfolding_all rfl) ?_
    refine rn_cl (by with_unfolding_all rfl) (ev_up (by decide) (hgi)) ?_
    refine rn_go 80 (by with_unfolding_all rfl) ?_
    refine rn_br (by with_unfolding_all rfl) (fun c => ?_) (fun c => ?_)
    · refine rn_go 80 (by with_unfolding_all rfl) ?_
      refine rn_cl (by with_unfolding_all rfl) (ev_up (by decide) (xk_carriedAll hXi)) ?_
      refine rn_go 80 (by with_unfolding_all rfl) ?_
      refine rn_br (by with_unfolding_all rfl) (fun c2 => ?_) (fun c2 => ?_)
      · with_unfolding_all exact hsame (by simp only [bl]; rw [if_pos c, if_pos (show lcw (T 0) n dy mo k = 0 from c2)])
      · with_unfolding_all exact hnew (by simp only [bl]; rw [if_pos c, if_neg (show ¬ lcw (T 0) n dy mo k = 0 from c2)])
    · have efg : fg (T 0) n dy mo k = gv (nI n) (bl (T 0) n dy mo k) n := by unfold fg; rw [if_neg c]
      refine rn_go 80 (by with_unfolding_all rfl) ?_
      refine rn_br (by with_unfolding_all rfl) (fun c3 => ?_) (fun c3 => ?_)
      · rw [efg] at c3
        with_unfolding_all exact hsame (by simp only [bl]; rw [if_neg c, if_pos c3])
      · rw [efg] at c3
        refine rn_go 80 (by with_unfolding_all rfl) ?_
        refine rn_cl (by with_unfolding_all rfl) (ev_up (by decide) (xk_carriedAll hXi)) ?_
        refine rn_go 80 (by with_unfolding_all rfl) ?_
        refine rn_br (by with_unfolding_all rfl) (fun c2 => ?_) (fun c2 => ?_)
        · with_unfolding_all exact hsame (by simp only [bl]; rw [if_neg c, if_neg c3, if_pos (show lcw (T 0) n dy mo k = 0 from c2)])
        · with_unfolding_all exact hnew (by simp only [bl]; rw [if_neg c, if_neg c3, if_neg (show ¬ lcw (T 0) n dy mo k = 0 from c2)])
set_option maxRecDepth 10000 in
theorem x8_lozenges (hb : g 11 = 0 ∨ g 11 = 1) (hX : g 11 = 0 ∨ okX (T 0) n mo dy) (K : Int32) : ∃ g' t', (∀ k, k ≠ 12 → g' k = g k) ∧ am_ev 12 112 [.ref 0, .int K] (wd g T A gm Am) (some (.int (sLoz (g 11) (T 0) n mo dy K))) (wd g' (tu T 1 t') A gm Am) := by
  unfold sLoz
  by_cases q1 : g 11 = 0
  · rw [if_pos q1]
    refine ⟨g, T 1, fun _ _ => rfl, ?_⟩
    rw [tu_id]
    refine rn_ev am_m_X8_lozenges rfl rfl ?_
    refine rn_go 80 (by with_unfolding_all rfl) ?_
    refine rn_br (by with_unfolding_all rfl) (fun _ => ?_) (fun c_ => absurd (q1) c_)
    refine rn_go 80 (by with_unfolding_all rfl) ?_
    exact rn_rt (by with_unfolding_all rfl) trivial rfl rfl
  rw [if_neg q1]
  have hX := hX.resolve_left q1
  by_cases hq : (K < -1 ∨ ¬ K ≤ 3)
  · rw [if_pos hq]
    refine ⟨g, T 1, fun _ _ => rfl, ?_⟩
    rw [tu_id]
    refine rn_ev am_m_X8_lozenges rfl rfl ?_
    refine rn_go 80 (by with_unfolding_all rfl) ?_
    refine rn_br (by with_unfolding_all rfl) (fun c_ => absurd c_ (q1)) (fun _ => ?_)
    refine rn_go 80 (by with_unfolding_all rfl) ?_
    refine rn_cl (by with_unfolding_all rfl) (ev_up (by decide) (x8_isPick K)) ?_
    refine rn_go 80 (by with_unfolding_all rfl) ?_
    refine rn_br (by with_unfolding_all rfl) (fun c5 => ?_) (fun c5 => ?_)
    · refine rn_go 80 (by with_unfolding_all rfl) ?_
      exact rn_rt (by with_unfolding_all rfl) trivial rfl rfl
    exfalso
    have c5 := btw_f c5
    rcases hq with q | q
    · exact c5.1 q
    · exact q c5.2
  rw [if_neg hq]
  have q2 : ¬ K < -1 := fun q => hq (Or.inl q)
  have q3 : K ≤ 3 := Classical.not_not.mp (fun q => hq (Or.inr q))
  by_cases q4 : nI n ≤ K
  · rw [if_pos q4]
    refine ⟨g, T 1, fun _ _ => rfl, ?_⟩
    rw [tu_id]
    have key : am_ev 8 28 [.ref 34, .int K] (wd g T A gm Am) (some (.int (-1000000))) (wd g T A gm Am) := by
      refine rn_ev am_m_X2_fewestLozenges rfl rfl ?_
      refine rn_go 80 (by with_unfolding_all rfl) ?_
      refine rn_br (by with_unfolding_all rfl) (fun c_ => absurd c_ ((by rw [hX.2.1]; exact Int32.not_lt.mpr q4))) (fun _ => ?_)
      refine rn_go 80 (by with_unfolding_all rfl) ?_
      exact rn_rt (by with_unfolding_all rfl) trivial rfl rfl
    refine rn_ev am_m_X8_lozenges rfl rfl ?_
    refine rn_go 80 (by with_unfolding_all rfl) ?_
    refine rn_br (by with_unfolding_all rfl) (fun c_ => absurd c_ (q1)) (fun _ => ?_)
    refine rn_go 80 (by with_unfolding_all rfl) ?_
    refine rn_cl (by with_unfolding_all rfl) (ev_up (by decide) (x8_isPick K)) ?_
    refine rn_go 80 (by with_unfolding_all rfl) ?_
    refine rn_br (by with_unfolding_all rfl) (fun c_ => absurd c_ (btw_t q2 q3)) (fun _ => ?_)
    refine rn_go 80 (by with_unfolding_all rfl) ?_
    refine rn_cl (by with_unfolding_all rfl) (ev_up (by decide) (key)) ?_
    refine rn_go 80 (by with_unfolding_all rfl) ?_
    exact rn_rt (by with_unfolding_all rfl) trivial rfl rfl
  · rw [if_neg q4]
    obtain ⟨y', hrun⟩ := x2_lozL (g := upd g 12 (g 11)) (A := A) (gm := gm) (Am := Am) hX (Int32.not_le.mp q4) (4 ^ n) 0 (by omega) (T 0) none (fun f => rfl)
    refine ⟨upd g 12 (g 11), y', fun j hj => up_ne hj, ?_⟩
    have key : am_ev 8 28 [.ref 34, .int K] (wd g T A gm Am) (some (.int (if bl (T 0) n dy mo (4 ^ n) = -1000000 then -1000000 else if 0 ≤ K then dg (bl (T 0) n dy mo (4 ^ n)) K (nI n) else gv (nI n) (bl (T 0) n dy mo (4 ^ n)) n))) (wd (upd g 12 (g 11)) (tu T 1 y') A gm Am) := by
      refine rn_ev am_m_X2_fewestLozenges rfl rfl ?_
      refine rn_go 80 (by with_unfolding_all rfl) ?_
      rw [hX.2.1]
      refine rn_br (by with_unfolding_all rfl) (fun _ => ?_) (fun c_ => absurd ((Int32.not_le.mp q4)) c_)
      refine rn_go 80 (by with_unfolding_all rfl) ?_
      refine rn_cl (by with_unfolding_all rfl) (ev_up (by decide) (xh_become_1_0 hb)) ?_
      refine rn_to 36 80 (by with_unfolding_all rfl) ?_
      refine rn_of_le (d := 6) (by decide) ?_
      with_unfolding_all exact hrun
    refine rn_ev am_m_X8_lozenges rfl rfl ?_
    refine rn_go 80 (by with_unfolding_all rfl) ?_
    refine rn_br (by with_unfolding_all rfl) (fun c_ => absurd c_ (q1)) (fun _ => ?_)
    refine rn_go 80 (by with_unfolding_all rfl) ?_
    refine rn_cl (by with_unfolding_all rfl) (ev_up (by decide) (x8_isPick K)) ?_
    refine rn_go 80 (by with_unfolding_all rfl) ?_
    refine rn_br (by with_unfolding_all rfl) (fun c_ => absurd c_ (btw_t q2 q3)) (fun _ => ?_)
    refine rn_go 80 (by with_unfolding_all rfl) ?_
    refine rn_cl (by with_unfolding_all rfl) (ev_up (by decide) (key)) ?_
    refine rn_go 80 (by with_unfolding_all rfl) ?_
    exact rn_rt (by with_unfolding_all rfl) trivial rfl rfl
end

/-! the best agenda: the reference -/
def nz (t : Nat → Int32) : Nat → Int32 := upd t 4 0
set_option maxRecDepth 10000 in
theorem tc4 {x : Nat → Int32} {c : Int32} (p : Nat) : tc (upd x 4 c) p = tc x p := by
  unfold tc
  rw [up_ne (by omega), up_ne (by decide)]
set_option maxRecDepth 10000 in
theorem ta4 {x : Nat → Int32} {c : Int32} : ∀ i, ta (upd x 4 c) i = ta x i
  | 0 => rfl
  | i + 1 => by
    unfold ta
    rw [ta4 i, tc4 i, up_ne (by omega)]
set_option maxRecDepth 10000 in
theorem tw4 {x : Nat → Int32} {c a : Int32} (p : Nat) : tw (upd x 4 c) p a = tw x p a := by
  unfold tw
  rw [up_ne (show 9 + p ≠ 4 by omega), up_ne (show 13 + p ≠ 4 by omega), up_ne (show 1 ≠ 4 by decide)]
set_option maxRecDepth 10000 in
theorem ts4 {x : Nat → Int32} {c s a : Int32} : ∀ i, ts (upd x 4 c) s a i = ts x s a i
  | 0 => rfl
  | i + 1 => by
    unfold ts
    rw [ts4 i, tw4 i]
set_option maxRecDepth 10000 in
theorem pb4 {x : Nat → Int32} {c s : Int32} (p : Nat) : pb (upd x 4 c) s p = pb x s p := by
  unfold pb dr
  rw [up_ne (show 9 + p ≠ 4 by omega), up_ne (show 13 + p ≠ 4 by omega), up_ne (show 17 + p ≠ 4 by omega), up_ne (show 3 ≠ 4 by decide), tc4]
set_option maxRecDepth 10000 in
theorem nz_ne {t : Nat → Int32} {k : Nat} (h : k ≠ 4) : nz t k = t k := up_ne h
section
variable {n mo dy : Nat} {x r : Nat → Int32} {B : Nat}
set_option maxRecDepth 10000 in
theorem nz_eq (he : Eqv n mo (nz x) (nz (tv r B))) : Eqv n mo (upd x 4 (tv r B 4)) (tv r B) := by
  refine ⟨fun k hk => ?_, fun m hm => ?_, fun p hp => ⟨?_, ?_, ?_⟩⟩
  · by_cases h : k = 4
    · rw [h, up_eq]
    · have := he.1 k hk
      rw [nz_ne h, nz_ne h] at this
      rw [up_ne h, this]
  · have := he.2.1 m hm
    rw [nz_ne (by omega), nz_ne (by omega)] at this
    rw [up_ne (by omega), this]
  · have := (he.2.2 p hp).1
    rw [nz_ne (by omega), nz_ne (by omega)] at this
    rw [up_ne (by omega), this]
  · have := (he.2.2 p hp).2.1
    rw [nz_ne (by omega), nz_ne (by omega)] at this
    rw [up_ne (by omega), this]
  · have := (he.2.2 p hp).2.2
    rw [nz_ne (by omega), nz_ne (by omega)] at this
    rw [up_ne (by omega), this]
set_option maxRecDepth 10000 in
theorem nz_ox {c : Int32} (hX : okX x n mo dy) : okX (upd x 4 c) n mo dy := by
  obtain ⟨h1, h2, h3, h4, h5, h6, h7, h8⟩ := hX
  refine ⟨⟨fun q hq => ?_, by rw [up_ne (by omega)]; exact h1.2⟩, by rw [up_ne (by omega)]; exact h2, h3, by rw [up_ne (by omega)]; exact h4, h5, h6, by rw [up_ne (by omega)]; exact h7, h8⟩
  obtain ⟨a, b, c⟩ := h1.1 q hq
  exact ⟨by rw [up_ne (by omega)]; exact a, by rw [up_ne (by omega)]; exact b, by rw [up_ne (by omega)]; exact c⟩
set_option maxRecDepth 10000 in
theorem nz_pd (h4 : n ≤ 4) (hm4 : mo ≤ 4) (s c c' d : Int32) : Eqv n mo (nz (pd x s n c)) (nz (pd (upd x 4 d) s n c')) := by
  refine ⟨fun k hk => ?_, fun m hm => ?_, fun p hp => ⟨?_, ?_, ?_⟩⟩
  · by_cases h : k = 4
    · rw [h]; unfold nz; rw [up_eq, up_eq]
    · rw [nz_ne h, nz_ne h]
      by_cases h3 : k = 3
      · rw [h3, pd_3, pd_3, up_ne (by decide)]
      · rw [pd_lo (by omega) h3 h, pd_lo (by omega) h3 h, up_ne h]
  · rw [nz_ne (by omega), nz_ne (by omega), pd_lo (by omega) (by omega) (by omega), pd_lo (by omega) (by omega) (by omega), up_ne (by omega)]
  · rw [nz_ne (by omega), nz_ne (by omega), pd_lo (by omega) (by omega) (by omega), pd_lo (by omega) (by omega) (by omega), up_ne (by omega)]
  · rw [nz_ne (by omega), nz_ne (by omega), pd_br hp h4, pd_br hp h4, pb4]
  · rw [nz_ne (by omega), nz_ne (by omega), pd_lo (by omega) (by omega) (by omega), pd_lo (by omega) (by omega) (by omega), up_ne (by omega)]
end
set_option maxRecDepth 10000 in
theorem tu_cm {T : Nat → Nat → Int32} {a b : Nat} {t t' : Nat → Int32} (h : a ≠ b) : tu (tu T a t) b t' = tu (tu T b t') a t := by
  funext j
  unfold tu
  by_cases h1 : j = b
  · rw [if_pos h1, if_neg (by omega), if_pos h1]
  · rw [if_neg h1, if_neg h1]
section
variable {g gm : Nat → Int32} {T A Am : Nat → Nat → Int32} {h : am_H} {n mo dy : Nat}
set_option maxRecDepth 10000 in
theorem xm_cbL {x r0 : Nat → Int32} {ord : Nat} (ho : ord < 256) (hm0 : r0 0 = nI mo) (he0 : Eqv n mo x (tv r0 0)) (hX : okX x n mo dy) (hdy : dy ≤ 999) : ∀ q i, i + q = mo → allB ord mo i = true → ∀ r, Lo r0 r → Eqv n mo (nz (dys all n mo dy x i)) (nz (tv r 567)) → ∀ o, ∃ r', Lo r0 r' ∧ rn none 7 am_t_X9_carriedBy (11, [some (.ref 43), some (.int (nI ord)), some (.int (sn ord mo i)), some (.int (cio n mo dy x ord i)), some (.int (nI i)), o], [], wd g T A gm (tu Am 0 r)) (some (.int (vo n mo dy x ord))) (wd g T A gm (tu Am 0 r'))
  | 0, i, hi, hal, r, hl, he, o => by
    have hin : i = mo := by omega
    subst hin
    refine ⟨r, hl, ?_⟩
    refine rn_go 80 (by with_unfolding_all rfl) ?_
    refine rn_ld (0) (by with_unfolding_all rfl) rfl (by omega) (by decide) ?_
    rw [tu_s, hl 0 (by omega), hm0]
    refine rn_go 80 (by with_unfolding_all rfl) ?_
    refine rn_br (by with_unfolding_all rfl) (fun _ => ?_) (fun c_ => absurd (Int32.le_refl _) c_)
    refine rn_go 80 (by with_unfolding_all rfl) ?_
    exact rn_rt (by with_unfolding_all rfl) (trivial) (by unfold vo; rw [if_pos hal]) (rfl)
  | q + 1, i, hi, hal, r, hl, he, o => by
    have h4 := hX.2.2.1
    have m4 := hX.2.2.2.2.2.1
    have hXi := ox_dys sf_all hX i (by omega)
    have hr0 : r 0 = nI mo := by rw [hl 0 (by omega)]; exact hm0
    have ed : nI ord >>> ((2 * (nI mo - 1 - nI i)) &&& 31) &&& 3 = nI (dn ord i mo) := D4 (by omega) (by omega) (by omega)
    have hd4 := dn_lt ord i mo
    by_cases cg : gdB ord mo i = true
    · have cg2 : dn ord i mo < mo ∧ tb (sn ord mo i) (dn ord i mo) = 0 := by
        unfold gdB at cg
        simpa using cg
      have hx' := nz_ox (c := tv r 567 4) hXi
      have can := xx_can (g := g) (T := T) (A := A) (gm := gm) (Am := Am) (B := 567) (by omega) (nz_eq he) hx'
      rw [ta4] at can
      obtain ⟨r1, ho1, he1, hps⟩ := xx_passFor (g := g) (T := T) (A := A) (gm := gm) (Am := Am) (B := 567) (by omega) (nz_eq he) hx' (may_ta h4) (x (5 + dn ord i mo))
      rw [ta4, ts4] at hps he1
      have hl1 := lo_out (by omega) hl ho1
      have he2 : Eqv n mo (nz (dys all n mo dy x (i + 1))) (nz (tv r1 567)) := eqv_tr (nz_pd h4 m4 _ _ _ _) (eqv_upd he1 4 0)
      obtain ⟨r2, hl2, ih⟩ := xm_cbL ho hm0 he0 hX hdy q (i + 1) (by omega) (show (allB ord mo i && gdB ord mo i) = true by rw [hal, cg]; rfl) r1 hl1 he2 (some (.int (nI (dn ord i mo))))
      rw [← nI_1] at ih
      have ec : cio n mo dy x ord (i + 1) = cio n mo dy x ord i + (if ts (dys all n mo dy x i) (ta (dys all n mo dy x i) n) (ta (dys all n mo dy x i) n) n < x (5 + dn ord i mo) then 0 else 1) := by
        show (if sd n mo dy x i < x (5 + dn ord i mo) then cio n mo dy x ord i else cio n mo dy x ord i + 1) = cio n mo dy x ord i + (if sd n mo dy x i < x (5 + dn ord i mo) then 0 else 1)
        by_cases cx : sd n mo dy x i < x (5 + dn ord i mo)
        · rw [if_pos cx, if_pos cx, Int32.add_zero]
        · rw [if_neg cx, if_neg cx]
      rw [ec] at ih
      refine ⟨r2, hl2, ?_⟩
      refine rn_go 80 (by with_unfolding_all rfl) ?_
      refine rn_ld (0) (by with_unfolding_all rfl) rfl (by omega) (by decide) ?_
      rw [tu_s, hr0]
      refine rn_go 80 (by with_unfolding_all rfl) ?_
      refine rn_br (by with_unfolding_all rfl) (fun c_ => absurd c_ (nI_ge (show i < mo by omega) (by omega))) (fun _ => ?_)
      refine rn_go 80 (by with_unfolding_all rfl) ?_
      refine rn_ld (0) (by with_unfolding_all rfl) rfl (by omega) (by decide) ?_
      rw [tu_s, hr0]
      refine rn_to 41 80 (by with_unfolding_all rfl) ?_
      rw [ed]
      refine rn_go 80 (by with_unfolding_all rfl) ?_
      refine rn_ld (0) (by with_unfolding_all rfl) rfl (by omega) (by decide) ?_
      rw [tu_s, hr0]
      refine rn_go 80 (by with_unfolding_all rfl) ?_
      refine rn_br (by with_unfolding_all rfl) (fun c_ => absurd c_ (nI_ge cg2.1 (by omega))) (fun _ => ?_)
      refine rn_go 80 (by with_unfolding_all rfl) ?_
      refine rn_cl (by with_unfolding_all rfl) (ev_up (by decide) (xm_has _ (dn ord i mo))) ?_
      refine rn_go 80 (by with_unfolding_all rfl) ?_
      refine rn_br (by with_unfolding_all rfl) (fun _ => ?_) (fun c_ => absurd (cg2.2) c_)
      refine rn_go 80 (by with_unfolding_all rfl) ?_
      refine rn_cl (by with_unfolding_all rfl) (ev_up (by decide) (can)) ?_
      refine rn_go 80 (by with_unfolding_all rfl) ?_
      refine rn_ld (5 + dn ord i mo) (by with_unfolding_all rfl) (nI_add 5 (dn ord i mo)) (by omega) (by decide) ?_
      rw [tu_s, hl _ (by omega), show r0 (5 + dn ord i mo) = x (5 + dn ord i mo) by rw [he0.2.1 _ cg2.1]; unfold tv; rw [Nat.zero_add]]
      refine rn_go 80 (by with_unfolding_all rfl) ?_
      refine rn_cl (by with_unfolding_all rfl) (ev_up (by decide) (hps)) ?_
      refine rn_to 11 80 (by with_unfolding_all rfl) ?_
      with_unfolding_all exact ih
    · have cgf : gdB ord mo i = false := by
        cases hh : gdB ord mo i
        · rfl
        · exact absurd hh cg
      have hf : allB ord mo mo = false := by
        have := allB_f (ord := ord) (mo := mo) (i := i + 1) (show (allB ord mo i && gdB ord mo i) = false by rw [cgf, Bool.and_false]) (mo - (i + 1))
        rwa [show i + 1 + (mo - (i + 1)) = mo by omega] at this
      have ev : vo n mo dy x ord = -1 := by unfold vo; rw [hf]; rfl
      rw [ev]
      refine ⟨r, hl, ?_⟩
      refine rn_go 80 (by with_unfolding_all rfl) ?_
      refine rn_ld (0) (by with_unfolding_all rfl) rfl (by omega) (by decide) ?_
      rw [tu_s, hr0]
      refine rn_go 80 (by with_unfolding_all rfl) ?_
      refine rn_br (by with_unfolding_all rfl) (fun c_ => absurd c_ (nI_ge (show i < mo by omega) (by omega))) (fun _ => ?_)
      refine rn_go 80 (by with_unfolding_all rfl) ?_
      refine rn_ld (0) (by with_unfolding_all rfl) rfl (by omega) (by decide) ?_
      rw [tu_s, hr0]
      refine rn_to 41 80 (by with_unfolding_all rfl) ?_
      rw [ed]
      refine rn_go 80 (by with_unfolding_all rfl) ?_
      refine rn_ld (0) (by with_unfolding_all rfl) rfl (by omega) (by decide) ?_
      rw [tu_s, hr0]
      refine rn_go 80 (by with_unfolding_all rfl) ?_
      refine rn_br (by with_unfolding_all rfl) (fun c1 => ?_) (fun c1 => ?_)
      · refine rn_go 80 (by with_unfolding_all rfl) ?_
        exact rn_rt (by with_unfolding_all rfl) trivial rfl rfl
      refine rn_go 80 (by with_unfolding_all rfl) ?_
      refine rn_cl (by with_unfolding_all rfl) (ev_up (by decide) (xm_has _ (dn ord i mo))) ?_
      refine rn_go 80 (by with_unfolding_all rfl) ?_
      refine rn_br (by with_unfolding_all rfl) (fun c2 => ?_) (fun c2 => ?_)
      · exfalso
        have hlt : dn ord i mo < mo := Nat.lt_of_not_le (fun q => c1 (nI_le q (by omega)))
        unfold gdB at cgf
        rw [decide_eq_true hlt, decide_eq_true c2] at cgf
        cases cgf
      · refine rn_go 80 (by with_unfolding_all rfl) ?_
        exact rn_rt (by with_unfolding_all rfl) trivial rfl rfl
set_option maxRecDepth 10000 in
theorem xm_carriedBy {x r0 r : Nat → Int32} {ord : Nat} (ho : ord < 256) (hm0 : r0 0 = nI mo) (he0 : Eqv n mo x (tv r0 0)) (hX : okX x n mo dy) (hdy : dy ≤ 999) (hl : Lo r0 r) : ∃ r', Lo r0 r' ∧ am_ev 8 195 [.ref 43, .int (nI ord)] (wd g T A gm (tu Am 0 r)) (some (.int (vo n mo dy x ord))) (wd g T A gm (tu Am 0 r')) := by
  have h4 := hX.2.2.1
  have m4 := hX.2.2.2.2.2.1
  obtain ⟨r1, ho1, he1, hlay⟩ := xx_lay (g := g) (T := T) (A := A) (gm := gm) (Am := Am) (r := r)
  have hl1 := lo_out (by omega) hl ho1
  have e1 : Eqv n mo (nz (dys all n mo dy x 0)) (nz (tv r1 567)) := by
    refine eqv_upd (eqv_tr he0 (eqv_tr (eqv_21 h4 m4 (fun j hj => ?_)) (eqv_21 h4 m4 he1))) 4 0
    unfold tv
    rw [hl _ (by omega)]
  obtain ⟨r2, hl2, hrun⟩ := xm_cbL (g := g) (T := T) (A := A) (gm := gm) (Am := Am) ho hm0 he0 hX hdy mo 0 (by omega) rfl r1 hl1 e1 none
  refine ⟨r2, hl2, ?_⟩
  refine rn_ev am_m_X9_carriedBy rfl rfl ?_
  refine rn_go 80 (by with_unfolding_all rfl) ?_
  refine rn_cl (by with_unfolding_all rfl) (ev_up (by decide) (hlay)) ?_
  refine rn_to 11 80 (by with_unfolding_all rfl) ?_
  with_unfolding_all exact hrun
set_option maxRecDepth 10000 in
theorem xm_boL {r : Nat → Int32} {k : Nat} (hr0 : r 0 = nI mo) (m4 : mo ≤ 4) (K M by9 : Int32) (b : Nat → Int32) : ∀ q i, i + q = mo → ∀ v hh, rn none 11 am_t_X9_agenda (105, [some (.ref 43), some (.int K), some (.int M), some (.int (nI k)), some (.int by9), some (.int (nI mo))], [], wd g T A gm (tu (tu Am 9 (fl b (fun q => dg (nI k) (nI q) (nI mo)) mo)) 0 r)) v hh → rn none 11 am_t_X9_agenda (64, [some (.ref 43), some (.int K), some (.int M), some (.int (nI k)), some (.int by9), some (.int (nI i))], [], wd g T A gm (tu (tu Am 9 (fl b (fun q => dg (nI k) (nI q) (nI mo)) i)) 0 r)) v hh
  | 0, i, hi, v, hh, hend => by
    have hin : i = mo := by omega
    subst hin
    refine rn_go 80 (by with_unfolding_all rfl) ?_
    refine rn_ld (0) (by with_unfolding_all rfl) rfl (by omega) (by decide) ?_
    rw [tu_s, hr0]
    refine rn_go 80 (by with_unfolding_all rfl) ?_
    refine rn_br (by with_unfolding_all rfl) (fun _ => ?_) (fun c_ => absurd (Int32.le_refl _) c_)
    with_unfolding_all exact hend
  | q + 1, i, hi, v, hh, hend => by
    have ih := xm_boL hr0 m4 K M by9 b q (i + 1) (by omega) v hh hend
    rw [← nI_1, ← fl_s] at ih
    refine rn_go 80 (by with_unfolding_all rfl) ?_
    refine rn_ld (0) (by with_unfolding_all rfl) rfl (by omega) (by decide) ?_
    rw [tu_s, hr0]
    refine rn_go 80 (by with_unfolding_all rfl) ?_
    refine rn_br (by with_unfolding_all rfl) (fun c_ => absurd c_ (nI_ge (show i < mo by omega) (by omega))) (fun _ => ?_)
    refine rn_go 80 (by with_unfolding_all rfl) ?_
    refine rn_ld (0) (by with_unfolding_all rfl) rfl (by omega) (by decide) ?_
    rw [tu_s, hr0]
    refine rn_go 80 (by with_unfolding_all rfl) ?_
    refine rn_st (i) (by with_unfolding_all rfl) rfl (by omega) (by decide) ?_
    refine rn_hp (by with_unfolding_all exact (wM_9)) ?_
    rw [tu_n (show 9 ≠ 0 by decide), tu_s, tu_cm (show 0 ≠ 9 by decide), tu_tu]
    refine rn_to 64 80 (by with_unfolding_all rfl) ?_
    with_unfolding_all exact ih
set_option maxRecDepth 10000 in
theorem xm_agL {x r0 : Nat → Int32} (hm0 : r0 0 = nI mo) (he0 : Eqv n mo x (tv r0 0)) (hX : okX x n mo dy) (hdy : dy ≤ 999) {K : Int32} (hK3 : K ≤ 3) : ∀ q k, k + q = 4 ^ mo → ∀ r b o4 o5, Lo r0 r → (mst n mo dy x k = -1 ∨ ∀ q, q < mo → b q = dg (bst n mo dy x k) (nI q) (nI mo)) → ∃ r' b', Lo r0 r' ∧ rn none 11 am_t_X9_agenda (31, [some (.ref 43), some (.int K), some (.int (mst n mo dy x k)), some (.int (nI k)), o4, o5], [], wd g T A gm (tu (tu Am 9 b) 0 r)) (some (.int (if 0 ≤ K then (if nI mo ≤ K then -1000000 else dg (bst n mo dy x (4 ^ mo)) K (nI mo)) else mst n mo dy x (4 ^ mo)))) (wd g T A gm (tu (tu Am 9 b') 0 r'))
  | 0, k, hk, r, b, o4, o5, hl, hb => by
    have hin : k = 4 ^ mo := by omega
    have m4 := hX.2.2.2.2.2.1
    have hr0 : r 0 = nI mo := by rw [hl 0 (by omega)]; exact hm0
    rw [hin] at hb ⊢
    have hb := hb.resolve_left (mst_end hX.2.2.2.2.1 m4)
    refine ⟨r, b, hl, ?_⟩
    refine rn_go 80 (by with_unfolding_all rfl) ?_
    refine rn_ld (0) (by with_unfolding_all rfl) rfl (by omega) (by decide) ?_
    rw [tu_s, hr0]
    refine rn_go 80 (by with_unfolding_all rfl) ?_
    refine rn_br (by with_unfolding_all rfl) (fun _ => ?_) (fun c_ => absurd ((by rw [shn2 mo (by omega)]; exact Int32.le_refl _)) c_)
    refine rn_go 80 (by with_unfolding_all rfl) ?_
    refine rn_br (by with_unfolding_all rfl) (fun c => ?_) (fun c => ?_)
    · rw [if_pos c]
      refine rn_go 80 (by with_unfolding_all rfl) ?_
      refine rn_ld (0) (by with_unfolding_all rfl) rfl (by omega) (by decide) ?_
      rw [tu_s, hr0]
      refine rn_go 80 (by with_unfolding_all rfl) ?_
      refine rn_br (by with_unfolding_all rfl) (fun c2 => ?_) (fun c2 => ?_)
      · rw [if_pos c2]
        refine rn_go 80 (by with_unfolding_all rfl) ?_
        exact rn_rt (by with_unfolding_all rfl) trivial rfl rfl
      · rw [if_neg c2]
        obtain ⟨j, hj, rfl⟩ := le_of40 (m := 3) (by decide) (Int32.not_lt.mpr c) hK3
        have hjm : j < mo := Nat.lt_of_not_le (fun q => c2 (nI_le q (by omega)))
        refine rn_go 80 (by with_unfolding_all rfl) ?_
        refine rn_ld (j) (by with_unfolding_all rfl) rfl (by omega) (by decide) ?_
        rw [tu_n (show 9 ≠ 0 by decide), tu_s, hb j hjm]
        refine rn_go 80 (by with_unfolding_all rfl) ?_
        exact rn_rt (by with_unfolding_all rfl) trivial rfl rfl
    · rw [if_neg c]
      refine rn_go 80 (by with_unfolding_all rfl) ?_
      exact rn_rt (by with_unfolding_all rfl) trivial rfl rfl
  | q + 1, k, hk, r, b, o4, o5, hl, hb => by
    have m4 := hX.2.2.2.2.2.1
    have p4 : 4 ^ mo ≤ 4 ^ 4 := Nat.pow_le_pow_right (by decide) m4
    have hr0 : r 0 = nI mo := by rw [hl 0 (by omega)]; exact hm0
    obtain ⟨r1, hl1, hcb⟩ := xm_carriedBy (g := g) (T := T) (A := A) (gm := gm) (Am := tu Am 9 b) (ord := k) (by omega) hm0 he0 hX hdy hl
    have hr1 : r1 0 = nI mo := by rw [hl1 0 (by omega)]; exact hm0
    by_cases c : vo n mo dy x k ≤ mst n mo dy x k
    · have e1 : mst n mo dy x (k + 1) = mst n mo dy x k := by simp only [mst]; rw [if_pos c]
      have e2 : bst n mo dy x (k + 1) = bst n mo dy x k := by simp only [bst]; rw [if_pos c]
      obtain ⟨r2, b2, hl2, ih⟩ := xm_agL hm0 he0 hX hdy hK3 q (k + 1) (by omega) r1 b (some (.int (vo n mo dy x k))) o5 hl1 (by rw [e1, e2]; exact hb)
      rw [e1, ← nI_1] at ih
      refine ⟨r2, b2, hl2, ?_⟩
      refine rn_go 80 (by with_unfolding_all rfl) ?_
      refine rn_ld (0) (by with_unfolding_all rfl) rfl (by omega) (by decide) ?_
      rw [tu_s, hr0]
      refine rn_go 80 (by with_unfolding_all rfl) ?_
      refine rn_br (by with_unfolding_all rfl) (fun c_ => absurd c_ ((by rw [shn2 mo (by omega)]; exact nI_ge (show k < 4 ^ mo by omega) (by omega)))) (fun _ => ?_)
      refine rn_go 80 (by with_unfolding_all rfl) ?_
      refine rn_cl (by with_unfolding_all rfl) (ev_up (by decide) (hcb)) ?_
      refine rn_go 80 (by with_unfolding_all rfl) ?_
      refine rn_br (by with_unfolding_all rfl) (fun _ => ?_) (fun c_ => absurd (c) c_)
      refine rn_to 31 80 (by with_unfolding_all rfl) ?_
      with_unfolding_all exact ih
    · have e1 : mst n mo dy x (k + 1) = vo n mo dy x k := by simp only [mst]; rw [if_neg c]
      have e2 : bst n mo dy x (k + 1) = nI k := by simp only [bst]; rw [if_neg c]
      obtain ⟨r2, b2, hl2, ih⟩ := xm_agL hm0 he0 hX hdy hK3 q (k + 1) (by omega) r1 (fl b (fun q => dg (nI k) (nI q) (nI mo)) mo) (some (.int (vo n mo dy x k))) (some (.int (nI mo))) hl1 (Or.inr (fun j hj => by rw [e2]; unfold fl; rw [if_pos hj]))
      rw [e1, ← nI_1] at ih
      have hbo := xm_boL (g := g) (T := T) (A := A) (gm := gm) (Am := Am) (k := k) hr1 m4 K (vo n mo dy x k) (vo n mo dy x k) b mo 0 (by omega)
      rw [fl_0] at hbo
      refine ⟨r2, b2, hl2, ?_⟩
      refine rn_go 80 (by with_unfolding_all rfl) ?_
      refine rn_ld (0) (by with_unfolding_all rfl) rfl (by omega) (by decide) ?_
      rw [tu_s, hr0]
      refine rn_go 80 (by with_unfolding_all rfl) ?_
      refine rn_br (by with_unfolding_all rfl) (fun c_ => absurd c_ ((by rw [shn2 mo (by omega)]; exact nI_ge (show k < 4 ^ mo by omega) (by omega)))) (fun _ => ?_)
      refine rn_go 80 (by with_unfolding_all rfl) ?_
      refine rn_cl (by with_unfolding_all rfl) (ev_up (by decide) (hcb)) ?_
      refine rn_go 80 (by with_unfolding_all rfl) ?_
      refine rn_br (by with_unfolding_all rfl) (fun c_ => absurd c_ (c)) (fun _ => ?_)
      refine rn_to 64 80 (by with_unfolding_all rfl) ?_
      refine hbo _ _ ?_
      refine rn_to 31 80 (by with_unfolding_all rfl) ?_
      with_unfolding_all exact ih
set_option maxRecDepth 10000 in
theorem xm_agenda {x : Nat → Int32} (hX : gm 0 = 0 ∨ okX x n mo dy) (he : Eqv n mo x (tv (Am 0) 0)) (hdy : dy ≤ 999) (K : Int32) : ∃ r' b', Lo (Am 0) r' ∧ am_ev 12 196 [.ref 43, .int K] (wd g T A gm Am) (some (.int (sAgenda (gm 0) x n mo dy K))) (wd g T A gm (tu (tu Am 9 b') 0 r')) := by
  unfold sAgenda
  by_cases q1 : gm 0 = 0
  · rw [if_pos q1]
    refine ⟨Am 0, Am 9, fun _ _ => rfl, ?_⟩
    rw [tu_id, tu_id]
    refine rn_ev am_m_X9_agenda rfl rfl ?_
    refine rn_go 80 (by with_unfolding_all rfl) ?_
    refine rn_br (by with_unfolding_all rfl) (fun _ => ?_) (fun c_ => absurd (q1) c_)
    refine rn_go 80 (by with_unfolding_all rfl) ?_
    exact rn_rt (by with_unfolding_all rfl) trivial rfl rfl
  have hX := hX.resolve_left q1
  rw [if_neg q1]
  by_cases hq : (K < -1 ∨ ¬ K ≤ 3)
  · rw [if_pos hq]
    refine ⟨Am 0, Am 9, fun _ _ => rfl, ?_⟩
    rw [tu_id, tu_id]
    refine rn_ev am_m_X9_agenda rfl rfl ?_
    refine rn_go 80 (by with_unfolding_all rfl) ?_
    refine rn_br (by with_unfolding_all rfl) (fun c_ => absurd c_ (q1)) (fun _ => ?_)
    refine rn_go 80 (by with_unfolding_all rfl) ?_
    refine rn_cl (by with_unfolding_all rfl) (ev_up (by decide) (xm_in _ _ _)) ?_
    rw [inn_b (a := -1) (b := 3) (P := -1) (Q := 3) (by decide) (by decide)]
    refine rn_go 80 (by with_unfolding_all rfl) ?_
    refine rn_br (by with_unfolding_all rfl) (fun c1 => ?_) (fun c1 => ?_)
    · refine rn_go 80 (by with_unfolding_all rfl) ?_
      exact rn_rt (by with_unfolding_all rfl) trivial rfl rfl
    exfalso
    have c1 := btw_f c1
    rcases hq with q | q
    · exact c1.1 q
    · exact q c1.2
  · rw [if_neg hq]
    have q2 : ¬ K < -1 := fun q => hq (Or.inl q)
    have q3 : K ≤ 3 := Classical.not_not.mp (fun q => hq (Or.inr q))
    have hm0 : Am 0 0 = nI mo := by
      have := he.1 0 (by decide)
      unfold tv at this
      rw [← hX.2.2.2.1, this]
    obtain ⟨r2, b2, hl2, hrun⟩ := xm_agL (g := g) (T := T) (A := A) (gm := gm) (Am := Am) (r0 := Am 0) hm0 he hX hdy q3 (4 ^ mo) 0 (by omega) (Am 0) (Am 9) none none (fun _ _ => rfl) (Or.inl rfl)
    rw [tu_id, tu_id] at hrun
    have e : (if nI mo ≤ K then (-1000000 : Int32) else if 0 ≤ K then dg (bst n mo dy x (4 ^ mo)) K (nI mo) else mst n mo dy x (4 ^ mo)) = (if 0 ≤ K then (if nI mo ≤ K then -1000000 else dg (bst n mo dy x (4 ^ mo)) K (nI mo)) else mst n mo dy x (4 ^ mo)) := by
      by_cases c : 0 ≤ K
      · rw [if_pos c, if_pos c]
      · rw [if_neg c, if_neg c, if_neg (fun q => c (Int32.le_trans (nI_pos' (by have := hX.2.2.2.2.2.1; omega)) q))]
    rw [e]
    refine ⟨r2, b2, hl2, ?_⟩
    refine rn_ev am_m_X9_agenda rfl rfl ?_
    refine rn_go 80 (by with_unfolding_all rfl) ?_
    refine rn_br (by with_unfolding_all rfl) (fun c_ => absurd c_ (q1)) (fun _ => ?_)
    refine rn_go 80 (by with_unfolding_all rfl) ?_
    refine rn_cl (by with_unfolding_all rfl) (ev_up (by decide) (xm_in _ _ _)) ?_
    rw [inn_b (a := -1) (b := 3) (P := -1) (Q := 3) (by decide) (by decide)]
    refine rn_go 80 (by with_unfolding_all rfl) ?_
    refine rn_br (by with_unfolding_all rfl) (fun c_ => absurd c_ (btw_t q2 q3)) (fun _ => ?_)
    refine rn_to 31 80 (by with_unfolding_all rfl) ?_
    with_unfolding_all exact hrun
end

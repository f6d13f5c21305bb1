/-! a day of the hill goes by -/
def dr (t : Nat → Int32) : Int32 := t 3 - t 3 / 2 * 2
def mn20 (x : Int32) : Int32 := if x < 20 then x else 20
def cw (t : Nat → Int32) (s a : Int32) (n dy mo : Nat) : Int32 := if ts t s a n < tn t dy mo then 0 else 1
def pb (t : Nat → Int32) (s : Int32) (i : Nat) : Int32 := if tb s i = 0 then (if t (9 + i) = 3 then (if dr t = 1 then mn20 (t (13 + i) + t (17 + i)) else t (13 + i)) else mn20 (t (13 + i) + t (17 + i))) else t (13 + i) - tc t i
def pq (t : Nat → Int32) (s : Int32) : Nat → Nat → Int32
  | 0 => t
  | i + 1 => upd (pq t s i) (13 + i) (pb t s i)
def pd (t : Nat → Int32) (s : Int32) (n : Nat) (c : Int32) : Nat → Int32 := upd (upd (pq t s n) 4 (t 4 + c)) 3 (t 3 + 1)
set_option maxRecDepth 10000 in
theorem pq_lo {t : Nat → Int32} {s : Int32} : ∀ (i k : Nat), (k < 13 ∨ 13 + i ≤ k) → pq t s i k = t k
  | 0, k, _ => rfl
  | i + 1, k, h => by
    show upd (pq t s i) (13 + i) (pb t s i) k = t k
    rw [up_ne (by omega), pq_lo i k (by omega)]
set_option maxRecDepth 10000 in
theorem pq_tc {t : Nat → Int32} {s : Int32} (i p : Nat) (hp : p < 4) : tc (pq t s i) p = tc t p := by
  unfold tc
  rw [pq_lo i (9 + p) (by omega), pq_lo i 2 (by omega)]
set_option maxRecDepth 10000 in
theorem pq_dr {t : Nat → Int32} {s : Int32} (i : Nat) : dr (pq t s i) = dr t := by
  unfold dr
  rw [pq_lo i 3 (by omega)]
section
variable {g gm : Nat → Int32} {T A Am : Nat → Nat → Int32} {h : am_H}
set_option maxRecDepth 10000 in
theorem xh_need0 {mo dy : Nat} (hm : T 0 0 = nI mo) (h1 : 1 ≤ mo) (h4 : mo ≤ 4) (hd : T 0 3 = nI dy) (hdy : dy < 2000) : am_ev 1 48 [.ref 5] (wd g T A gm Am) (some (.int (tn (T 0) dy mo))) (wd g T A gm Am) := by
  have hlt : dy % mo < 4 := Nat.lt_of_lt_of_le (Nat.mod_lt _ h1) h4
  refine rn_ev am_m_X3_needToday rfl rfl ?_
  refine rn_go 80 (by with_unfolding_all rfl) ?_
  refine rn_br (by with_unfolding_all rfl) (fun c => ?_) (fun c => ?_)
  · exact absurd (by rw [hm] at c; exact c) (nI_nle h1 (by omega))
  · refine rn_go 80 (by with_unfolding_all rfl) ?_
    refine rn_ck (by with_unfolding_all rfl) (by rw [hm]; exact nI_ne0 h1 (by omega)) ?_
    refine rn_ld (dy % mo) (by with_unfolding_all rfl) (by rw [hd, hm]; exact pk_rem (by omega) h1 (by omega)) hlt (by decide) ?_
    rw [wa_at hlt]
    refine rn_go 80 (by with_unfolding_all rfl) ?_
    exact rn_rt (by with_unfolding_all rfl) trivial rfl rfl
set_option maxRecDepth 10000 in
theorem xh_carried0 {n mo dy : Nat} (hn : T 0 1 = nI n) (hn4 : n ≤ 4) (hm : T 0 0 = nI mo) (h1 : 1 ≤ mo) (h4 : mo ≤ 4) (hd : T 0 3 = nI dy) (hdy : dy < 2000) (s b : Int32) : am_ev 4 49 [.ref 5, .int s, .int b] (wd g T A gm Am) (some (.int (cw (T 0) s b n dy mo))) (wd g T A gm Am) := by
  refine rn_ev am_m_X3_isCarriedBy rfl rfl ?_
  refine rn_go 80 (by with_unfolding_all rfl) ?_
  refine rn_cl (by with_unfolding_all rfl) (ev_up (by decide) (xh_weighsSet0 hn hn4 s b)) ?_
  refine rn_go 80 (by with_unfolding_all rfl) ?_
  refine rn_cl (by with_unfolding_all rfl) (ev_up (by decide) (xh_need0 hm h1 h4 hd hdy)) ?_
  refine rn_go 80 (by with_unfolding_all rfl) ?_
  unfold cw
  refine rn_br (by with_unfolding_all rfl) (fun c => ?_) (fun c => ?_)
  · rw [if_pos c]
    refine rn_go 80 (by with_unfolding_all rfl) ?_
    exact rn_rt (by with_unfolding_all rfl) (Or.inl rfl) (rfl) (rfl)
  · rw [if_neg c]
    refine rn_go 80 (by with_unfolding_all rfl) ?_
    exact rn_rt (by with_unfolding_all rfl) (Or.inr rfl) (rfl) (rfl)
set_option maxRecDepth 10000 in
theorem xh_carriedAll0 {n mo dy : Nat} (hn : T 0 1 = nI n) (hn4 : n ≤ 4) (hm : T 0 0 = nI mo) (h1 : 1 ≤ mo) (h4 : mo ≤ 4) (hd : T 0 3 = nI dy) (hdy : dy < 2000) : am_ev 5 50 [.ref 5] (wd g T A gm Am) (some (.int (cw (T 0) (ta (T 0) n) (ta (T 0) n) n dy mo))) (wd g T A gm Am) := by
  refine rn_ev am_m_X3_isCarriedByAll rfl rfl ?_
  refine rn_go 80 (by with_unfolding_all rfl) ?_
  refine rn_cl (by with_unfolding_all rfl) (ev_up (by decide) (xh_ableSet0 hn hn4)) ?_
  refine rn_go 80 (by with_unfolding_all rfl) ?_
  refine rn_cl (by with_unfolding_all rfl) (ev_up (by decide) (xh_carried0 hn hn4 hm h1 h4 hd hdy _ _)) ?_
  refine rn_go 80 (by with_unfolding_all rfl) ?_
  refine rn_rt (by with_unfolding_all rfl) ?_ rfl rfl
  unfold cw
  split
  · exact Or.inl rfl
  · exact Or.inr rfl
set_option maxRecDepth 10000 in
theorem xh_passL0 {n : Nat} (hn : T 0 1 = nI n) (hn4 : n ≤ 4) (s b c9 : Int32) : ∀ k i, i + k = n → rn none 4 am_t_X3_passDay (18, [some (.ref 5), some (.int s), some (.int b), some (.int c9), some (.int (nI i))], [], wd g (tu T 0 (pq (T 0) s i)) A gm Am) (some (.int c9)) (wd g (tu T 0 (pd (T 0) s n c9)) A gm Am)
  | 0, i, hi => by
    have hin : i = n := by omega
    subst hin
    have e1 : tu T 0 (pq (T 0) s i) 0 = pq (T 0) s i := tu_s
    refine rn_go 80 (by with_unfolding_all rfl) ?_
    refine rn_br (by with_unfolding_all rfl) (fun c => ?_) (fun c => ?_)
    · refine rn_to 119 80 (by with_unfolding_all rfl) ?_
      refine rn_hp (by with_unfolding_all exact (wf_0_4)) ?_
      refine rn_to 129 80 (by with_unfolding_all rfl) ?_
      refine rn_hp (by with_unfolding_all exact (wf_0_3)) ?_
      refine rn_go 80 (by with_unfolding_all rfl) ?_
      refine rn_rt (by with_unfolding_all rfl) trivial rfl ?_
      unfold pd
      rw [tu_tu, tu_tu, tu_s, tu_s, up_ne (by decide), pq_lo i 3 (by omega), pq_lo i 4 (by omega)]
    · exact absurd (by rw [e1, pq_lo i 1 (by omega), hn]; exact Int32.le_refl _) c
  | k + 1, i, hi => by
    have ih := xh_passL0 hn hn4 s b c9 k (i + 1) (by omega)
    have hi4 : i < 4 := by omega
    have e1 : tu T 0 (pq (T 0) s i) 0 = pq (T 0) s i := tu_s
    have r1 : pq (T 0) s i (13 + i) = T 0 (13 + i) := pq_lo i _ (by omega)
    have r2 : pq (T 0) s i (9 + i) = T 0 (9 + i) := pq_lo i _ (by omega)
    have r3 : pq (T 0) s i (17 + i) = T 0 (17 + i) := pq_lo i _ (by omega)
    have r4 : pq (T 0) s i 3 = T 0 3 := pq_lo i _ (by omega)
    rw [← nI_1] at ih
    refine rn_go 80 (by with_unfolding_all rfl) ?_
    refine rn_br (by with_unfolding_all rfl) (fun c => ?_) (fun c => ?_)
    · exact absurd (by rw [e1, pq_lo i 1 (by omega), hn] at c; exact c) (nI_ge (show i < n by omega) (by omega))
    · refine rn_go 80 (by with_unfolding_all rfl) ?_
      refine rn_br (by with_unfolding_all rfl) (fun c2 => ?_) (fun c2 => ?_)
      · have c2 : tb s i = 0 := c2
        refine rn_go 80 (by with_unfolding_all rfl) ?_
        refine rn_ld (i) (by with_unfolding_all rfl) rfl hi4 (by decide) ?_
        rw [wa_at hi4, e1, r2]
        refine rn_go 80 (by with_unfolding_all rfl) ?_
        refine rn_br (by with_unfolding_all rfl) (fun c3 => ?_) (fun c3 => ?_)
        · refine rn_go 80 (by with_unfolding_all rfl) ?_
          refine rn_ck (by with_unfolding_all rfl) (by decide) ?_
          refine rn_go 80 (by with_unfolding_all rfl) ?_
          refine rn_br (by with_unfolding_all rfl) (fun c4 => ?_) (fun c4 => ?_)
          · refine rn_go 80 (by with_unfolding_all rfl) ?_
            refine rn_ld (i) (by with_unfolding_all rfl) rfl hi4 (by decide) ?_
            rw [wa_at hi4, e1, r1]
            refine rn_go 80 (by with_unfolding_all rfl) ?_
            refine rn_ld (i) (by with_unfolding_all rfl) rfl hi4 (by decide) ?_
            rw [wa_at hi4, e1, r3]
            refine rn_go 80 (by with_unfolding_all rfl) ?_
            refine rn_st (i) (by with_unfolding_all rfl) rfl hi4 (by decide) ?_
            refine rn_hp (by with_unfolding_all exact (ww_0_13 hi4)) ?_
            refine rn_to 18 80 (by with_unfolding_all rfl) ?_
            rw [tu_tu, e1]
            have e2 : pb (T 0) s i = mn20 (T 0 (13 + i) + T 0 (17 + i)) := by
              unfold pb dr
              rw [if_pos c2, if_pos c3]
              rw [e1, r4] at c4
              rw [if_pos c4]
            rw [show pq (T 0) s (i + 1) = upd (pq (T 0) s i) (13 + i) (pb (T 0) s i) from rfl, e2] at ih
            with_unfolding_all exact ih
          · refine rn_to 18 80 (by with_unfolding_all rfl) ?_
            have e2 : pq (T 0) s (i + 1) = pq (T 0) s i := by
              show upd (pq (T 0) s i) (13 + i) (pb (T 0) s i) = _
              have e3 : pb (T 0) s i = pq (T 0) s i (13 + i) := by
                unfold pb dr
                rw [if_pos c2, if_pos c3]
                rw [e1, r4] at c4
                rw [if_neg c4, r1]
              rw [e3, up_id]
            rw [e2] at ih
            with_unfolding_all exact ih
        · refine rn_go 80 (by with_unfolding_all rfl) ?_
          refine rn_ld (i) (by with_unfolding_all rfl) rfl hi4 (by decide) ?_
          rw [wa_at hi4, e1, r1]
          refine rn_go 80 (by with_unfolding_all rfl) ?_
          refine rn_ld (i) (by with_unfolding_all rfl) rfl hi4 (by decide) ?_
          rw [wa_at hi4, e1, r3]
          refine rn_go 80 (by with_unfolding_all rfl) ?_
          refine rn_st (i) (by with_unfolding_all rfl) rfl hi4 (by decide) ?_
          refine rn_hp (by with_unfolding_all exact (ww_0_13 hi4)) ?_
          refine rn_to 18 80 (by with_unfolding_all rfl) ?_
          rw [tu_tu, e1]
          have e2 : pb (T 0) s i = mn20 (T 0 (13 + i) + T 0 (17 + i)) := by
            unfold pb
            rw [if_pos c2, if_neg c3]
          rw [show pq (T 0) s (i + 1) = upd (pq (T 0) s i) (13 + i) (pb (T 0) s i) from rfl, e2] at ih
          with_unfolding_all exact ih
      · have c2 : ¬ tb s i = 0 := c2
        refine rn_go 80 (by with_unfolding_all rfl) ?_
        refine rn_ld (i) (by with_unfolding_all rfl) rfl hi4 (by decide) ?_
        rw [wa_at hi4, e1, r1]
        refine rn_go 80 (by with_unfolding_all rfl) ?_
        refine rn_cl (by with_unfolding_all rfl) (ev_up (by decide) (xh_costOf0 i hi4)) ?_
        rw [e1, pq_tc i i hi4]
        refine rn_go 80 (by with_unfolding_all rfl) ?_
        refine rn_st (i) (by with_unfolding_all rfl) rfl hi4 (by decide) ?_
        refine rn_hp (by with_unfolding_all exact (ww_0_13 hi4)) ?_
        refine rn_to 18 80 (by with_unfolding_all rfl) ?_
        rw [tu_tu, e1]
        have e2 : pb (T 0) s i = T 0 (13 + i) - tc (T 0) i := by
          unfold pb
          rw [if_neg c2]
        rw [show pq (T 0) s (i + 1) = upd (pq (T 0) s i) (13 + i) (pb (T 0) s i) from rfl, e2] at ih
        with_unfolding_all exact ih
set_option maxRecDepth 10000 in
theorem xh_passDay0 {n mo dy : Nat} (hn : T 0 1 = nI n) (hn4 : n ≤ 4) (hm : T 0 0 = nI mo) (h1 : 1 ≤ mo) (h4 : mo ≤ 4) (hd : T 0 3 = nI dy) (hdy : dy < 2000) (s b : Int32) : am_ev 5 51 [.ref 5, .int s, .int b] (wd g T A gm Am) (some (.int (cw (T 0) s b n dy mo))) (wd g (tu T 0 (pd (T 0) s n (cw (T 0) s b n dy mo))) A gm Am) := by
  have key := fun c9 => xh_passL0 (g := g) (A := A) (gm := gm) (Am := Am) hn hn4 s b c9 n 0 (by omega)
  rw [show pq (T 0) s 0 = T 0 from rfl, tu_id] at key
  refine rn_ev am_m_X3_passDay rfl rfl ?_
  refine rn_go 80 (by with_unfolding_all rfl) ?_
  refine rn_cl (by with_unfolding_all rfl) (ev_up (by decide) (xh_carried0 hn hn4 hm h1 h4 hd hdy s b)) ?_
  refine rn_go 80 (by with_unfolding_all rfl) ?_
  refine rn_br (by with_unfolding_all rfl) (fun c => ?_) (fun c => ?_)
  · refine rn_to 18 80 (by with_unfolding_all rfl) ?_
    have e : cw (T 0) s b n dy mo = 0 := c
    rw [e]
    with_unfolding_all exact key 0
  · refine rn_to 18 80 (by with_unfolding_all rfl) ?_
    have e : cw (T 0) s b n dy mo = 1 := by
      unfold cw at c ⊢
      split at c
      · exact absurd rfl c
      · rename_i h9; rw [if_neg h9]
    rw [e]
    with_unfolding_all exact key 1
set_option maxRecDepth 10000 in
theorem xh_need1 {mo dy : Nat} (hm : T 1 0 = nI mo) (h1 : 1 ≤ mo) (h4 : mo ≤ 4) (hd : T 1 3 = nI dy) (hdy : dy < 2000) : am_ev 1 48 [.ref 10] (wd g T A gm Am) (some (.int (tn (T 1) dy mo))) (wd g T A gm Am) := by
  have hlt : dy % mo < 4 := Nat.lt_of_lt_of_le (Nat.mod_lt _ h1) h4
  refine rn_ev am_m_X3_needToday rfl rfl ?_
  refine rn_go 80 (by with_unfolding_all rfl) ?_
  refine rn_br (by with_unfolding_all rfl) (fun c => ?_) (fun c => ?_)
  · exact absurd (by rw [hm] at c; exact c) (nI_nle h1 (by omega))
  · refine rn_go 80 (by with_unfolding_all rfl) ?_
    refine rn_ck (by with_unfolding_all rfl) (by rw [hm]; exact nI_ne0 h1 (by omega)) ?_
    refine rn_ld (dy % mo) (by with_unfolding_all rfl) (by rw [hd, hm]; exact pk_rem (by omega) h1 (by omega)) hlt (by decide) ?_
    rw [wa_at hlt]
    refine rn_go 80 (by with_unfolding_all rfl) ?_
    exact rn_rt (by with_unfolding_all rfl) trivial rfl rfl
set_option maxRecDepth 10000 in
theorem xh_carried1 {n mo dy : Nat} (hn : T 1 1 = nI n) (hn4 : n ≤ 4) (hm : T 1 0 = nI mo) (h1 : 1 ≤ mo) (h4 : mo ≤ 4) (hd : T 1 3 = nI dy) (hdy : dy < 2000) (s b : Int32) : am_ev 4 49 [.ref 10, .int s, .int b] (wd g T A gm Am) (some (.int (cw (T 1) s b n dy mo))) (wd g T A gm Am) := by
  refine rn_ev am_m_X3_isCarriedBy rfl rfl ?_
  refine rn_go 80 (by with_unfolding_all rfl) ?_
  refine rn_cl (by with_unfolding_all rfl) (ev_up (by decide) (xh_weighsSet1 hn hn4 s b)) ?_
  refine rn_go 80 (by with_unfolding_all rfl) ?_
  refine rn_cl (by with_unfolding_all rfl) (ev_up (by decide) (xh_need1 hm h1 h4 hd hdy)) ?_
  refine rn_go 80 (by with_unfolding_all rfl) ?_
  unfold cw
  refine rn_br (by with_unfolding_all rfl) (fun c => ?_) (fun c => ?_)
  · rw [if_pos c]
    refine rn_go 80 (by with_unfolding_all rfl) ?_
    exact rn_rt (by with_unfolding_all rfl) (Or.inl rfl) (rfl) (rfl)
  · rw [if_neg c]
    refine rn_go 80 (by with_unfolding_all rfl) ?_
    exact rn_rt (by with_unfolding_all rfl) (Or.inr rfl) (rfl) (rfl)
set_option maxRecDepth 10000 in
theorem xh_carriedAll1 {n mo dy : Nat} (hn : T 1 1 = nI n) (hn4 : n ≤ 4) (hm : T 1 0 = nI mo) (h1 : 1 ≤ mo) (h4 : mo ≤ 4) (hd : T 1 3 = nI dy) (hdy : dy < 2000) : am_ev 5 50 [.ref 10] (wd g T A gm Am) (some (.int (cw (T 1) (ta (T 1) n) (ta (T 1) n) n dy mo))) (wd g T A gm Am) := by
  refine rn_ev am_m_X3_isCarriedByAll rfl rfl ?_
  refine rn_go 80 (by with_unfolding_all rfl) ?_
  refine rn_cl (by with_unfolding_all rfl) (ev_up (by decide) (xh_ableSet1 hn hn4)) ?_
  refine rn_go 80 (by with_unfolding_all rfl) ?_
  refine rn_cl (by with_unfolding_all rfl) (ev_up (by decide) (xh_carried1 hn hn4 hm h1 h4 hd hdy _ _)) ?_
  refine rn_go 80 (by with_unfolding_all rfl) ?_
  refine rn_rt (by with_unfolding_all rfl) ?_ rfl rfl
  unfold cw
  split
  · exact Or.inl rfl
  · exact Or.inr rfl
set_option maxRecDepth 10000 in
theorem xh_passL1 {n : Nat} (hn : T 1 1 = nI n) (hn4 : n ≤ 4) (s b c9 : Int32) : ∀ k i, i + k = n → rn none 4 am_t_X3_passDay (18, [some (.ref 10), some (.int s), some (.int b), some (.int c9), some (.int (nI i))], [], wd g (tu T 1 (pq (T 1) s i)) A gm Am) (some (.int c9)) (wd g (tu T 1 (pd (T 1) s n c9)) A gm Am)
  | 0, i, hi => by
    have hin : i = n := by omega
    subst hin
    have e1 : tu T 1 (pq (T 1) s i) 1 = pq (T 1) s i := tu_s
    refine rn_go 80 (by with_unfolding_all rfl) ?_
    refine rn_br (by with_unfolding_all rfl) (fun c => ?_) (fun c => ?_)
    · refine rn_to 119 80 (by with_unfolding_all rfl) ?_
      refine rn_hp (by with_unfolding_all exact (wf_1_4)) ?_
      refine rn_to 129 80 (by with_unfolding_all rfl) ?_
      refine rn_hp (by with_unfolding_all exact (wf_1_3)) ?_
      refine rn_go 80 (by with_unfolding_all rfl) ?_
      refine rn_rt (by with_unfolding_all rfl) trivial rfl ?_
      unfold pd
      rw [tu_tu, tu_tu, tu_s, tu_s, up_ne (by decide), pq_lo i 3 (by omega), pq_lo i 4 (by omega)]
    · exact absurd (by rw [e1, pq_lo i 1 (by omega), hn]; exact Int32.le_refl _) c
  | k + 1, i, hi => by
    have ih := xh_passL1 hn hn4 s b c9 k (i + 1) (by omega)
    have hi4 : i < 4 := by omega
    have e1 : tu T 1 (pq (T 1) s i) 1 = pq (T 1) s i := tu_s
    have r1 : pq (T 1) s i (13 + i) = T 1 (13 + i) := pq_lo i _ (by omega)
    have r2 : pq (T 1) s i (9 + i) = T 1 (9 + i) := pq_lo i _ (by omega)
    have r3 : pq (T 1) s i (17 + i) = T 1 (17 + i) := pq_lo i _ (by omega)
    have r4 : pq (T 1) s i 3 = T 1 3 := pq_lo i _ (by omega)
    rw [← nI_1] at ih
    refine rn_go 80 (by with_unfolding_all rfl) ?_
    refine rn_br (by with_unfolding_all rfl) (fun c => ?_) (fun c => ?_)
    · exact absurd (by rw [e1, pq_lo i 1 (by omega), hn] at c; exact c) (nI_ge (show i < n by omega) (by omega))
    · refine rn_go 80 (by with_unfolding_all rfl) ?_
      refine rn_br (by with_unfolding_all rfl) (fun c2 => ?_) (fun c2 => ?_)
      · have c2 : tb s i = 0 := c2
        refine rn_go 80 (by with_unfolding_all rfl) ?_
        refine rn_ld (i) (by with_unfolding_all rfl) rfl hi4 (by decide) ?_
        rw [wa_at hi4, e1, r2]
        refine rn_go 80 (by with_unfolding_all rfl) ?_
        refine rn_br (by with_unfolding_all rfl) (fun c3 => ?_) (fun c3 => ?_)
        · refine rn_go 80 (by with_unfolding_all rfl) ?_
          refine rn_ck (by with_unfolding_all rfl) (by decide) ?_
          refine rn_go 80 (by with_unfolding_all rfl) ?_
          refine rn_br (by with_unfolding_all rfl) (fun c4 => ?_) (fun c4 => ?_)
          · refine rn_go 80 (by with_unfolding_all rfl) ?_
            refine rn_ld (i) (by with_unfolding_all rfl) rfl hi4 (by decide) ?_
            rw [wa_at hi4, e1, r1]
            refine rn_go 80 (by with_unfolding_all rfl) ?_
            refine rn_ld (i) (by with_unfolding_all rfl) rfl hi4 (by decide) ?_
            rw [wa_at hi4, e1, r3]
            refine rn_go 80 (by with_unfolding_all rfl) ?_
            refine rn_st (i) (by with_unfolding_all rfl) rfl hi4 (by decide) ?_
            refine rn_hp (by with_unfolding_all exact (ww_1_13 hi4)) ?_
            refine rn_to 18 80 (by with_unfolding_all rfl) ?_
            rw [tu_tu, e1]
            have e2 : pb (T 1) s i = mn20 (T 1 (13 + i) + T 1 (17 + i)) := by
              unfold pb dr
              rw [if_pos c2, if_pos c3]
              rw [e1, r4] at c4
              rw [if_pos c4]
            rw [show pq (T 1) s (i + 1) = upd (pq (T 1) s i) (13 + i) (pb (T 1) s i) from rfl, e2] at ih
            with_unfolding_all exact ih
          · refine rn_to 18 80 (by with_unfolding_all rfl) ?_
            have e2 : pq (T 1) s (i + 1) = pq (T 1) s i := by
              show upd (pq (T 1) s i) (13 + i) (pb (T 1) s i) = _
              have e3 : pb (T 1) s i = pq (T 1) s i (13 + i) := by
                unfold pb dr
                rw [if_pos c2, if_pos c3]
                rw [e1, r4] at c4
                rw [if_neg c4, r1]
              rw [e3, up_id]
            rw [e2] at ih
            with_unfolding_all exact ih
        · refine rn_go 80 (by with_unfolding_all rfl) ?_
          refine rn_ld (i) (by with_unfolding_all rfl) rfl hi4 (by decide) ?_
          rw [wa_at hi4, e1, r1]
          refine rn_go 80 (by with_unfolding_all rfl) ?_
          refine rn_ld (i) (by with_unfolding_all rfl) rfl hi4 (by decide) ?_
          rw [wa_at hi4, e1, r3]
          refine rn_go 80 (by with_unfolding_all rfl) ?_
          refine rn_st (i) (by with_unfolding_all rfl) rfl hi4 (by decide) ?_
          refine rn_hp (by with_unfolding_all exact (ww_1_13 hi4)) ?_
          refine rn_to 18 80 (by with_unfolding_all rfl) ?_
          rw [tu_tu, e1]
          have e2 : pb (T 1) s i = mn20 (T 1 (13 + i) + T 1 (17 + i)) := by
            unfold pb
            rw [if_pos c2, if_neg c3]
          rw [show pq (T 1) s (i + 1) = upd (pq (T 1) s i) (13 + i) (pb (T 1) s i) from rfl, e2] at ih
          with_unfolding_all exact ih
      · have c2 : ¬ tb s i = 0 := c2
        refine rn_go 80 (by with_unfolding_all rfl) ?_
        refine rn_ld (i) (by with_unfolding_all rfl) rfl hi4 (by decide) ?_
        rw [wa_at hi4, e1, r1]
        refine rn_go 80 (by with_unfolding_all rfl) ?_
        refine rn_cl (by with_unfolding_all rfl) (ev_up (by decide) (xh_costOf1 i hi4)) ?_
        rw [e1, pq_tc i i hi4]
        refine rn_go 80 (by with_unfolding_all rfl) ?_
        refine rn_st (i) (by with_unfolding_all rfl) rfl hi4 (by decide) ?_
        refine rn_hp (by with_unfolding_all exact (ww_1_13 hi4)) ?_
        refine rn_to 18 80 (by with_unfolding_all rfl) ?_
        rw [tu_tu, e1]
        have e2 : pb (T 1) s i = T 1 (13 + i) - tc (T 1) i := by
          unfold pb
          rw [if_neg c2]
        rw [show pq (T 1) s (i + 1) = upd (pq (T 1) s i) (13 + i) (pb (T 1) s i) from rfl, e2] at ih
        with_unfolding_all exact ih
set_option maxRecDepth 10000 in
theorem xh_passDay1 {n mo dy : Nat} (hn : T 1 1 = nI n) (hn4 : n ≤ 4) (hm : T 1 0 = nI mo) (h1 : 1 ≤ mo) (h4 : mo ≤ 4) (hd : T 1 3 = nI dy) (hdy : dy < 2000) (s b : Int32) : am_ev 5 51 [.ref 10, .int s, .int b] (wd g T A gm Am) (some (.int (cw (T 1) s b n dy mo))) (wd g (tu T 1 (pd (T 1) s n (cw (T 1) s b n dy mo))) A gm Am) := by
  have key := fun c9 => xh_passL1 (g := g) (A := A) (gm := gm) (Am := Am) hn hn4 s b c9 n 0 (by omega)
  rw [show pq (T 1) s 0 = T 1 from rfl, tu_id] at key
  refine rn_ev am_m_X3_passDay rfl rfl ?_
  refine rn_go 80 (by with_unfolding_all rfl) ?_
  refine rn_cl (by with_unfolding_all rfl) (ev_up (by decide) (xh_carried1 hn hn4 hm h1 h4 hd hdy s b)) ?_
  refine rn_go 80 (by with_unfolding_all rfl) ?_
  refine rn_br (by with_unfolding_all rfl) (fun c => ?_) (fun c => ?_)
  · refine rn_to 18 80 (by with_unfolding_all rfl) ?_
    have e : cw (T 1) s b n dy mo = 0 := c
    rw [e]
    with_unfolding_all exact key 0
  · refine rn_to 18 80 (by with_unfolding_all rfl) ?_
    have e : cw (T 1) s b n dy mo = 1 := by
      unfold cw at c ⊢
      split at c
      · exact absurd rfl c
      · rename_i h9; rw [if_neg h9]
    rw [e]
    with_unfolding_all exact key 1
end

/-! asks and the trace -/
def tr (f : Nat → Int32) : Nat → List Int32 → Nat → Int32
  | _, [] => f
  | c, x :: xs => tr (upd f c x) (c + 1) xs
set_option maxRecDepth 10000 in
theorem up_up {f : Nat → Int32} {k : Nat} {x y : Int32} : upd (upd f k x) k y = upd f k y := by
  funext j
  unfold upd
  by_cases h : j = k
  · rw [if_pos h, if_pos h]
  · rw [if_neg h, if_neg h, if_neg h]
section
variable {g gm : Nat → Int32} {T A Am : Nat → Nat → Int32} {h : am_H}
set_option maxRecDepth 10000 in
theorem x1_leave {c : Nat} (hc : g 9 = nI c) (h16 : c < 16) (x : Int32) : am_ev 1 9 [.ref 41, .int x] (wd g T A gm Am) none (wd (upd g 9 (nI (c + 1))) T (tu A 9 (tr (A 9) c [x])) gm Am) := by
  refine rn_ev am_m_X1_leave rfl rfl ?_
  refine rn_go 80 (by with_unfolding_all rfl) ?_
  refine rn_br (by with_unfolding_all rfl) (fun c1 => ?_) (fun c1 => ?_)
  · rw [hc] at c1
    exact absurd c1 (show ¬ nI 16 ≤ nI c from nI_ge h16 (by decide))
  refine rn_go 80 (by with_unfolding_all rfl) ?_
  refine rn_st (c) (by with_unfolding_all rfl) hc h16 (by decide) ?_
  refine rn_hp (by with_unfolding_all exact (wA_9)) ?_
  refine rn_to 29 80 (by with_unfolding_all rfl) ?_
  refine rn_hp (by with_unfolding_all exact (wG_9)) ?_
  refine rn_go 80 (by with_unfolding_all rfl) ?_
  exact rn_rt (by with_unfolding_all rfl) (trivial) (rfl) (by rw [hc, nI_1]; rfl)
set_option maxRecDepth 10000 in
theorem xm_begin {c : Nat} (hc : gm 5 = nI c) (h16 : c < 16) (x : Int32) : am_ev 1 214 [.ref 43, .int x] (wd g T A gm Am) none (wd g T A (upd gm 5 (nI (c + 1))) (tu Am 6 (tr (Am 6) c [x]))) := by
  refine rn_ev am_m_X9_begin rfl rfl ?_
  refine rn_go 80 (by with_unfolding_all rfl) ?_
  refine rn_br (by with_unfolding_all rfl) (fun c1 => ?_) (fun c1 => ?_)
  · rw [hc] at c1
    exact absurd c1 (show ¬ nI 16 ≤ nI c from nI_ge h16 (by decide))
  refine rn_go 80 (by with_unfolding_all rfl) ?_
  refine rn_st (c) (by with_unfolding_all rfl) hc h16 (by decide) ?_
  refine rn_hp (by with_unfolding_all exact (wM_6)) ?_
  refine rn_to 29 80 (by with_unfolding_all rfl) ?_
  refine rn_hp (by with_unfolding_all exact (wN_5)) ?_
  refine rn_go 80 (by with_unfolding_all rfl) ?_
  exact rn_rt (by with_unfolding_all rfl) (trivial) (rfl) (by rw [hc, nI_1]; rfl)
set_option maxRecDepth 10000 in
theorem x1_lentSize {p c : Nat} (hp : p < 4) (ha : g 10 = nI p) (hc : g 9 = nI c) (h8 : c + 1 ≤ 16) : am_ev 2 11 [.ref 41] (wd g T A gm Am) (some (.int (T 0 (17 + p)))) (wd (upd g 9 (nI (c + 1))) T (tu A 9 (tr (A 9) c [10])) gm Am) := by
  refine rn_ev am_m_X1_lentSize rfl rfl ?_
  refine rn_go 80 (by with_unfolding_all rfl) ?_
  refine rn_cl (by with_unfolding_all rfl) (ev_up (by decide) (x1_leave (c := c + 0) hc (by omega) 10)) ?_
  refine rn_go 80 (by with_unfolding_all rfl) ?_
  refine rn_ld (p) (by with_unfolding_all rfl) ha hp (by decide) ?_
  rw [wa_at hp]
  refine rn_go 80 (by with_unfolding_all rfl) ?_
  exact rn_rt (by with_unfolding_all rfl) (trivial) (rfl) (by with_unfolding_all rfl)
set_option maxRecDepth 10000 in
theorem x1_lentMark {p c : Nat} (hp : p < 4) (ha : g 10 = nI p) (hc : g 9 = nI c) (h8 : c + 1 ≤ 16) : am_ev 2 12 [.ref 41] (wd g T A gm Am) (some (.int (nI p))) (wd (upd g 9 (nI (c + 1))) T (tu A 9 (tr (A 9) c [20])) gm Am) := by
  refine rn_ev am_m_X1_lentMark rfl rfl ?_
  refine rn_go 80 (by with_unfolding_all rfl) ?_
  refine rn_cl (by with_unfolding_all rfl) (ev_up (by decide) (x1_leave (c := c + 0) hc (by omega) 20)) ?_
  refine rn_go 80 (by with_unfolding_all rfl) ?_
  exact rn_rt (by with_unfolding_all rfl) (trivial) (by rw [← ha]; rfl) (by with_unfolding_all rfl)
set_option maxRecDepth 10000 in
theorem x1_mAP {p c : Nat} (hp : p < 4) (ha : g 10 = nI p) (hc : g 9 = nI c) (h8 : c + 2 ≤ 16) : am_ev 3 16 [.ref 41] (wd g T A gm Am) (some (.int (nI p + T 0 (13 + p)))) (wd (upd g 9 (nI (c + 2))) T (tu A 9 (tr (A 9) c [21, 20])) gm Am) := by
  refine rn_ev am_m_X1_markOfAnyPlain rfl rfl ?_
  refine rn_go 80 (by with_unfolding_all rfl) ?_
  refine rn_cl (by with_unfolding_all rfl) (ev_up (by decide) (x1_leave (c := c + 0) hc (by omega) 21)) ?_
  refine rn_go 80 (by with_unfolding_all rfl) ?_
  refine rn_cl (by with_unfolding_all rfl) (ev_up (by decide) (x1_lentMark (c := c + 1) hp ha up_eq (by omega))) ?_
  rw [up_up, tu_tu, tu_s]
  refine rn_go 80 (by with_unfolding_all rfl) ?_
  refine rn_ld (p) (by with_unfolding_all rfl) ha hp (by decide) ?_
  rw [wa_at hp]
  refine rn_go 80 (by with_unfolding_all rfl) ?_
  exact rn_rt (by with_unfolding_all rfl) (trivial) (rfl) (by with_unfolding_all rfl)
set_option maxRecDepth 10000 in
theorem x1_plainMark1 {p c : Nat} (hp : p < 4) (ha : g 10 = nI p) (hc : g 9 = nI c) (h8 : c + 2 ≤ 16) (hk : T 0 (9 + p) = 1) : am_ev 4 15 [.ref 41] (wd g T A gm Am) (some (.int (nI p + T 0 (13 + p)))) (wd (upd g 9 (nI (c + 2))) T (tu A 9 (tr (A 9) c [21, 20])) gm Am) := by
  refine rn_ev am_m_X1_plainMark rfl rfl ?_
  refine rn_go 80 (by with_unfolding_all rfl) ?_
  refine rn_ld (p) (by with_unfolding_all rfl) ha hp (by decide) ?_
  rw [wa_at hp, hk]
  refine rn_one (by with_unfolding_all rfl) ?_
  simp only [am_pick, if_neg (show ¬ (1 : Int32) = 2 by decide), if_neg (show ¬ (1 : Int32) = 3 by decide)]
  refine rn_go 80 (by with_unfolding_all rfl) ?_
  refine rn_cl (by with_unfolding_all rfl) (ev_up (by decide) (x1_mAP (c := c + 0) hp ha hc (by omega))) ?_
  refine rn_go 80 (by with_unfolding_all rfl) ?_
  exact rn_rt (by with_unfolding_all rfl) (trivial) (rfl) (by with_unfolding_all rfl)
set_option maxRecDepth 10000 in
theorem x1_sAP1 {p c : Nat} (hp : p < 4) (ha : g 10 = nI p) (hc : g 9 = nI c) (h8 : c + 4 ≤ 16) (hk : T 0 (9 + p) = 1) : am_ev 5 14 [.ref 41] (wd g T A gm Am) (some (.int (T 0 (17 + p) + (nI p + T 0 (13 + p))))) (wd (upd g 9 (nI (c + 4))) T (tu A 9 (tr (A 9) c [11, 10, 21, 20])) gm Am) := by
  refine rn_ev am_m_X1_sizeOfAnyPlain rfl rfl ?_
  refine rn_go 80 (by with_unfolding_all rfl) ?_
  refine rn_cl (by with_unfolding_all rfl) (ev_up (by decide) (x1_leave (c := c + 0) hc (by omega) 11)) ?_
  refine rn_go 80 (by with_unfolding_all rfl) ?_
  refine rn_cl (by with_unfolding_all rfl) (ev_up (by decide) (x1_lentSize (c := c + 1) hp ha up_eq (by omega))) ?_
  rw [up_up, tu_tu, tu_s]
  refine rn_go 80 (by with_unfolding_all rfl) ?_
  refine rn_cl (by with_unfolding_all rfl) (ev_up (by decide) (x1_plainMark1 (c := c + 2) hp ha up_eq (by omega) hk)) ?_
  rw [up_up, tu_tu, tu_s]
  refine rn_go 80 (by with_unfolding_all rfl) ?_
  exact rn_rt (by with_unfolding_all rfl) (trivial) (rfl) (by with_unfolding_all rfl)
set_option maxRecDepth 10000 in
theorem x1_plainSize1 {p c : Nat} (hp : p < 4) (ha : g 10 = nI p) (hc : g 9 = nI c) (h8 : c + 4 ≤ 16) (hk : T 0 (9 + p) = 1) : am_ev 6 13 [.ref 41] (wd g T A gm Am) (some (.int (T 0 (17 + p) + (nI p + T 0 (13 + p))))) (wd (upd g 9 (nI (c + 4))) T (tu A 9 (tr (A 9) c [11, 10, 21, 20])) gm Am) := by
  refine rn_ev am_m_X1_plainSize rfl rfl ?_
  refine rn_go 80 (by with_unfolding_all rfl) ?_
  refine rn_ld (p) (by with_unfolding_all rfl) ha hp (by decide) ?_
  rw [wa_at hp, hk]
  refine rn_go 80 (by with_unfolding_all rfl) ?_
  refine rn_br (by with_unfolding_all rfl) (fun c1 => absurd c1 (by decide)) (fun c1 => ?_)
  refine rn_go 80 (by with_unfolding_all rfl) ?_
  refine rn_cl (by with_unfolding_all rfl) (ev_up (by decide) (x1_sAP1 (c := c + 0) hp ha hc (by omega) hk)) ?_
  refine rn_go 80 (by with_unfolding_all rfl) ?_
  exact rn_rt (by with_unfolding_all rfl) (trivial) (rfl) (by with_unfolding_all rfl)
set_option maxRecDepth 10000 in
theorem x1_plainMark2 {p c : Nat} (hp : p < 4) (ha : g 10 = nI p) (hc : g 9 = nI c) (h8 : c + 3 ≤ 16) (hk : T 0 (9 + p) = 2) : am_ev 4 15 [.ref 41] (wd g T A gm Am) (some (.int ((nI p + T 0 (13 + p)) * 2))) (wd (upd g 9 (nI (c + 3))) T (tu A 9 (tr (A 9) c [24, 21, 20])) gm Am) := by
  refine rn_ev am_m_X1_plainMark rfl rfl ?_
  refine rn_go 80 (by with_unfolding_all rfl) ?_
  refine rn_ld (p) (by with_unfolding_all rfl) ha hp (by decide) ?_
  rw [wa_at hp, hk]
  refine rn_one (by with_unfolding_all rfl) ?_
  simp only [am_pick, if_true]
  refine rn_go 80 (by with_unfolding_all rfl) ?_
  refine rn_cl (by with_unfolding_all rfl) (ev_up (by decide) (x1_leave (c := c + 0) hc (by omega) 24)) ?_
  refine rn_go 80 (by with_unfolding_all rfl) ?_
  refine rn_cl (by with_unfolding_all rfl) (ev_up (by decide) (x1_mAP (c := c + 1) hp ha up_eq (by omega))) ?_
  rw [up_up, tu_tu, tu_s]
  refine rn_go 80 (by with_unfolding_all rfl) ?_
  exact rn_rt (by with_unfolding_all rfl) (trivial) (rfl) (by with_unfolding_all rfl)
set_option maxRecDepth 10000 in
theorem x1_sAP2 {p c : Nat} (hp : p < 4) (ha : g 10 = nI p) (hc : g 9 = nI c) (h8 : c + 5 ≤ 16) (hk : T 0 (9 + p) = 2) : am_ev 5 14 [.ref 41] (wd g T A gm Am) (some (.int (T 0 (17 + p) + ((nI p + T 0 (13 + p)) * 2)))) (wd (upd g 9 (nI (c + 5))) T (tu A 9 (tr (A 9) c [11, 10, 24, 21, 20])) gm Am) := by
  refine rn_ev am_m_X1_sizeOfAnyPlain rfl rfl ?_
  refine rn_go 80 (by with_unfolding_all rfl) ?_
  refine rn_cl (by with_unfolding_all rfl) (ev_up (by decide) (x1_leave (c := c + 0) hc (by omega) 11)) ?_
  refine rn_go 80 (by with_unfolding_all rfl) ?_
  refine rn_cl (by with_unfolding_all rfl) (ev_up (by decide) (x1_lentSize (c := c + 1) hp ha up_eq (by omega))) ?_
  rw [up_up, tu_tu, tu_s]
  refine rn_go 80 (by with_unfolding_all rfl) ?_
  refine rn_cl (by with_unfolding_all rfl) (ev_up (by decide) (x1_plainMark2 (c := c + 2) hp ha up_eq (by omega) hk)) ?_
  rw [up_up, tu_tu, tu_s]
  refine rn_go 80 (by with_unfolding_all rfl) ?_
  exact rn_rt (by with_unfolding_all rfl) (trivial) (rfl) (by with_unfolding_all rfl)
set_option maxRecDepth 10000 in
theorem x1_plainSize2 {p c : Nat} (hp : p < 4) (ha : g 10 = nI p) (hc : g 9 = nI c) (h8 : c + 6 ≤ 16) (hk : T 0 (9 + p) = 2) : am_ev 6 13 [.ref 41] (wd g T A gm Am) (some (.int (0 - (T 0 (17 + p) + ((nI p + T 0 (13 + p)) * 2))))) (wd (upd g 9 (nI (c + 6))) T (tu A 9 (tr (A 9) c [12, 11, 10, 24, 21, 20])) gm Am) := by
  refine rn_ev am_m_X1_plainSize rfl rfl ?_
  refine rn_go 80 (by with_unfolding_all rfl) ?_
  refine rn_ld (p) (by with_unfolding_all rfl) ha hp (by decide) ?_
  rw [wa_at hp, hk]
  refine rn_go 80 (by with_unfolding_all rfl) ?_
  refine rn_br (by with_unfolding_all rfl) (fun c1 => ?_) (fun c1 => absurd rfl c1)
  refine rn_go 80 (by with_unfolding_all rfl) ?_
  refine rn_cl (by with_unfolding_all rfl) (ev_up (by decide) (x1_leave (c := c + 0) hc (by omega) 12)) ?_
  refine rn_go 80 (by with_unfolding_all rfl) ?_
  refine rn_cl (by with_unfolding_all rfl) (ev_up (by decide) (x1_sAP2 (c := c + 1) hp ha up_eq (by omega) hk)) ?_
  rw [up_up, tu_tu, tu_s]
  refine rn_go 80 (by with_unfolding_all rfl) ?_
  exact rn_rt (by with_unfolding_all rfl) (trivial) (rfl) (by with_unfolding_all rfl)
set_option maxRecDepth 10000 in
theorem x1_plainMark3 {p c : Nat} (hp : p < 4) (ha : g 10 = nI p) (hc : g 9 = nI c) (h8 : c + 3 ≤ 16) (hk : T 0 (9 + p) = 3) : am_ev 4 15 [.ref 41] (wd g T A gm Am) (some (.int (nI p + T 0 (13 + p) - 1000))) (wd (upd g 9 (nI (c + 3))) T (tu A 9 (tr (A 9) c [22, 21, 20])) gm Am) := by
  refine rn_ev am_m_X1_plainMark rfl rfl ?_
  refine rn_go 80 (by with_unfolding_all rfl) ?_
  refine rn_ld (p) (by with_unfolding_all rfl) ha hp (by decide) ?_
  rw [wa_at hp, hk]
  refine rn_one (by with_unfolding_all rfl) ?_
  simp only [am_pick, if_neg (show ¬ (3 : Int32) = 2 by decide), if_true]
  refine rn_go 80 (by with_unfolding_all rfl) ?_
  refine rn_cl (by with_unfolding_all rfl) (ev_up (by decide) (x1_leave (c := c + 0) hc (by omega) 22)) ?_
  refine rn_go 80 (by with_unfolding_all rfl) ?_
  refine rn_cl (by with_unfolding_all rfl) (ev_up (by decide) (x1_mAP (c := c + 1) hp ha up_eq (by omega))) ?_
  rw [up_up, tu_tu, tu_s]
  refine rn_go 80 (by with_unfolding_all rfl) ?_
  exact rn_rt (by with_unfolding_all rfl) (trivial) (rfl) (by with_unfolding_all rfl)
set_option maxRecDepth 10000 in
theorem x1_sAP3 {p c : Nat} (hp : p < 4) (ha : g 10 = nI p) (hc : g 9 = nI c) (h8 : c + 5 ≤ 16) (hk : T 0 (9 + p) = 3) : am_ev 5 14 [.ref 41] (wd g T A gm Am) (some (.int (T 0 (17 + p) + (nI p + T 0 (13 + p) - 1000)))) (wd (upd g 9 (nI (c + 5))) T (tu A 9 (tr (A 9) c [11, 10, 22, 21, 20])) gm Am) := by
  refine rn_ev am_m_X1_sizeOfAnyPlain rfl rfl ?_
  refine rn_go 80 (by with_unfolding_all rfl) ?_
  refine rn_cl (by with_unfolding_all rfl) (ev_up (by decide) (x1_leave (c := c + 0) hc (by omega) 11)) ?_
  refine rn_go 80 (by with_unfolding_all rfl) ?_
  refine rn_cl (by with_unfolding_all rfl) (ev_up (by decide) (x1_lentSize (c := c + 1) hp ha up_eq (by omega))) ?_
  rw [up_up, tu_tu, tu_s]
  refine rn_go 80 (by with_unfolding_all rfl) ?_
  refine rn_cl (by with_unfolding_all rfl) (ev_up (by decide) (x1_plainMark3 (c := c + 2) hp ha up_eq (by omega) hk)) ?_
  rw [up_up, tu_tu, tu_s]
  refine rn_go 80 (by with_unfolding_all rfl) ?_
  exact rn_rt (by with_unfolding_all rfl) (trivial) (rfl) (by with_unfolding_all rfl)
set_option maxRecDepth 10000 in
theorem x1_plainSize3 {p c : Nat} (hp : p < 4) (ha : g 10 = nI p) (hc : g 9 = nI c) (h8 : c + 5 ≤ 16) (hk : T 0 (9 + p) = 3) : am_ev 6 13 [.ref 41] (wd g T A gm Am) (some (.int (T 0 (17 + p) + (nI p + T 0 (13 + p) - 1000)))) (wd (upd g 9 (nI (c + 5))) T (tu A 9 (tr (A 9) c [11, 10, 22, 21, 20])) gm Am) := by
  refine rn_ev am_m_X1_plainSize rfl rfl ?_
  refine rn_go 80 (by with_unfolding_all rfl) ?_
  refine rn_ld (p) (by with_unfolding_all rfl) ha hp (by decide) ?_
  rw [wa_at hp, hk]
  refine rn_go 80 (by with_unfolding_all rfl) ?_
  refine rn_br (by with_unfolding_all rfl) (fun c1 => absurd c1 (by decide)) (fun c1 => ?_)
  refine rn_go 80 (by with_unfolding_all rfl) ?_
  refine rn_cl (by with_unfolding_all rfl) (ev_up (by decide) (x1_sAP3 (c := c + 0) hp ha hc (by omega) hk)) ?_
  refine rn_go 80 (by with_unfolding_all rfl) ?_
  exact rn_rt (by with_unfolding_all rfl) (trivial) (rfl) (by with_unfolding_all rfl)
set_option maxRecDepth 10000 in
theorem x1_sAM {p c : Nat} (hp : p < 4) (ha : g 10 = nI p) (hc : g 9 = nI c) (h8 : c + 2 ≤ 16) : am_ev 3 18 [.ref 41] (wd g T A gm Am) (some (.int (T 0 (17 + p) - 100))) (wd (upd g 9 (nI (c + 2))) T (tu A 9 (tr (A 9) c [13, 10])) gm Am) := by
  refine rn_ev am_m_X1_sizeOfAnyMild rfl rfl ?_
  refine rn_go 80 (by with_unfolding_all rfl) ?_
  refine rn_cl (by with_unfolding_all rfl) (ev_up (by decide) (x1_leave (c := c + 0) hc (by omega) 13)) ?_
  refine rn_go 80 (by with_unfolding_all rfl) ?_
  refine rn_cl (by with_unfolding_all rfl) (ev_up (by decide) (x1_lentSize (c := c + 1) hp ha up_eq (by omega))) ?_
  rw [up_up, tu_tu, tu_s]
  refine rn_go 80 (by with_unfolding_all rfl) ?_
  exact rn_rt (by with_unfolding_all rfl) (trivial) (rfl) (by with_unfolding_all rfl)
set_option maxRecDepth 10000 in
theorem x1_mildSize4 {p c : Nat} (hp : p < 4) (ha : g 10 = nI p) (hc : g 9 = nI c) (h8 : c + 2 ≤ 16) (hk : T 0 (9 + p) = 4) : am_ev 4 17 [.ref 41] (wd g T A gm Am) (some (.int (T 0 (17 + p) - 100))) (wd (upd g 9 (nI (c + 2))) T (tu A 9 (tr (A 9) c [13, 10])) gm Am) := by
  refine rn_ev am_m_X1_mildSize rfl rfl ?_
  refine rn_go 80 (by with_unfolding_all rfl) ?_
  refine rn_ld (p) (by with_unfolding_all rfl) ha hp (by decide) ?_
  rw [wa_at hp, hk]
  refine rn_go 80 (by with_unfolding_all rfl) ?_
  refine rn_br (by with_unfolding_all rfl) (fun c1 => absurd c1 (by decide)) (fun c1 => ?_)
  refine rn_go 80 (by with_unfolding_all rfl) ?_
  refine rn_cl (by with_unfolding_all rfl) (ev_up (by decide) (x1_sAM (c := c + 0) hp ha hc (by omega))) ?_
  refine rn_go 80 (by with_unfolding_all rfl) ?_
  exact rn_rt (by with_unfolding_all rfl) (trivial) (rfl) (by with_unfolding_all rfl)
set_option maxRecDepth 10000 in
theorem x1_mildSize5 {p c : Nat} (hp : p < 4) (ha : g 10 = nI p) (hc : g 9 = nI c) (h8 : c + 3 ≤ 16) (hk : T 0 (9 + p) = 5) : am_ev 4 17 [.ref 41] (wd g T A gm Am) (some (.int ((T 0 (17 + p) - 100) * 2))) (wd (upd g 9 (nI (c + 3))) T (tu A 9 (tr (A 9) c [14, 13, 10])) gm Am) := by
  refine rn_ev am_m_X1_mildSize rfl rfl ?_
  refine rn_go 80 (by with_unfolding_all rfl) ?_
  refine rn_ld (p) (by with_unfolding_all rfl) ha hp (by decide) ?_
  rw [wa_at hp, hk]
  refine rn_go 80 (by with_unfolding_all rfl) ?_
  refine rn_br (by with_unfolding_all rfl) (fun c1 => ?_) (fun c1 => absurd rfl c1)
  refine rn_go 80 (by with_unfolding_all rfl) ?_
  refine rn_cl (by with_unfolding_all rfl) (ev_up (by decide) (x1_leave (c := c + 0) hc (by omega) 14)) ?_
  refine rn_go 80 (by with_unfolding_all rfl) ?_
  refine rn_cl (by with_unfolding_all rfl) (ev_up (by decide) (x1_sAM (c := c + 1) hp ha up_eq (by omega))) ?_
  rw [up_up, tu_tu, tu_s]
  refine rn_go 80 (by with_unfolding_all rfl) ?_
  exact rn_rt (by with_unfolding_all rfl) (trivial) (rfl) (by with_unfolding_all rfl)
set_option maxRecDepth 10000 in
theorem x1_mildMark4 {p c : Nat} (hp : p < 4) (ha : g 10 = nI p) (hc : g 9 = nI c) (h8 : c + 4 ≤ 16) (hk : T 0 (9 + p) = 4) : am_ev 5 19 [.ref 41] (wd g T A gm Am) (some (.int (nI p - (T 0 (17 + p) - 100)))) (wd (upd g 9 (nI (c + 4))) T (tu A 9 (tr (A 9) c [23, 20, 13, 10])) gm Am) := by
  refine rn_ev am_m_X1_mildMark rfl rfl ?_
  refine rn_go 80 (by with_unfolding_all rfl) ?_
  refine rn_cl (by with_unfolding_all rfl) (ev_up (by decide) (x1_leave (c := c + 0) hc (by omega) 23)) ?_
  refine rn_go 80 (by with_unfolding_all rfl) ?_
  refine rn_cl (by with_unfolding_all rfl) (ev_up (by decide) (x1_lentMark (c := c + 1) hp ha up_eq (by omega))) ?_
  rw [up_up, tu_tu, tu_s]
  refine rn_go 80 (by with_unfolding_all rfl) ?_
  refine rn_cl (by with_unfolding_all rfl) (ev_up (by decide) (x1_mildSize4 (c := c + 2) hp ha up_eq (by omega) hk)) ?_
  rw [up_up, tu_tu, tu_s]
  refine rn_go 80 (by with_unfolding_all rfl) ?_
  exact rn_rt (by with_unfolding_all rfl) (trivial) (rfl) (by with_unfolding_all rfl)
set_option maxRecDepth 10000 in
theorem x1_mildMark5 {p c : Nat} (hp : p < 4) (ha : g 10 = nI p) (hc : g 9 = nI c) (h8 : c + 5 ≤ 16) (hk : T 0 (9 + p) = 5) : am_ev 5 19 [.ref 41] (wd g T A gm Am) (some (.int (nI p - (T 0 (17 + p) - 100) * 2))) (wd (upd g 9 (nI (c + 5))) T (tu A 9 (tr (A 9) c [23, 20, 14, 13, 10])) gm Am) := by
  refine rn_ev am_m_X1_mildMark rfl rfl ?_
  refine rn_go 80 (by with_unfolding_all rfl) ?_
  refine rn_cl (by with_unfolding_all rfl) (ev_up (by decide) (x1_leave (c := c + 0) hc (by omega) 23)) ?_
  refine rn_go 80 (by with_unfolding_all rfl) ?_
  refine rn_cl (by with_unfolding_all rfl) (ev_up (by decide) (x1_lentMark (c := c + 1) hp ha up_eq (by omega))) ?_
  rw [up_up, tu_tu, tu_s]
  refine rn_go 80 (by with_unfolding_all rfl) ?_
  refine rn_cl (by with_unfolding_all rfl) (ev_up (by decide) (x1_mildSize5 (c := c + 2) hp ha up_eq (by omega) hk)) ?_
  rw [up_up, tu_tu, tu_s]
  refine rn_go 80 (by with_unfolding_all rfl) ?_
  exact rn_rt (by with_unfolding_all rfl) (trivial) (rfl) (by with_unfolding_all rfl)
set_option maxRecDepth 10000 in
theorem x1_isMild {p : Nat} (hp : p < 4) (ha : g 10 = nI p) : am_ev 4 10 [.ref 41] (wd g T A gm Am) (some (.int (iok (T 0 (9 + p)) 4))) (wd g T A gm Am) := by
  refine rn_ev am_m_X1_isMild rfl rfl ?_
  refine rn_go 80 (by with_unfolding_all rfl) ?_
  refine rn_ld (p) (by with_unfolding_all rfl) ha hp (by decide) ?_
  rw [wa_at hp]
  refine rn_go 80 (by with_unfolding_all rfl) ?_
  refine rn_cl (by with_unfolding_all rfl) (ev_up (by decide) (x8_isOfKind _ 4)) ?_
  refine rn_go 80 (by with_unfolding_all rfl) ?_
  refine rn_rt (by with_unfolding_all rfl) ?_ rfl rfl
  unfold iok
  repeat' split
  all_goals first | exact Or.inl rfl | exact Or.inr rfl
set_option maxRecDepth 10000 in
theorem x1_begin (p : Int32) : am_ev 1 8 [.ref 41, .int p] (wd g T A gm Am) none (wd (upd (upd g 9 0) 10 p) T A gm Am) := by
  refine rn_ev am_m_X1_begin rfl rfl ?_
  refine rn_to 5 80 (by with_unfolding_all rfl) ?_
  refine rn_hp (by with_unfolding_all exact (wG_9)) ?_
  refine rn_to 10 80 (by with_unfolding_all rfl) ?_
  refine rn_hp (by with_unfolding_all exact (wG_10)) ?_
  refine rn_go 80 (by with_unfolding_all rfl) ?_
  exact rn_rt (by with_unfolding_all rfl) trivial rfl rfl
def sSize (t : Nat → Int32) (p : Nat) : Int32 := if t (9 + p) = 1 then t (17 + p) + (nI p + t (13 + p)) else if t (9 + p) = 2 then 0 - (t (17 + p) + ((nI p + t (13 + p)) * 2)) else if t (9 + p) = 3 then t (17 + p) + (nI p + t (13 + p) - 1000) else if t (9 + p) = 4 then t (17 + p) - 100 else (t (17 + p) - 100) * 2
def sMark (t : Nat → Int32) (p : Nat) : Int32 := if t (9 + p) = 1 then nI p + t (13 + p) else if t (9 + p) = 2 then (nI p + t (13 + p)) * 2 else if t (9 + p) = 3 then nI p + t (13 + p) - 1000 else if t (9 + p) = 4 then nI p - (t (17 + p) - 100) else nI p - (t (17 + p) - 100) * 2
def sSizeT (t : Nat → Int32) (p : Nat) : List Int32 := if t (9 + p) = 1 then [11, 10, 21, 20] else if t (9 + p) = 2 then [12, 11, 10, 24, 21, 20] else if t (9 + p) = 3 then [11, 10, 22, 21, 20] else if t (9 + p) = 4 then [13, 10] else [14, 13, 10]
def sMarkT (t : Nat → Int32) (p : Nat) : List Int32 := if t (9 + p) = 1 then [21, 20] else if t (9 + p) = 2 then [24, 21, 20] else if t (9 + p) = 3 then [22, 21, 20] else if t (9 + p) = 4 then [23, 20, 13, 10] else [23, 20, 14, 13, 10]
set_option maxRecDepth 10000 in
theorem x1_sizeOf {p : Nat} (hp : p < 4) (hk : T 0 (9 + p) = 1 ∨ T 0 (9 + p) = 2 ∨ T 0 (9 + p) = 3 ∨ T 0 (9 + p) = 4 ∨ T 0 (9 + p) = 5) : am_ev 8 5 [.ref 41, .int (nI p)] (wd g T A gm Am) (some (.int (sSize (T 0) p))) (wd (upd (upd g 10 (nI p)) 9 (nI (sSizeT (T 0) p).length)) T (tu A 9 (tr (A 9) 0 (sSizeT (T 0) p))) gm Am) := by
  unfold sSize sSizeT
  refine rn_ev am_m_X1_sizeOf rfl rfl ?_
  refine rn_go 80 (by with_unfolding_all rfl) ?_
  refine rn_cl (by with_unfolding_all rfl) (ev_up (by decide) (x1_begin _)) ?_
  refine rn_go 80 (by with_unfolding_all rfl) ?_
  refine rn_cl (by with_unfolding_all rfl) (ev_up (by decide) (x1_isMild hp up_eq)) ?_
  refine rn_go 80 (by with_unfolding_all rfl) ?_
  rcases hk with hk | hk | hk | hk | hk
  · simp only [if_pos hk]
    refine rn_br (by with_unfolding_all rfl) (fun c1 => ?_) (fun c1 => absurd (by rw [hk]; decide) c1)
    refine rn_go 80 (by with_unfolding_all rfl) ?_
    refine rn_cl (by with_unfolding_all rfl) (ev_up (by decide) (x1_plainSize1 (c := 0) hp up_eq (by rw [up_ne (by decide), up_eq]; rfl) (by decide) hk)) ?_
    refine rn_go 80 (by with_unfolding_all rfl) ?_
    refine rn_rt (by with_unfolding_all rfl) trivial rfl ?_
    with_unfolding_all rfl
  · simp only [if_neg (show ¬ T 0 (9 + p) = 1 by rw [hk]; decide), if_pos hk]
    refine rn_br (by with_unfolding_all rfl) (fun c1 => ?_) (fun c1 => absurd (by rw [hk]; decide) c1)
    refine rn_go 80 (by with_unfolding_all rfl) ?_
    refine rn_cl (by with_unfolding_all rfl) (ev_up (by decide) (x1_plainSize2 (c := 0) hp up_eq (by rw [up_ne (by decide), up_eq]; rfl) (by decide) hk)) ?_
    refine rn_go 80 (by with_unfolding_all rfl) ?_
    refine rn_rt (by with_unfolding_all rfl) trivial rfl ?_
    with_unfolding_all rfl
  · simp only [if_neg (show ¬ T 0 (9 + p) = 1 by rw [hk]; decide), if_neg (show ¬ T 0 (9 + p) = 2 by rw [hk]; decide), if_pos hk]
    refine rn_br (by with_unfolding_all rfl) (fun c1 => ?_) (fun c1 => absurd (by rw [hk]; decide) c1)
    refine rn_go 80 (by with_unfolding_all rfl) ?_
    refine rn_cl (by with_unfolding_all rfl) (ev_up (by decide) (x1_plainSize3 (c := 0) hp up_eq (by rw [up_ne (by decide), up_eq]; rfl) (by decide) hk)) ?_
    refine rn_go 80 (by with_unfolding_all rfl) ?_
    refine rn_rt (by with_unfolding_all rfl) trivial rfl ?_
    with_unfolding_all rfl
  · simp only [if_neg (show ¬ T 0 (9 + p) = 1 by rw [hk]; decide), if_neg (show ¬ T 0 (9 + p) = 2 by rw [hk]; decide), if_neg (show ¬ T 0 (9 + p) = 3 by rw [hk]; decide), if_pos hk]
    refine rn_br (by with_unfolding_all rfl) (fun c1 => absurd c1 (by rw [hk]; decide)) (fun c1 => ?_)
    refine rn_go 80 (by with_unfolding_all rfl) ?_
    refine rn_cl (by with_unfolding_all rfl) (ev_up (by decide) (x1_mildSize4 (c := 0) hp up_eq (by rw [up_ne (by decide), up_eq]; rfl) (by decide) hk)) ?_
    refine rn_go 80 (by with_unfolding_all rfl) ?_
    refine rn_rt (by with_unfolding_all rfl) trivial rfl ?_
    with_unfolding_all rfl
  · simp only [if_neg (show ¬ T 0 (9 + p) = 1 by rw [hk]; decide), if_neg (show ¬ T 0 (9 + p) = 2 by rw [hk]; decide), if_neg (show ¬ T 0 (9 + p) = 3 by rw [hk]; decide), if_neg (show ¬ T 0 (9 + p) = 4 by rw [hk]; decide)]
    refine rn_br (by with_unfolding_all rfl) (fun c1 => absurd c1 (by rw [hk]; decide)) (fun c1 => ?_)
    refine rn_go 80 (by with_unfolding_all rfl) ?_
    refine rn_cl (by with_unfolding_all rfl) (ev_up (by decide) (x1_mildSize5 (c := 0) hp up_eq (by rw [up_ne (by decide), up_eq]; rfl) (by decide) hk)) ?_
    refine rn_go 80 (by with_unfolding_all rfl) ?_
    refine rn_rt (by with_unfolding_all rfl) trivial rfl ?_
    with_unfolding_all rfl
set_option maxRecDepth 10000 in
theorem x1_markOf {p : Nat} (hp : p < 4) (hk : T 0 (9 + p) = 1 ∨ T 0 (9 + p) = 2 ∨ T 0 (9 + p) = 3 ∨ T 0 (9 + p) = 4 ∨ T 0 (9 + p) = 5) : am_ev 8 6 [.ref 41, .int (nI p)] (wd g T A gm Am) (some (.int (sMark (T 0) p))) (wd (upd (upd g 10 (nI p)) 9 (nI (sMarkT (T 0) p).length)) T (tu A 9 (tr (A 9) 0 (sMarkT (T 0) p))) gm Am) := by
  unfold sMark sMarkT
  refine rn_ev am_m_X1_markOf rfl rfl ?_
  refine rn_go 80 (by with_unfolding_all rfl) ?_
  refine rn_cl (by with_unfolding_all rfl) (ev_up (by decide) (x1_begin _)) ?_
  refine rn_go 80 (by with_unfolding_all rfl) ?_
  refine rn_cl (by with_unfolding_all rfl) (ev_up (by decide) (x1_isMild hp up_eq)) ?_
  refine rn_go 80 (by with_unfolding_all rfl) ?_
  rcases hk with hk | hk | hk | hk | hk
  · simp only [if_pos hk]
    refine rn_br (by with_unfolding_all rfl) (fun c1 => ?_) (fun c1 => absurd (by rw [hk]; decide) c1)
    refine rn_go 80 (by with_unfolding_all rfl) ?_
    refine rn_cl (by with_unfolding_all rfl) (ev_up (by decide) (x1_plainMark1 (c := 0) hp up_eq (by rw [up_ne (by decide), up_eq]; rfl) (by decide) hk)) ?_
    refine rn_go 80 (by with_unfolding_all rfl) ?_
    refine rn_rt (by with_unfolding_all rfl) trivial rfl ?_
    with_unfolding_all rfl
  · simp only [if_neg (show ¬ T 0 (9 + p) = 1 by rw [hk]; decide), if_pos hk]
    refine rn_br (by with_unfolding_all rfl) (fun c1 => ?_) (fun c1 => absurd (by rw [hk]; decide) c1)
    refine rn_go 80 (by with_unfolding_all rfl) ?_
    refine rn_cl (by with_unfolding_all rfl) (ev_up (by decide) (x1_plainMark2 (c := 0) hp up_eq (by rw [up_ne (by decide), up_eq]; rfl) (by decide) hk)) ?_
    refine rn_go 80 (by with_unfolding_all rfl) ?_
    refine rn_rt (by with_unfolding_all rfl) trivial rfl ?_
    with_unfolding_all rfl
  · simp only [if_neg (show ¬ T 0 (9 + p) = 1 by rw [hk]; decide), if_neg (show ¬ T 0 (9 + p) = 2 by rw [hk]; decide), if_pos hk]
    refine rn_br (by with_unfolding_all rfl) (fun c1 => ?_) (fun c1 => absurd (by rw [hk]; decide) c1)
    refine rn_go 80 (by with_unfolding_all rfl) ?_
    refine rn_cl (by with_unfolding_all rfl) (ev_up (by decide) (x1_plainMark3 (c := 0) hp up_eq (by rw [up_ne (by decide), up_eq]; rfl) (by decide) hk)) ?_
    refine rn_go 80 (by with_unfolding_all rfl) ?_
    refine rn_rt (by with_unfolding_all rfl) trivial rfl ?_
    with_unfolding_all rfl
  · simp only [if_neg (show ¬ T 0 (9 + p) = 1 by rw [hk]; decide), if_neg (show ¬ T 0 (9 + p) = 2 by rw [hk]; decide), if_neg (show ¬ T 0 (9 + p) = 3 by rw [hk]; decide), if_pos hk]
    refine rn_br (by with_unfolding_all rfl) (fun c1 => absurd c1 (by rw [hk]; decide)) (fun c1 => ?_)
    refine rn_go 80 (by with_unfolding_all rfl) ?_
    refine rn_cl (by with_unfolding_all rfl) (ev_up (by decide) (x1_mildMark4 (c := 0) hp up_eq (by rw [up_ne (by decide), up_eq]; rfl) (by decide) hk)) ?_
    refine rn_go 80 (by with_unfolding_all rfl) ?_
    refine rn_rt (by with_unfolding_all rfl) trivial rfl ?_
    with_unfolding_all rfl
  · simp only [if_neg (show ¬ T 0 (9 + p) = 1 by rw [hk]; decide), if_neg (show ¬ T 0 (9 + p) = 2 by rw [hk]; decide), if_neg (show ¬ T 0 (9 + p) = 3 by rw [hk]; decide), if_neg (show ¬ T 0 (9 + p) = 4 by rw [hk]; decide)]
    refine rn_br (by with_unfolding_all rfl) (fun c1 => absurd c1 (by rw [hk]; decide)) (fun c1 => ?_)
    refine rn_go 80 (by with_unfolding_all rfl) ?_
    refine rn_cl (by with_unfolding_all rfl) (ev_up (by decide) (x1_mildMark5 (c := 0) hp up_eq (by rw [up_ne (by decide), up_eq]; rfl) (by decide) hk)) ?_
    refine rn_go 80 (by with_unfolding_all rfl) ?_
    refine rn_rt (by with_unfolding_all rfl) trivial rfl ?_
    with_unfolding_all rfl
end

/-! the reference's asks; ask and trace on both sides -/
section
variable {g gm : Nat → Int32} {T A Am : Nat → Nat → Int32} {h : am_H}
set_option maxRecDepth 10000 in
theorem xm_lentSize {p c : Nat} (hp : p < 4) (hc : gm 5 = nI c) (h8 : c + 1 ≤ 16) : am_ev 2 215 [.ref 43, .int (nI p)] (wd g T A gm Am) (some (.int ((tv (Am 0) 0) (17 + p)))) (wd g T A (upd gm 5 (nI (c + 1))) (tu Am 6 (tr (Am 6) c [10]))) := by
  refine rn_ev am_m_X9_lentSize rfl rfl ?_
  refine rn_go 80 (by with_unfolding_all rfl) ?_
  refine rn_cl (by with_unfolding_all rfl) (ev_up (by decide) (xm_begin (c := c + 0) hc (by omega) 10)) ?_
  refine rn_go 80 (by with_unfolding_all rfl) ?_
  refine rn_ld (0 + (17 + p)) (by with_unfolding_all rfl) (by rw [Nat.zero_add]; exact nI_add 17 p) (by omega) (by decide) ?_
  refine rn_go 80 (by with_unfolding_all rfl) ?_
  exact rn_rt (by with_unfolding_all rfl) (trivial) (rfl) (by with_unfolding_all rfl)
set_option maxRecDepth 10000 in
theorem xm_lentMark {p c : Nat} (hp : p < 4) (hc : gm 5 = nI c) (h8 : c + 1 ≤ 16) : am_ev 2 219 [.ref 43, .int (nI p)] (wd g T A gm Am) (some (.int (nI p))) (wd g T A (upd gm 5 (nI (c + 1))) (tu Am 6 (tr (Am 6) c [20]))) := by
  refine rn_ev am_m_X9_lentMark rfl rfl ?_
  refine rn_go 80 (by with_unfolding_all rfl) ?_
  refine rn_cl (by with_unfolding_all rfl) (ev_up (by decide) (xm_begin (c := c + 0) hc (by omega) 20)) ?_
  refine rn_go 80 (by with_unfolding_all rfl) ?_
  exact rn_rt (by with_unfolding_all rfl) (trivial) (rfl) (by with_unfolding_all rfl)
set_option maxRecDepth 10000 in
theorem xm_plainMark {p c : Nat} (hp : p < 4) (hc : gm 5 = nI c) (h8 : c + 2 ≤ 16) : am_ev 3 220 [.ref 43, .int (nI p)] (wd g T A gm Am) (some (.int (nI p + (tv (Am 0) 0) (13 + p)))) (wd g T A (upd gm 5 (nI (c + 2))) (tu Am 6 (tr (Am 6) c [21, 20]))) := by
  refine rn_ev am_m_X9_plainMark rfl rfl ?_
  refine rn_go 80 (by with_unfolding_all rfl) ?_
  refine rn_cl (by with_unfolding_all rfl) (ev_up (by decide) (xm_begin (c := c + 0) hc (by omega) 21)) ?_
  refine rn_go 80 (by with_unfolding_all rfl) ?_
  refine rn_cl (by with_unfolding_all rfl) (ev_up (by decide) (xm_lentMark (c := c + 1) hp up_eq (by omega))) ?_
  rw [up_up, tu_tu, tu_s]
  refine rn_go 80 (by with_unfolding_all rfl) ?_
  refine rn_ld (0 + (13 + p)) (by with_unfolding_all rfl) (by rw [Nat.zero_add]; exact nI_add 13 p) (by omega) (by decide) ?_
  refine rn_go 80 (by with_unfolding_all rfl) ?_
  exact rn_rt (by with_unfolding_all rfl) (trivial) (rfl) (by with_unfolding_all rfl)
set_option maxRecDepth 10000 in
theorem xm_mark1 {p c : Nat} (hp : p < 4) (hc : gm 5 = nI c) (h8 : c + 2 ≤ 16) (hk : (tv (Am 0) 0) (9 + p) = 1) : am_ev 4 221 [.ref 43, .int (nI p)] (wd g T A gm Am) (some (.int (nI p + (tv (Am 0) 0) (13 + p)))) (wd g T A (upd gm 5 (nI (c + 2))) (tu Am 6 (tr (Am 6) c [21, 20]))) := by
  refine rn_ev am_m_X9_mark rfl rfl ?_
  refine rn_go 80 (by with_unfolding_all rfl) ?_
  refine rn_ld (0 + (9 + p)) (by with_unfolding_all rfl) (by rw [Nat.zero_add]; exact nI_add 9 p) (by omega) (by decide) ?_
  rw [show Am 0 (0 + (9 + p)) = 1 from hk]
  refine rn_one (by with_unfolding_all rfl) ?_
  simp only [am_pick, if_neg (show ¬ (1 : Int32) = 2 by decide), if_neg (show ¬ (1 : Int32) = 3 by decide)]
  refine rn_go 80 (by with_unfolding_all rfl) ?_
  refine rn_cl (by with_unfolding_all rfl) (ev_up (by decide) (xm_plainMark (c := c + 0) hp hc (by omega))) ?_
  refine rn_go 80 (by with_unfolding_all rfl) ?_
  exact rn_rt (by with_unfolding_all rfl) (trivial) (rfl) (by with_unfolding_all rfl)
set_option maxRecDepth 10000 in
theorem xm_plainSize1 {p c : Nat} (hp : p < 4) (hc : gm 5 = nI c) (h8 : c + 4 ≤ 16) (hk : (tv (Am 0) 0) (9 + p) = 1) : am_ev 5 216 [.ref 43, .int (nI p)] (wd g T A gm Am) (some (.int ((tv (Am 0) 0) (17 + p) + (nI p + (tv (Am 0) 0) (13 + p))))) (wd g T A (upd gm 5 (nI (c + 4))) (tu Am 6 (tr (Am 6) c [11, 10, 21, 20]))) := by
  refine rn_ev am_m_X9_plainSize rfl rfl ?_
  refine rn_go 80 (by with_unfolding_all rfl) ?_
  refine rn_cl (by with_unfolding_all rfl) (ev_up (by decide) (xm_begin (c := c + 0) hc (by omega) 11)) ?_
  refine rn_go 80 (by with_unfolding_all rfl) ?_
  refine rn_cl (by with_unfolding_all rfl) (ev_up (by decide) (xm_lentSize (c := c + 1) hp up_eq (by omega))) ?_
  rw [up_up, tu_tu, tu_s]
  refine rn_go 80 (by with_unfolding_all rfl) ?_
  refine rn_cl (by with_unfolding_all rfl) (ev_up (by decide) (xm_mark1 (c := c + 2) hp up_eq (by omega) hk)) ?_
  rw [up_up, tu_tu, tu_s]
  refine rn_go 80 (by with_unfolding_all rfl) ?_
  exact rn_rt (by with_unfolding_all rfl) (trivial) (rfl) (by with_unfolding_all rfl)
set_option maxRecDepth 10000 in
theorem xm_mark2 {p c : Nat} (hp : p < 4) (hc : gm 5 = nI c) (h8 : c + 3 ≤ 16) (hk : (tv (Am 0) 0) (9 + p) = 2) : am_ev 4 221 [.ref 43, .int (nI p)] (wd g T A gm Am) (some (.int ((nI p + (tv (Am 0) 0) (13 + p)) * 2))) (wd g T A (upd gm 5 (nI (c + 3))) (tu Am 6 (tr (Am 6) c [24, 21, 20]))) := by
  refine rn_ev am_m_X9_mark rfl rfl ?_
  refine rn_go 80 (by with_unfolding_all rfl) ?_
  refine rn_ld (0 + (9 + p)) (by with_unfolding_all rfl) (by rw [Nat.zero_add]; exact nI_add 9 p) (by omega) (by decide) ?_
  rw [show Am 0 (0 + (9 + p)) = 2 from hk]
  refine rn_one (by with_unfolding_all rfl) ?_
  simp only [am_pick, if_true]
  refine rn_go 80 (by with_unfolding_all rfl) ?_
  refine rn_cl (by with_unfolding_all rfl) (ev_up (by decide) (xm_begin (c := c + 0) hc (by omega) 24)) ?_
  refine rn_go 80 (by with_unfolding_all rfl) ?_
  refine rn_cl (by with_unfolding_all rfl) (ev_up (by decide) (xm_plainMark (c := c + 1) hp up_eq (by omega))) ?_
  rw [up_up, tu_tu, tu_s]
  refine rn_go 80 (by with_unfolding_all rfl) ?_
  exact rn_rt (by with_unfolding_all rfl) (trivial) (by rw [Int32.mul_comm]; rfl) (by with_unfolding_all rfl)
set_option maxRecDepth 10000 in
theorem xm_plainSize2 {p c : Nat} (hp : p < 4) (hc : gm 5 = nI c) (h8 : c + 5 ≤ 16) (hk : (tv (Am 0) 0) (9 + p) = 2) : am_ev 5 216 [.ref 43, .int (nI p)] (wd g T A gm Am) (some (.int ((tv (Am 0) 0) (17 + p) + ((nI p + (tv (Am 0) 0) (13 + p)) * 2)))) (wd g T A (upd gm 5 (nI (c + 5))) (tu Am 6 (tr (Am 6) c [11, 10, 24, 21, 20]))) := by
  refine rn_ev am_m_X9_plainSize rfl rfl ?_
  refine rn_go 80 (by with_unfolding_all rfl) ?_
  refine rn_cl (by with_unfolding_all rfl) (ev_up (by decide) (xm_begin (c := c + 0) hc (by omega) 11)) ?_
  refine rn_go 80 (by with_unfolding_all rfl) ?_
  refine rn_cl (by with_unfolding_all rfl) (ev_up (by decide) (xm_lentSize (c := c + 1) hp up_eq (by omega))) ?_
  rw [up_up, tu_tu, tu_s]
  refine rn_go 80 (by with_unfolding_all rfl) ?_
  refine rn_cl (by with_unfolding_all rfl) (ev_up (by decide) (xm_mark2 (c := c + 2) hp up_eq (by omega) hk)) ?_
  rw [up_up, tu_tu, tu_s]
  refine rn_go 80 (by with_unfolding_all rfl) ?_
  exact rn_rt (by with_unfolding_all rfl) (trivial) (rfl) (by with_unfolding_all rfl)
set_option maxRecDepth 10000 in
theorem xm_mark3 {p c : Nat} (hp : p < 4) (hc : gm 5 = nI c) (h8 : c + 3 ≤ 16) (hk : (tv (Am 0) 0) (9 + p) = 3) : am_ev 4 221 [.ref 43, .int (nI p)] (wd g T A gm Am) (some (.int (nI p + (tv (Am 0) 0) (13 + p) - 1000))) (wd g T A (upd gm 5 (nI (c + 3))) (tu Am 6 (tr (Am 6) c [22, 21, 20]))) := by
  refine rn_ev am_m_X9_mark rfl rfl ?_
  refine rn_go 80 (by with_unfolding_all rfl) ?_
  refine rn_ld (0 + (9 + p)) (by with_unfolding_all rfl) (by rw [Nat.zero_add]; exact nI_add 9 p) (by omega) (by decide) ?_
  rw [show Am 0 (0 + (9 + p)) = 3 from hk]
  refine rn_one (by with_unfolding_all rfl) ?_
  simp only [am_pick, if_neg (show ¬ (3 : Int32) = 2 by decide), if_true]
  refine rn_go 80 (by with_unfolding_all rfl) ?_
  refine rn_cl (by with_unfolding_all rfl) (ev_up (by decide) (xm_begin (c := c + 0) hc (by omega) 22)) ?_
  refine rn_go 80 (by with_unfolding_all rfl) ?_
  refine rn_cl (by with_unfolding_all rfl) (ev_up (by decide) (xm_plainMark (c := c + 1) hp up_eq (by omega))) ?_
  rw [up_up, tu_tu, tu_s]
  refine rn_go 80 (by with_unfolding_all rfl) ?_
  exact rn_rt (by with_unfolding_all rfl) (trivial) (rfl) (by with_unfolding_all rfl)
set_option maxRecDepth 10000 in
theorem xm_plainSize3 {p c : Nat} (hp : p < 4) (hc : gm 5 = nI c) (h8 : c + 5 ≤ 16) (hk : (tv (Am 0) 0) (9 + p) = 3) : am_ev 5 216 [.ref 43, .int (nI p)] (wd g T A gm Am) (some (.int ((tv (Am 0) 0) (17 + p) + (nI p + (tv (Am 0) 0) (13 + p) - 1000)))) (wd g T A (upd gm 5 (nI (c + 5))) (tu Am 6 (tr (Am 6) c [11, 10, 22, 21, 20]))) := by
  refine rn_ev am_m_X9_plainSize rfl rfl ?_
  refine rn_go 80 (by with_unfolding_all rfl) ?_
  refine rn_cl (by with_unfolding_all rfl) (ev_up (by decide) (xm_begin (c := c + 0) hc (by omega) 11)) ?_
  refine rn_go 80 (by with_unfolding_all rfl) ?_
  refine rn_cl (by with_unfolding_all rfl) (ev_up (by decide) (xm_lentSize (c := c + 1) hp up_eq (by omega))) ?_
  rw [up_up, tu_tu, tu_s]
  refine rn_go 80 (by with_unfolding_all rfl) ?_
  refine rn_cl (by with_unfolding_all rfl) (ev_up (by decide) (xm_mark3 (c := c + 2) hp up_eq (by omega) hk)) ?_
  rw [up_up, tu_tu, tu_s]
  refine rn_go 80 (by with_unfolding_all rfl) ?_
  exact rn_rt (by with_unfolding_all rfl) (trivial) (rfl) (by with_unfolding_all rfl)
set_option maxRecDepth 10000 in
theorem xm_mildSize {p c : Nat} (hp : p < 4) (hc : gm 5 = nI c) (h8 : c + 2 ≤ 16) : am_ev 3 217 [.ref 43, .int (nI p)] (wd g T A gm Am) (some (.int ((tv (Am 0) 0) (17 + p) - 100))) (wd g T A (upd gm 5 (nI (c + 2))) (tu Am 6 (tr (Am 6) c [13, 10]))) := by
  refine rn_ev am_m_X9_mildSize rfl rfl ?_
  refine rn_go 80 (by with_unfolding_all rfl) ?_
  refine rn_cl (by with_unfolding_all rfl) (ev_up (by decide) (xm_begin (c := c + 0) hc (by omega) 13)) ?_
  refine rn_go 80 (by with_unfolding_all rfl) ?_
  refine rn_cl (by with_unfolding_all rfl) (ev_up (by decide) (xm_lentSize (c := c + 1) hp up_eq (by omega))) ?_
  rw [up_up, tu_tu, tu_s]
  refine rn_go 80 (by with_unfolding_all rfl) ?_
  exact rn_rt (by with_unfolding_all rfl) (trivial) (rfl) (by with_unfolding_all rfl)
set_option maxRecDepth 10000 in
theorem xm_sizeOf1 {p c : Nat} (hp : p < 4) (hc : gm 5 = nI c) (h8 : c + 4 ≤ 16) (hk : (tv (Am 0) 0) (9 + p) = 1) : am_ev 6 218 [.ref 43, .int (nI p)] (wd g T A gm Am) (some (.int ((tv (Am 0) 0) (17 + p) + (nI p + (tv (Am 0) 0) (13 + p))))) (wd g T A (upd gm 5 (nI (c + 4))) (tu Am 6 (tr (Am 6) c [11, 10, 21, 20]))) := by
  refine rn_ev am_m_X9_sizeOf rfl rfl ?_
  refine rn_go 80 (by with_unfolding_all rfl) ?_
  refine rn_ld (0 + (9 + p)) (by with_unfolding_all rfl) (by rw [Nat.zero_add]; exact nI_add 9 p) (by omega) (by decide) ?_
  rw [show Am 0 (0 + (9 + p)) = 1 from hk]
  refine rn_one (by with_unfolding_all rfl) ?_
  simp only [am_pick, if_neg (show ¬ (1 : Int32) = 2 by decide), if_neg (show ¬ (1 : Int32) = 3 by decide), if_neg (show ¬ (1 : Int32) = 4 by decide), if_neg (show ¬ (1 : Int32) = 5 by decide)]
  refine rn_go 80 (by with_unfolding_all rfl) ?_
  refine rn_cl (by with_unfolding_all rfl) (ev_up (by decide) (xm_plainSize1 (c := c + 0) hp hc (by omega) hk)) ?_
  refine rn_go 80 (by with_unfolding_all rfl) ?_
  exact rn_rt (by with_unfolding_all rfl) (trivial) (rfl) (by with_unfolding_all rfl)
set_option maxRecDepth 10000 in
theorem xm_sizeOf2 {p c : Nat} (hp : p < 4) (hc : gm 5 = nI c) (h8 : c + 6 ≤ 16) (hk : (tv (Am 0) 0) (9 + p) = 2) : am_ev 6 218 [.ref 43, .int (nI p)] (wd g T A gm Am) (some (.int (0 - ((tv (Am 0) 0) (17 + p) + ((nI p + (tv (Am 0) 0) (13 + p)) * 2))))) (wd g T A (upd gm 5 (nI (c + 6))) (tu Am 6 (tr (Am 6) c [12, 11, 10, 24, 21, 20]))) := by
  refine rn_ev am_m_X9_sizeOf rfl rfl ?_
  refine rn_go 80 (by with_unfolding_all rfl) ?_
  refine rn_ld (0 + (9 + p)) (by with_unfolding_all rfl) (by rw [Nat.zero_add]; exact nI_add 9 p) (by omega) (by decide) ?_
  rw [show Am 0 (0 + (9 + p)) = 2 from hk]
  refine rn_one (by with_unfolding_all rfl) ?_
  simp only [am_pick, if_true]
  refine rn_go 80 (by with_unfolding_all rfl) ?_
  refine rn_cl (by with_unfolding_all rfl) (ev_up (by decide) (xm_begin (c := c + 0) hc (by omega) 12)) ?_
  refine rn_go 80 (by with_unfolding_all rfl) ?_
  refine rn_cl (by with_unfolding_all rfl) (ev_up (by decide) (xm_plainSize2 (c := c + 1) hp up_eq (by omega) hk)) ?_
  rw [up_up, tu_tu, tu_s]
  refine rn_go 80 (by with_unfolding_all rfl) ?_
  exact rn_rt (by with_unfolding_all rfl) (trivial) (by rw [Int32.zero_sub]; rfl) (by with_unfolding_all rfl)
set_option maxRecDepth 10000 in
theorem xm_sizeOf3 {p c : Nat} (hp : p < 4) (hc : gm 5 = nI c) (h8 : c + 5 ≤ 16) (hk : (tv (Am 0) 0) (9 + p) = 3) : am_ev 6 218 [.ref 43, .int (nI p)] (wd g T A gm Am) (some (.int ((tv (Am 0) 0) (17 + p) + (nI p + (tv (Am 0) 0) (13 + p) - 1000)))) (wd g T A (upd gm 5 (nI (c + 5))) (tu Am 6 (tr (Am 6) c [11, 10, 22, 21, 20]))) := by
  refine rn_ev am_m_X9_sizeOf rfl rfl ?_
  refine rn_go 80 (by with_unfolding_all rfl) ?_
  refine rn_ld (0 + (9 + p)) (by with_unfolding_all rfl) (by rw [Nat.zero_add]; exact nI_add 9 p) (by omega) (by decide) ?_
  rw [show Am 0 (0 + (9 + p)) = 3 from hk]
  refine rn_one (by with_unfolding_all rfl) ?_
  simp only [am_pick, if_neg (show ¬ (3 : Int32) = 2 by decide), if_true]
  refine rn_go 80 (by with_unfolding_all rfl) ?_
  refine rn_cl (by with_unfolding_all rfl) (ev_up (by decide) (xm_plainSize3 (c := c + 0) hp hc (by omega) hk)) ?_
  refine rn_go 80 (by with_unfolding_all rfl) ?_
  exact rn_rt (by with_unfolding_all rfl) (trivial) (rfl) (by with_unfolding_all rfl)
set_option maxRecDepth 10000 in
theorem xm_sizeOf4 {p c : Nat} (hp : p < 4) (hc : gm 5 = nI c) (h8 : c + 2 ≤ 16) (hk : (tv (Am 0) 0) (9 + p) = 4) : am_ev 6 218 [.ref 43, .int (nI p)] (wd g T A gm Am) (some (.int ((tv (Am 0) 0) (17 + p) - 100))) (wd g T A (upd gm 5 (nI (c + 2))) (tu Am 6 (tr (Am 6) c [13, 10]))) := by
  refine rn_ev am_m_X9_sizeOf rfl rfl ?_
  refine rn_go 80 (by with_unfolding_all rfl) ?_
  refine rn_ld (0 + (9 + p)) (by with_unfolding_all rfl) (by rw [Nat.zero_add]; exact nI_add 9 p) (by omega) (by decide) ?_
  rw [show Am 0 (0 + (9 + p)) = 4 from hk]
  refine rn_one (by with_unfolding_all rfl) ?_
  simp only [am_pick, if_neg (show ¬ (4 : Int32) = 2 by decide), if_neg (show ¬ (4 : Int32) = 3 by decide), if_true]
  refine rn_go 80 (by with_unfolding_all rfl) ?_
  refine rn_cl (by with_unfolding_all rfl) (ev_up (by decide) (xm_mildSize (c := c + 0) hp hc (by omega))) ?_
  refine rn_go 80 (by with_unfolding_all rfl) ?_
  exact rn_rt (by with_unfolding_all rfl) (trivial) (rfl) (by with_unfolding_all rfl)
set_option maxRecDepth 10000 in
theorem xm_sizeOf5 {p c : Nat} (hp : p < 4) (hc : gm 5 = nI c) (h8 : c + 3 ≤ 16) (hk : (tv (Am 0) 0) (9 + p) = 5) : am_ev 6 218 [.ref 43, .int (nI p)] (wd g T A gm Am) (some (.int (((tv (Am 0) 0) (17 + p) - 100) * 2))) (wd g T A (upd gm 5 (nI (c + 3))) (tu Am 6 (tr (Am 6) c [14, 13, 10]))) := by
  refine rn_ev am_m_X9_sizeOf rfl rfl ?_
  refine rn_go 80 (by with_unfolding_all rfl) ?_
  refine rn_ld (0 + (9 + p)) (by with_unfolding_all rfl) (by rw [Nat.zero_add]; exact nI_add 9 p) (by omega) (by decide) ?_
  rw [show Am 0 (0 + (9 + p)) = 5 from hk]
  refine rn_one (by with_unfolding_all rfl) ?_
  simp only [am_pick, if_neg (show ¬ (5 : Int32) = 2 by decide), if_neg (show ¬ (5 : Int32) = 3 by decide), if_neg (show ¬ (5 : Int32) = 4 by decide), if_true]
  refine rn_go 80 (by with_unfolding_all rfl) ?_
  refine rn_cl (by with_unfolding_all rfl) (ev_up (by decide) (xm_begin (c := c + 0) hc (by omega) 14)) ?_
  refine rn_go 80 (by with_unfolding_all rfl) ?_
  refine rn_cl (by with_unfolding_all rfl) (ev_up (by decide) (xm_mildSize (c := c + 1) hp up_eq (by omega))) ?_
  rw [up_up, tu_tu, tu_s]
  refine rn_go 80 (by with_unfolding_all rfl) ?_
  exact rn_rt (by with_unfolding_all rfl) (trivial) (by rw [Int32.mul_comm]; rfl) (by with_unfolding_all rfl)
set_option maxRecDepth 10000 in
theorem xm_mildMark4 {p c : Nat} (hp : p < 4) (hc : gm 5 = nI c) (h8 : c + 4 ≤ 16) (hk : (tv (Am 0) 0) (9 + p) = 4) : am_ev 7 222 [.ref 43, .int (nI p)] (wd g T A gm Am) (some (.int (nI p - ((tv (Am 0) 0) (17 + p) - 100)))) (wd g T A (upd gm 5 (nI (c + 4))) (tu Am 6 (tr (Am 6) c [23, 20, 13, 10]))) := by
  refine rn_ev am_m_X9_mildMark rfl rfl ?_
  refine rn_go 80 (by with_unfolding_all rfl) ?_
  refine rn_cl (by with_unfolding_all rfl) (ev_up (by decide) (xm_begin (c := c + 0) hc (by omega) 23)) ?_
  refine rn_go 80 (by with_unfolding_all rfl) ?_
  refine rn_cl (by with_unfolding_all rfl) (ev_up (by decide) (xm_lentMark (c := c + 1) hp up_eq (by omega))) ?_
  rw [up_up, tu_tu, tu_s]
  refine rn_go 80 (by with_unfolding_all rfl) ?_
  refine rn_cl (by with_unfolding_all rfl) (ev_up (by decide) (xm_sizeOf4 (c := c + 2) hp up_eq (by omega) hk)) ?_
  rw [up_up, tu_tu, tu_s]
  refine rn_go 80 (by with_unfolding_all rfl) ?_
  exact rn_rt (by with_unfolding_all rfl) (trivial) (rfl) (by with_unfolding_all rfl)
set_option maxRecDepth 10000 in
theorem xm_mildMark5 {p c : Nat} (hp : p < 4) (hc : gm 5 = nI c) (h8 : c + 5 ≤ 16) (hk : (tv (Am 0) 0) (9 + p) = 5) : am_ev 7 222 [.ref 43, .int (nI p)] (wd g T A gm Am) (some (.int (nI p - ((tv (Am 0) 0) (17 + p) - 100) * 2))) (wd g T A (upd gm 5 (nI (c + 5))) (tu Am 6 (tr (Am 6) c [23, 20, 14, 13, 10]))) := by
  refine rn_ev am_m_X9_mildMark rfl rfl ?_
  refine rn_go 80 (by with_unfolding_all rfl) ?_
  refine rn_cl (by with_unfolding_all rfl) (ev_up (by decide) (xm_begin (c := c + 0) hc (by omega) 23)) ?_
  refine rn_go 80 (by with_unfolding_all rfl) ?_
  refine rn_cl (by with_unfolding_all rfl) (ev_up (by decide) (xm_lentMark (c := c + 1) hp up_eq (by omega))) ?_
  rw [up_up, tu_tu, tu_s]
  refine rn_go 80 (by with_unfolding_all rfl) ?_
  refine rn_cl (by with_unfolding_all rfl) (ev_up (by decide) (xm_sizeOf5 (c := c + 2) hp up_eq (by omega) hk)) ?_
  rw [up_up, tu_tu, tu_s]
  refine rn_go 80 (by with_unfolding_all rfl) ?_
  exact rn_rt (by with_unfolding_all rfl) (trivial) (rfl) (by with_unfolding_all rfl)
set_option maxRecDepth 10000 in
theorem iok4 : ∀ k : Int32, (k = 1 ∨ k = 2 ∨ k = 3 ∨ k = 4 ∨ k = 5) → iok k 4 = if k = 4 then 1 else if k = 5 then 1 else 0 := by
  intro k hk
  rcases hk with rfl | rfl | rfl | rfl | rfl <;> rfl
set_option maxRecDepth 10000 in
theorem x8_ask {n : Nat} (hn : T 0 1 = nI n) (hn4 : n ≤ 4) (hok : ∀ p, p < n → (T 0 (9 + p) = 1 ∨ T 0 (9 + p) = 2 ∨ T 0 (9 + p) = 3 ∨ T 0 (9 + p) = 4 ∨ T 0 (9 + p) = 5)) (q w : Int32) :
    ((hm (T 0) q = 0 ∨ ie w = 0) → am_ev 12 123 [.ref 0, .int q, .int w] (wd g T A gm Am) (some (.int (-1000001))) (wd g T A gm Am)) ∧ (∀ p, p < n → q = nI p → (w = 0 → am_ev 12 123 [.ref 0, .int q, .int w] (wd g T A gm Am) (some (.int (sSize (T 0) p))) (wd (upd (upd g 10 (nI p)) 9 (nI (sSizeT (T 0) p).length)) T (tu A 9 (tr (A 9) 0 (sSizeT (T 0) p))) gm Am)) ∧ (w = 1 → am_ev 12 123 [.ref 0, .int q, .int w] (wd g T A gm Am) (some (.int (sMark (T 0) p))) (wd (upd (upd g 10 (nI p)) 9 (nI (sMarkT (T 0) p).length)) T (tu A 9 (tr (A 9) 0 (sMarkT (T 0) p))) gm Am))) := by
  refine ⟨fun hq => ?_, fun p hp hqp => ⟨fun hw => ?_, fun hw => ?_⟩⟩
  · refine rn_ev am_m_X8_ask rfl rfl ?_
    refine rn_go 80 (by with_unfolding_all rfl) ?_
    refine rn_cl (by with_unfolding_all rfl) (ev_up (by decide) (xh_hasMember q)) ?_
    refine rn_go 80 (by with_unfolding_all rfl) ?_
    refine rn_br (by with_unfolding_all rfl) (fun c => ?_) (fun c => ?_)
    · refine rn_go 80 (by with_unfolding_all rfl) ?_
      exact rn_rt (by with_unfolding_all rfl) trivial rfl rfl
    refine rn_go 80 (by with_unfolding_all rfl) ?_
    refine rn_cl (by with_unfolding_all rfl) (ev_up (by decide) (x8_isEither w)) ?_
    refine rn_go 80 (by with_unfolding_all rfl) ?_
    refine rn_br (by with_unfolding_all rfl) (fun c2 => ?_) (fun c2 => absurd (hq.resolve_left c) c2)
    refine rn_go 80 (by with_unfolding_all rfl) ?_
    exact rn_rt (by with_unfolding_all rfl) trivial rfl rfl
  · subst hqp
    subst hw
    refine rn_ev am_m_X8_ask rfl rfl ?_
    refine rn_go 80 (by with_unfolding_all rfl) ?_
    refine rn_cl (by with_unfolding_all rfl) (ev_up (by decide) (xh_hasMember _)) ?_
    refine rn_go 80 (by with_unfolding_all rfl) ?_
    refine rn_br (by with_unfolding_all rfl) (fun c => absurd c (hm_in hn hn4 hp)) (fun c => ?_)
    refine rn_go 80 (by with_unfolding_all rfl) ?_
    refine rn_cl (by with_unfolding_all rfl) (ev_up (by decide) (x8_isEither 0)) ?_
    refine rn_go 80 (by with_unfolding_all rfl) ?_
    refine rn_br (by with_unfolding_all rfl) (fun c => absurd c (by decide)) (fun c => ?_)
    refine rn_go 80 (by with_unfolding_all rfl) ?_
    refine rn_br (by with_unfolding_all rfl) (fun c => ?_) (fun c => absurd rfl c)
    refine rn_go 80 (by with_unfolding_all rfl) ?_
    refine rn_cl (by with_unfolding_all rfl) (ev_up (by decide) (x1_sizeOf (by omega) (hok p hp))) ?_
    refine rn_go 80 (by with_unfolding_all rfl) ?_
    exact rn_rt (by with_unfolding_all rfl) trivial rfl rfl
  · subst hqp
    subst hw
    refine rn_ev am_m_X8_ask rfl rfl ?_
    refine rn_go 80 (by with_unfolding_all rfl) ?_
    refine rn_cl (by with_unfolding_all rfl) (ev_up (by decide) (xh_hasMember _)) ?_
    refine rn_go 80 (by with_unfolding_all rfl) ?_
    refine rn_br (by with_unfolding_all rfl) (fun c => absurd c (hm_in hn hn4 hp)) (fun c => ?_)
    refine rn_go 80 (by with_unfolding_all rfl) ?_
    refine rn_cl (by with_unfolding_all rfl) (ev_up (by decide) (x8_isEither 1)) ?_
    refine rn_go 80 (by with_unfolding_all rfl) ?_
    refine rn_br (by with_unfolding_all rfl) (fun c => absurd c (by decide)) (fun c => ?_)
    refine rn_go 80 (by with_unfolding_all rfl) ?_
    refine rn_br (by with_unfolding_all rfl) (fun c => absurd c (by decide)) (fun c => ?_)
    refine rn_go 80 (by with_unfolding_all rfl) ?_
    refine rn_cl (by with_unfolding_all rfl) (ev_up (by decide) (x1_markOf (by omega) (hok p hp))) ?_
    refine rn_go 80 (by with_unfolding_all rfl) ?_
    exact rn_rt (by with_unfolding_all rfl) trivial rfl rfl
set_option maxRecDepth 10000 in
theorem xm_ask {n : Nat} (hn : (tv (Am 0) 0) 1 = nI n) (hn4 : n ≤ 4) (hok : ∀ p, p < n → ((tv (Am 0) 0) (9 + p) = 1 ∨ (tv (Am 0) 0) (9 + p) = 2 ∨ (tv (Am 0) 0) (9 + p) = 3 ∨ (tv (Am 0) 0) (9 + p) = 4 ∨ (tv (Am 0) 0) (9 + p) = 5)) (q w : Int32) :
    ((hm (tv (Am 0) 0) q = 0 ∨ ie w = 0) → am_ev 12 223 [.ref 43, .int q, .int w] (wd g T A gm Am) (some (.int (-1000001))) (wd g T A gm Am)) ∧ (∀ p, p < n → q = nI p → (w = 0 → am_ev 12 223 [.ref 43, .int q, .int w] (wd g T A gm Am) (some (.int (sSize (tv (Am 0) 0) p))) (wd g T A (upd gm 5 (nI (sSizeT (tv (Am 0) 0) p).length)) (tu Am 6 (tr (Am 6) 0 (sSizeT (tv (Am 0) 0) p))))) ∧ (w = 1 → am_ev 12 223 [.ref 43, .int q, .int w] (wd g T A gm Am) (some (.int (sMark (tv (Am 0) 0) p))) (wd g T A (upd gm 5 (nI (sMarkT (tv (Am 0) 0) p).length)) (tu Am 6 (tr (Am 6) 0 (sMarkT (tv (Am 0) 0) p)))))) := by
  refine ⟨fun hq => ?_, fun p hp hqp => ⟨fun hw => ?_, fun hw => ?_⟩⟩
  · refine rn_ev am_m_X9_ask rfl rfl ?_
    refine rn_go 80 (by with_unfolding_all rfl) ?_
    refine rn_cl (by with_unfolding_all rfl) (ev_up (by decide) (xm_isMember hn hn4 q)) ?_
    refine rn_go 80 (by with_unfolding_all rfl) ?_
    refine rn_br (by with_unfolding_all rfl) (fun c => ?_) (fun c => ?_)
    · refine rn_go 80 (by with_unfolding_all rfl) ?_
      exact rn_rt (by with_unfolding_all rfl) trivial rfl rfl
    refine rn_go 80 (by with_unfolding_all rfl) ?_
    refine rn_cl (by with_unfolding_all rfl) (ev_up (by decide) (xm_in _ _ _)) ?_
    rw [inn_b (a := 0) (b := 1) (P := 0) (Q := 1) (by decide) (by decide), ie_btw]
    refine rn_go 80 (by with_unfolding_all rfl) ?_
    refine rn_br (by with_unfolding_all rfl) (fun c2 => ?_) (fun c2 => absurd (hq.resolve_left c) c2)
    refine rn_go 80 (by with_unfolding_all rfl) ?_
    exact rn_rt (by with_unfolding_all rfl) trivial rfl rfl
  · subst hqp
    subst hw
    unfold sSize sSizeT
    refine rn_ev am_m_X9_ask rfl rfl ?_
    refine rn_go 80 (by with_unfolding_all rfl) ?_
    refine rn_cl (by with_unfolding_all rfl) (ev_up (by decide) (xm_isMember hn hn4 _)) ?_
    refine rn_go 80 (by with_unfolding_all rfl) ?_
    refine rn_br (by with_unfolding_all rfl) (fun c => absurd c (hm_in hn hn4 hp)) (fun c => ?_)
    refine rn_go 80 (by with_unfolding_all rfl) ?_
    refine rn_cl (by with_unfolding_all rfl) (ev_up (by decide) (xm_in _ _ _)) ?_
    refine rn_go 80 (by with_unfolding_all rfl) ?_
    refine rn_br (by with_unfolding_all rfl) (fun c => absurd c (by decide)) (fun c => ?_)
    refine rn_to 26 80 (by with_unfolding_all rfl) ?_
    refine rn_hp (by with_unfolding_all exact (wN_5)) ?_
    refine rn_go 80 (by with_unfolding_all rfl) ?_
    refine rn_br (by with_unfolding_all rfl) (fun c => ?_) (fun c => absurd rfl c)
    refine rn_go 80 (by with_unfolding_all rfl) ?_
    rcases hok p hp with hk | hk | hk | hk | hk
    · simp only [if_pos hk]
      refine rn_cl (by with_unfolding_all rfl) (ev_up (by decide) (xm_sizeOf1 (c := 0) (by omega) up_eq (by decide) hk)) ?_
      refine rn_go 80 (by with_unfolding_all rfl) ?_
      refine rn_rt (by with_unfolding_all rfl) trivial rfl ?_
      with_unfolding_all rfl
    · simp only [if_neg (show ¬ (tv (Am 0) 0) (9 + p) = 1 by rw [hk]; decide), if_pos hk]
      refine rn_cl (by with_unfolding_all rfl) (ev_up (by decide) (xm_sizeOf2 (c := 0) (by omega) up_eq (by decide) hk)) ?_
      refine rn_go 80 (by with_unfolding_all rfl) ?_
      refine rn_rt (by with_unfolding_all rfl) trivial rfl ?_
      with_unfolding_all rfl
    · simp only [if_neg (show ¬ (tv (Am 0) 0) (9 + p) = 1 by rw [hk]; decide), if_neg (show ¬ (tv (Am 0) 0) (9 + p) = 2 by rw [hk]; decide), if_pos hk]
      refine rn_cl (by with_unfolding_all rfl) (ev_up (by decide) (xm_sizeOf3 (c := 0) (by omega) up_eq (by decide) hk)) ?_
      refine rn_go 80 (by with_unfolding_all rfl) ?_
      refine rn_rt (by with_unfolding_all rfl) trivial rfl ?_
      with_unfolding_all rfl
    · simp only [if_neg (show ¬ (tv (Am 0) 0) (9 + p) = 1 by rw [hk]; decide), if_neg (show ¬ (tv (Am 0) 0) (9 + p) = 2 by rw [hk]; decide), if_neg (show ¬ (tv (Am 0) 0) (9 + p) = 3 by rw [hk]; decide), if_pos hk]
      refine rn_cl (by with_unfolding_all rfl) (ev_up (by decide) (xm_sizeOf4 (c := 0) (by omega) up_eq (by decide) hk)) ?_
      refine rn_go 80 (by with_unfolding_all rfl) ?_
      refine rn_rt (by with_unfolding_all rfl) trivial rfl ?_
      with_unfolding_all rfl
    · simp only [if_neg (show ¬ (tv (Am 0) 0) (9 + p) = 1 by rw [hk]; decide), if_neg (show ¬ (tv (Am 0) 0) (9 + p) = 2 by rw [hk]; decide), if_neg (show ¬ (tv (Am 0) 0) (9 + p) = 3 by rw [hk]; decide), if_neg (show ¬ (tv (Am 0) 0) (9 + p) = 4 by rw [hk]; decide)]
      refine rn_cl (by with_unfolding_all rfl) (ev_up (by decide) (xm_sizeOf5 (c := 0) (by omega) up_eq (by decide) hk)) ?_
      refine rn_go 80 (by with_unfolding_all rfl) ?_
      refine rn_rt (by with_unfolding_all rfl) trivial rfl ?_
      with_unfolding_all rfl
  · subst hqp
    subst hw
    unfold sMark sMarkT
    refine rn_ev am_m_X9_ask rfl rfl ?_
    refine rn_go 80 (by with_unfolding_all rfl) ?_
    refine rn_cl (by with_unfolding_all rfl) (ev_up (by decide) (xm_isMember hn hn4 _)) ?_
    refine rn_go 80 (by with_unfolding_all rfl) ?_
    refine rn_br (by with_unfolding_all rfl) (fun c => absurd c (hm_in hn hn4 hp)) (fun c => ?_)
    refine rn_go 80 (by with_unfolding_all rfl) ?_
    refine rn_cl (by with_unfolding_all rfl) (ev_up (by decide) (xm_in _ _ _)) ?_
    refine rn_go 80 (by with_unfolding_all rfl) ?_
    refine rn_br (by with_unfolding_all rfl) (fun c => absurd c (by decide)) (fun c => ?_)
    refine rn_to 26 80 (by with_unfolding_all rfl) ?_
    refine rn_hp (by with_unfolding_all exact (wN_5)) ?_
    refine rn_go 80 (by with_unfolding_all rfl) ?_
    refine rn_br (by with_unfolding_all rfl) (fun c => absurd c (by decide)) (fun c => ?_)
    refine rn_go 80 (by with_unfolding_all rfl) ?_
    refine rn_cl (by with_unfolding_all rfl) (ev_up (by decide) (xm_isOf (p := p) (by omega) 4)) ?_
    refine rn_go 80 (by with_unfolding_all rfl) ?_
    rcases hok p hp with hk | hk | hk | hk | hk
    · simp only [if_pos hk]
      refine rn_br (by with_unfolding_all rfl) (fun c1 => ?_) (fun c1 => absurd (by rw [hk]; decide) c1)
      refine rn_go 80 (by with_unfolding_all rfl) ?_
      refine rn_cl (by with_unfolding_all rfl) (ev_up (by decide) (xm_mark1 (c := 0) (by omega) up_eq (by decide) hk)) ?_
      refine rn_go 80 (by with_unfolding_all rfl) ?_
      refine rn_rt (by with_unfolding_all rfl) trivial rfl ?_
      with_unfolding_all rfl
    · simp only [if_neg (show ¬ (tv (Am 0) 0) (9 + p) = 1 by rw [hk]; decide), if_pos hk]
      refine rn_br (by with_unfolding_all rfl) (fun c1 => ?_) (fun c1 => absurd (by rw [hk]; decide) c1)
      refine rn_go 80 (by with_unfolding_all rfl) ?_
      refine rn_cl (by with_unfolding_all rfl) (ev_up (by decide) (xm_mark2 (c := 0) (by omega) up_eq (by decide) hk)) ?_
      refine rn_go 80 (by with_unfolding_all rfl) ?_
      refine rn_rt (by with_unfolding_all rfl) trivial rfl ?_
      with_unfolding_all rfl
    · simp only [if_neg (show ¬ (tv (Am 0) 0) (9 + p) = 1 by rw [hk]; decide), if_neg (show ¬ (tv (Am 0) 0) (9 + p) = 2 by rw [hk]; decide), if_pos hk]
      refine rn_br (by with_unfolding_all rfl) (fun c1 => ?_) (fun c1 => absurd (by rw [hk]; decide) c1)
      refine rn_go 80 (by with_unfolding_all rfl) ?_
      refine rn_cl (by with_unfolding_all rfl) (ev_up (by decide) (xm_mark3 (c := 0) (by omega) up_eq (by decide) hk)) ?_
      refine rn_go 80 (by with_unfolding_all rfl) ?_
      refine rn_rt (by with_unfolding_all rfl) trivial rfl ?_
      with_unfolding_all rfl
    · simp only [if_neg (show ¬ (tv (Am 0) 0) (9 + p) = 1 by rw [hk]; decide), if_neg (show ¬ (tv (Am 0) 0) (9 + p) = 2 by rw [hk]; decide), if_neg (show ¬ (tv (Am 0) 0) (9 + p) = 3 by rw [hk]; decide), if_pos hk]
      refine rn_br (by with_unfolding_all rfl) (fun c1 => absurd c1 (by rw [hk]; decide)) (fun c1 => ?_)
      refine rn_go 80 (by with_unfolding_all rfl) ?_
      refine rn_cl (by with_unfolding_all rfl) (ev_up (by decide) (xm_mildMark4 (c := 0) (by omega) up_eq (by decide) hk)) ?_
      refine rn_go 80 (by with_unfolding_all rfl) ?_
      refine rn_rt (by with_unfolding_all rfl) trivial rfl ?_
      with_unfolding_all rfl
    · simp only [if_neg (show ¬ (tv (Am 0) 0) (9 + p) = 1 by rw [hk]; decide), if_neg (show ¬ (tv (Am 0) 0) (9 + p) = 2 by rw [hk]; decide), if_neg (show ¬ (tv (Am 0) 0) (9 + p) = 3 by rw [hk]; decide), if_neg (show ¬ (tv (Am 0) 0) (9 + p) = 4 by rw [hk]; decide)]
      refine rn_br (by with_unfolding_all rfl) (fun c1 => absurd c1 (by rw [hk]; decide)) (fun c1 => ?_)
      refine rn_go 80 (by with_unfolding_all rfl) ?_
      refine rn_cl (by with_unfolding_all rfl) (ev_up (by decide) (xm_mildMark5 (c := 0) (by omega) up_eq (by decide) hk)) ?_
      refine rn_go 80 (by with_unfolding_all rfl) ?_
      refine rn_rt (by with_unfolding_all rfl) trivial rfl ?_
      with_unfolding_all rfl
def sTrace (i c : Int32) (f : Nat → Int32) : Int32 := if i < 0 then -1000000 else if c ≤ i then -1000000 else f i.toNatClampNeg
set_option maxRecDepth 10000 in
theorem x8_trace {c : Nat} (hc : g 9 = nI c) (h16 : c ≤ 16) (i : Int32) : am_ev 12 124 [.ref 0, .int i] (wd g T A gm Am) (some (.int (sTrace i (g 9) (A 9)))) (wd g T A gm Am) := by
  have key : am_ev 1 7 [.ref 41, .int i] (wd g T A gm Am) (some (.int (sTrace i (g 9) (A 9)))) (wd g T A gm Am) := by
    unfold sTrace
    refine rn_ev am_m_X1_traceAt rfl rfl ?_
    refine rn_go 80 (by with_unfolding_all rfl) ?_
    refine rn_br (by with_unfolding_all rfl) (fun c1 => ?_) (fun c1 => ?_)
    · rw [if_pos c1]
      refine rn_go 80 (by with_unfolding_all rfl) ?_
      exact rn_rt (by with_unfolding_all rfl) trivial rfl rfl
    rw [if_neg c1]
    refine rn_go 80 (by with_unfolding_all rfl) ?_
    refine rn_br (by with_unfolding_all rfl) (fun c2 => ?_) (fun c2 => ?_)
    · rw [if_pos c2]
      refine rn_go 80 (by with_unfolding_all rfl) ?_
      exact rn_rt (by with_unfolding_all rfl) trivial rfl rfl
    rw [if_neg c2]
    rw [hc] at c2
    rcases pk_ix i (n := c) (by omega) with q | q | ⟨j, hj, rfl⟩
    · exact absurd q c1
    · exact absurd q c2
    rw [show (nI j).toNatClampNeg = j from nI_clamp (by omega)]
    refine rn_go 80 (by with_unfolding_all rfl) ?_
    refine rn_ld (j) (by with_unfolding_all rfl) rfl (by omega) (by decide) ?_
    refine rn_go 80 (by with_unfolding_all rfl) ?_
    exact rn_rt (by with_unfolding_all rfl) trivial rfl rfl
  refine rn_ev am_m_X8_trace rfl rfl ?_
  refine rn_go 80 (by with_unfolding_all rfl) ?_
  refine rn_cl (by with_unfolding_all rfl) (ev_up (by decide) (key)) ?_
  refine rn_go 80 (by with_unfolding_all rfl) ?_
  exact rn_rt (by with_unfolding_all rfl) trivial rfl rfl
set_option maxRecDepth 10000 in
theorem xm_trace {n9 : Nat} (hc : gm 5 = nI n9) (h16 : n9 ≤ 16) (i : Int32) : am_ev 12 224 [.ref 43, .int i] (wd g T A gm Am) (some (.int (sTrace i (gm 5) (Am 6)))) (wd g T A gm Am) := by
  unfold sTrace
  refine rn_ev am_m_X9_trace rfl rfl ?_
  refine rn_go 80 (by with_unfolding_all rfl) ?_
  refine rn_cl (by with_unfolding_all rfl) (ev_up (by decide) (xm_in _ _ _)) ?_
  rw [inn_b (a := 0) (b := gm 5 - 1) (P := 0) (by decide) rfl, hc, btw_n (by omega), ← hc]
  refine rn_go 80 (by with_unfolding_all rfl) ?_
  refine rn_br (by with_unfolding_all rfl) (fun c => ?_) (fun c => ?_)
  · by_cases c1 : i < 0
    · rw [if_pos c1]
      refine rn_go 80 (by with_unfolding_all rfl) ?_
      exact rn_rt (by with_unfolding_all rfl) trivial rfl rfl
    · rw [if_neg c1] at c ⊢
      by_cases c2 : gm 5 ≤ i
      · rw [if_pos c2]
        refine rn_go 80 (by with_unfolding_all rfl) ?_
        exact rn_rt (by with_unfolding_all rfl) trivial rfl rfl
      · rw [if_neg c2] at c
        exact absurd c (by decide)
  · have c1 : ¬ i < 0 := fun q => c (if_pos q)
    have c2 : ¬ gm 5 ≤ i := fun q => c (by rw [if_neg c1, if_pos q])
    rw [if_neg c1, if_neg c2]
    rw [hc] at c2
    rcases pk_ix i (n := n9) (by omega) with q | q | ⟨j, hj, rfl⟩
    · exact absurd q c1
    · exact absurd q c2
    rw [show (nI j).toNatClampNeg = j from nI_clamp (by omega)]
    refine rn_go 80 (by with_unfolding_all rfl) ?_
    refine rn_ld (j) (by with_unfolding_all rfl) rfl (by omega) (by decide) ?_
    refine rn_go 80 (by with_unfolding_all rfl) ?_
    exact rn_rt (by with_unfolding_all rfl) trivial rfl rfl
end

/-! a hill becomes another; small tests -/
set_option maxRecDepth 10000 in
theorem al21 {P : Nat → Prop} (h0 : P 0) (h1 : P 1) (h2 : P 2) (h3 : P 3) (h4 : P 4) (h5 : P 5) (h6 : P 6) (h7 : P 7) (h8 : P 8) (h9 : P 9) (h10 : P 10) (h11 : P 11) (h12 : P 12) (h13 : P 13) (h14 : P 14) (h15 : P 15) (h16 : P 16) (h17 : P 17) (h18 : P 18) (h19 : P 19) (h20 : P 20) : ∀ k, k < 21 → P k
  | 0, _ => h0
  | 1, _ => h1
  | 2, _ => h2
  | 3, _ => h3
  | 4, _ => h4
  | 5, _ => h5
  | 6, _ => h6
  | 7, _ => h7
  | 8, _ => h8
  | 9, _ => h9
  | 10, _ => h10
  | 11, _ => h11
  | 12, _ => h12
  | 13, _ => h13
  | 14, _ => h14
  | 15, _ => h15
  | 16, _ => h16
  | 17, _ => h17
  | 18, _ => h18
  | 19, _ => h19
  | 20, _ => h20
  | n + 21, h => absurd h (by omega)
set_option maxRecDepth 10000 in
theorem wa_cong {t t' : Nat → Int32} {b : Nat} (hb : b + 4 ≤ 21) (h : ∀ k, k < 21 → t k = t' k) : wa t b = wa t' b := by
  funext j
  unfold wa
  by_cases hj : j < 4
  · rw [if_pos hj, if_pos hj, h (b + j) (by omega)]
  · rw [if_neg hj, if_neg hj]
def hm (t : Nat → Int32) (x : Int32) : Int32 := if x < 0 then 0 else if t 1 ≤ x then 0 else 1
def hmo (t : Nat → Int32) (x : Int32) : Int32 := if x < 0 then 0 else if t 0 ≤ x then 0 else 1
def hst (t : Nat → Int32) (x : Int32) : Int32 := if x < 0 then 0 else if 1 <<< (t 1 &&& 31) ≤ x then 0 else 1
section
variable {g gm : Nat → Int32} {T A Am : Nat → Nat → Int32} {h : am_H}
set_option maxRecDepth 10000 in
theorem wd_cong0 {t t' : Nat → Int32} (h : ∀ k, k < 21 → t k = t' k) : wd g (tu T 0 t) A gm Am = wd g (tu T 0 t') A gm Am := by
  unfold wd
  simp only [show tu T 0 t 0 = t from rfl, show tu T 0 t 1 = T 1 from rfl, show tu T 0 t 2 = T 2 from rfl, show tu T 0 t 3 = T 3 from rfl, show tu T 0 t 4 = T 4 from rfl, show tu T 0 t' 0 = t' from rfl, show tu T 0 t' 1 = T 1 from rfl, show tu T 0 t' 2 = T 2 from rfl, show tu T 0 t' 3 = T 3 from rfl, show tu T 0 t' 4 = T 4 from rfl, wa_cong (b := 5) (by decide) h, wa_cong (b := 9) (by decide) h, wa_cong (b := 13) (by decide) h, wa_cong (b := 17) (by decide) h, h 0 (by decide), h 1 (by decide), h 2 (by decide), h 3 (by decide), h 4 (by decide)]
set_option maxRecDepth 10000 in
theorem wd_cong1 {t t' : Nat → Int32} (h : ∀ k, k < 21 → t k = t' k) : wd g (tu T 1 t) A gm Am = wd g (tu T 1 t') A gm Am := by
  unfold wd
  simp only [show tu T 1 t 0 = T 0 from rfl, show tu T 1 t 1 = t from rfl, show tu T 1 t 2 = T 2 from rfl, show tu T 1 t 3 = T 3 from rfl, show tu T 1 t 4 = T 4 from rfl, show tu T 1 t' 0 = T 0 from rfl, show tu T 1 t' 1 = t' from rfl, show tu T 1 t' 2 = T 2 from rfl, show tu T 1 t' 3 = T 3 from rfl, show tu T 1 t' 4 = T 4 from rfl, wa_cong (b := 5) (by decide) h, wa_cong (b := 9) (by decide) h, wa_cong (b := 13) (by decide) h, wa_cong (b := 17) (by decide) h, h 0 (by decide), h 1 (by decide), h 2 (by decide), h 3 (by decide), h 4 (by decide)]
set_option maxRecDepth 10000 in
theorem wd_cong2 {t t' : Nat → Int32} (h : ∀ k, k < 21 → t k = t' k) : wd g (tu T 2 t) A gm Am = wd g (tu T 2 t') A gm Am := by
  unfold wd
  simp only [show tu T 2 t 0 = T 0 from rfl, show tu T 2 t 1 = T 1 from rfl, show tu T 2 t 2 = t from rfl, show tu T 2 t 3 = T 3 from rfl, show tu T 2 t 4 = T 4 from rfl, show tu T 2 t' 0 = T 0 from rfl, show tu T 2 t' 1 = T 1 from rfl, show tu T 2 t' 2 = t' from rfl, show tu T 2 t' 3 = T 3 from rfl, show tu T 2 t' 4 = T 4 from rfl, wa_cong (b := 5) (by decide) h, wa_cong (b := 9) (by decide) h, wa_cong (b := 13) (by decide) h, wa_cong (b := 17) (by decide) h, h 0 (by decide), h 1 (by decide), h 2 (by decide), h 3 (by decide), h 4 (by decide)]
set_option maxRecDepth 10000 in
theorem wd_cong3 {t t' : Nat → Int32} (h : ∀ k, k < 21 → t k = t' k) : wd g (tu T 3 t) A gm Am = wd g (tu T 3 t') A gm Am := by
  unfold wd
  simp only [show tu T 3 t 0 = T 0 from rfl, show tu T 3 t 1 = T 1 from rfl, show tu T 3 t 2 = T 2 from rfl, show tu T 3 t 3 = t from rfl, show tu T 3 t 4 = T 4 from rfl, show tu T 3 t' 0 = T 0 from rfl, show tu T 3 t' 1 = T 1 from rfl, show tu T 3 t' 2 = T 2 from rfl, show tu T 3 t' 3 = t' from rfl, show tu T 3 t' 4 = T 4 from rfl, wa_cong (b := 5) (by decide) h, wa_cong (b := 9) (by decide) h, wa_cong (b := 13) (by decide) h, wa_cong (b := 17) (by decide) h, h 0 (by decide), h 1 (by decide), h 2 (by decide), h 3 (by decide), h 4 (by decide)]
set_option maxRecDepth 10000 in
theorem wd_cong4 {t t' : Nat → Int32} (h : ∀ k, k < 21 → t k = t' k) : wd g (tu T 4 t) A gm Am = wd g (tu T 4 t') A gm Am := by
  unfold wd
  simp only [show tu T 4 t 0 = T 0 from rfl, show tu T 4 t 1 = T 1 from rfl, show tu T 4 t 2 = T 2 from rfl, show tu T 4 t 3 = T 3 from rfl, show tu T 4 t 4 = t from rfl, show tu T 4 t' 0 = T 0 from rfl, show tu T 4 t' 1 = T 1 from rfl, show tu T 4 t' 2 = T 2 from rfl, show tu T 4 t' 3 = T 3 from rfl, show tu T 4 t' 4 = t' from rfl, wa_cong (b := 5) (by decide) h, wa_cong (b := 9) (by decide) h, wa_cong (b := 13) (by decide) h, wa_cong (b := 17) (by decide) h, h 0 (by decide), h 1 (by decide), h 2 (by decide), h 3 (by decide), h 4 (by decide)]
set_option maxRecDepth 10000 in
theorem xh_hasMember (x : Int32) : am_ev 1 39 [.ref 5, .int x] (wd g T A gm Am) (some (.int (hm (T 0) x))) (wd g T A gm Am) := by
  refine rn_ev am_m_X3_hasMember rfl rfl ?_
  refine rn_go 80 (by with_unfolding_all rfl) ?_
  unfold hm
  refine rn_br (by with_unfolding_all rfl) (fun c => ?_) (fun c => ?_)
  · rw [if_pos c]
    refine rn_go 80 (by with_unfolding_all rfl) ?_
    exact rn_rt (by with_unfolding_all rfl) (Or.inl rfl) (rfl) (rfl)
  · rw [if_neg c]
    refine rn_go 80 (by with_unfolding_all rfl) ?_
    refine rn_br (by with_unfolding_all rfl) (fun c2 => ?_) (fun c2 => ?_)
    · rw [if_pos c2]
      refine rn_go 80 (by with_unfolding_all rfl) ?_
      exact rn_rt (by with_unfolding_all rfl) (Or.inl rfl) (rfl) (rfl)
    · rw [if_neg c2]
      refine rn_go 80 (by with_unfolding_all rfl) ?_
      exact rn_rt (by with_unfolding_all rfl) (Or.inr rfl) (rfl) (rfl)
set_option maxRecDepth 10000 in
theorem xh_hasMotion (x : Int32) : am_ev 1 40 [.ref 5, .int x] (wd g T A gm Am) (some (.int (hmo (T 0) x))) (wd g T A gm Am) := by
  refine rn_ev am_m_X3_hasMotion rfl rfl ?_
  refine rn_go 80 (by with_unfolding_all rfl) ?_
  unfold hmo
  refine rn_br (by with_unfolding_all rfl) (fun c => ?_) (fun c => ?_)
  · rw [if_pos c]
    refine rn_go 80 (by with_unfolding_all rfl) ?_
    exact rn_rt (by with_unfolding_all rfl) (Or.inl rfl) (rfl) (rfl)
  · rw [if_neg c]
    refine rn_go 80 (by with_unfolding_all rfl) ?_
    refine rn_br (by with_unfolding_all rfl) (fun c2 => ?_) (fun c2 => ?_)
    · rw [if_pos c2]
      refine rn_go 80 (by with_unfolding_all rfl) ?_
      exact rn_rt (by with_unfolding_all rfl) (Or.inl rfl) (rfl) (rfl)
    · rw [if_neg c2]
      refine rn_go 80 (by with_unfolding_all rfl) ?_
      exact rn_rt (by with_unfolding_all rfl) (Or.inr rfl) (rfl) (rfl)
set_option maxRecDepth 10000 in
theorem xh_isSet (x : Int32) : am_ev 1 41 [.ref 5, .int x] (wd g T A gm Am) (some (.int (hst (T 0) x))) (wd g T A gm Am) := by
  refine rn_ev am_m_X3_isSet rfl rfl ?_
  refine rn_go 80 (by with_unfolding_all rfl) ?_
  unfold hst
  refine rn_br (by with_unfolding_all rfl) (fun c => ?_) (fun c => ?_)
  · rw [if_pos c]
    refine rn_go 80 (by with_unfolding_all rfl) ?_
    exact rn_rt (by with_unfolding_all rfl) (Or.inl rfl) (rfl) (rfl)
  · rw [if_neg c]
    refine rn_go 80 (by with_unfolding_all rfl) ?_
    refine rn_br (by with_unfolding_all rfl) (fun c2 => ?_) (fun c2 => ?_)
    · rw [if_pos c2]
      refine rn_go 80 (by with_unfolding_all rfl) ?_
      exact rn_rt (by with_unfolding_all rfl) (Or.inl rfl) (rfl) (rfl)
    · rw [if_neg c2]
      refine rn_go 80 (by with_unfolding_all rfl) ?_
      exact rn_rt (by with_unfolding_all rfl) (Or.inr rfl) (rfl) (rfl)
set_option maxRecDepth 10000 in
theorem xh_become_0_2 (hb : g 13 = 0 ∨ g 13 = 1) : am_ev 1 38 [.ref 5, .ref 17] (wd g T A gm Am) none (wd (upd g 11 (g 13)) (tu T 0 (T 2)) A gm Am) := by
  refine rn_ev am_m_X3_become rfl rfl ?_
  refine rn_go 80 (by with_unfolding_all rfl) ?_
  refine rn_ck (by with_unfolding_all rfl) hb ?_
  refine rn_hp (by with_unfolding_all exact ((rfl : _ = wd (upd g 11 (g 13)) T A gm Am))) ?_
  refine rn_to 16 80 (by with_unfolding_all rfl) ?_
  refine rn_hp (by with_unfolding_all exact (wf_0_2)) ?_
  refine rn_to 24 80 (by with_unfolding_all rfl) ?_
  refine rn_hp (by with_unfolding_all exact (wf_0_0)) ?_
  rw [tu_tu, tu_s, tu_n (show (2 : Nat) ≠ 0 by decide)]
  refine rn_to 32 80 (by with_unfolding_all rfl) ?_
  refine rn_hp (by with_unfolding_all exact (wf_0_1)) ?_
  rw [tu_tu, tu_s, tu_n (show (2 : Nat) ≠ 0 by decide)]
  refine rn_to 40 80 (by with_unfolding_all rfl) ?_
  refine rn_hp (by with_unfolding_all exact (wf_0_3)) ?_
  rw [tu_tu, tu_s, tu_n (show (2 : Nat) ≠ 0 by decide)]
  refine rn_to 48 80 (by with_unfolding_all rfl) ?_
  refine rn_hp (by with_unfolding_all exact (wf_0_4)) ?_
  rw [tu_tu, tu_s, tu_n (show (2 : Nat) ≠ 0 by decide)]
  refine rn_go 80 (by with_unfolding_all rfl) ?_
  refine rn_br (by with_unfolding_all rfl) (fun c => ?_) (fun c => ?_)
  · exact absurd c (by decide)
  refine rn_go 80 (by with_unfolding_all rfl) ?_
  refine rn_ld (0) (by with_unfolding_all rfl) (by decide) (by decide) (by decide) ?_
  rw [tu_n (show (2 : Nat) ≠ 0 by decide)]
  refine rn_go 80 (by with_unfolding_all rfl) ?_
  refine rn_st (0) (by with_unfolding_all rfl) (by decide) (by decide) (by decide) ?_
  refine rn_hp (by with_unfolding_all exact (ww_0_5 (k := 0) (by decide))) ?_
  rw [tu_tu, tu_s]
  refine rn_go 80 (by with_unfolding_all rfl) ?_
  refine rn_br (by with_unfolding_all rfl) (fun c => ?_) (fun c => ?_)
  · exact absurd c (by decide)
  refine rn_go 80 (by with_unfolding_all rfl) ?_
  refine rn_ld (1) (by with_unfolding_all rfl) (by decide) (by decide) (by decide) ?_
  rw [tu_n (show (2 : Nat) ≠ 0 by decide)]
  refine rn_go 80 (by with_unfolding_all rfl) ?_
  refine rn_st (1) (by with_unfolding_all rfl) (by decide) (by decide) (by decide) ?_
  refine rn_hp (by with_unfolding_all exact (ww_0_5 (k := 1) (by decide))) ?_
  rw [tu_tu, tu_s]
  refine rn_go 80 (by with_unfolding_all rfl) ?_
  refine rn_br (by with_unfolding_all rfl) (fun c => ?_) (fun c => ?_)
  · exact absurd c (by decide)
  refine rn_go 80 (by with_unfolding_all rfl) ?_
  refine rn_ld (2) (by with_unfolding_all rfl) (by decide) (by decide) (by decide) ?_
  rw [tu_n (show (2 : Nat) ≠ 0 by decide)]
  refine rn_go 80 (by with_unfolding_all rfl) ?_
  refine rn_st (2) (by with_unfolding_all rfl) (by decide) (by decide) (by decide) ?_
  refine rn_hp (by with_unfolding_all exact (ww_0_5 (k := 2) (by decide))) ?_
  rw [tu_tu, tu_s]
  refine rn_go 80 (by with_unfolding_all rfl) ?_
  refine rn_br (by with_unfolding_all rfl) (fun c => ?_) (fun c => ?_)
  · exact absurd c (by decide)
  refine rn_go 80 (by with_unfolding_all rfl) ?_
  refine rn_ld (3) (by with_unfolding_all rfl) (by decide) (by decide) (by decide) ?_
  rw [tu_n (show (2 : Nat) ≠ 0 by decide)]
  refine rn_go 80 (by with_unfolding_all rfl) ?_
  refine rn_st (3) (by with_unfolding_all rfl) (by decide) (by decide) (by decide) ?_
  refine rn_hp (by with_unfolding_all exact (ww_0_5 (k := 3) (by decide))) ?_
  rw [tu_tu, tu_s]
  refine rn_go 80 (by with_unfolding_all rfl) ?_
  refine rn_br (by with_unfolding_all rfl) (fun c => ?_) (fun c => absurd (by decide) c)
  refine rn_go 80 (by with_unfolding_all rfl) ?_
  refine rn_br (by with_unfolding_all rfl) (fun c => ?_) (fun c => ?_)
  · exact absurd c (by decide)
  refine rn_go 80 (by with_unfolding_all rfl) ?_
  refine rn_ld (0) (by with_unfolding_all rfl) (by decide) (by decide) (by decide) ?_
  rw [tu_n (show (2 : Nat) ≠ 0 by decide)]
  refine rn_go 80 (by with_unfolding_all rfl) ?_
  refine rn_st (0) (by with_unfolding_all rfl) (by decide) (by decide) (by decide) ?_
  refine rn_hp (by with_unfolding_all exact (ww_0_9 (k := 0) (by decide))) ?_
  rw [tu_tu, tu_s]
  refine rn_go 80 (by with_unfolding_all rfl) ?_
  refine rn_ld (0) (by with_unfolding_all rfl) (by decide) (by decide) (by decide) ?_
  rw [tu_n (show (2 : Nat) ≠ 0 by decide)]
  refine rn_go 80 (by with_unfolding_all rfl) ?_
  refine rn_st (0) (by with_unfolding_all rfl) (by decide) (by decide) (by decide) ?_
  refine rn_hp (by with_unfolding_all exact (ww_0_13 (k := 0) (by decide))) ?_
  rw [tu_tu, tu_s]
  refine rn_go 80 (by with_unfolding_all rfl) ?_
  refine rn_ld (0) (by with_unfolding_all rfl) (by decide) (by decide) (by decide) ?_
  rw [tu_n (show (2 : Nat) ≠ 0 by decide)]
  refine rn_go 80 (by with_unfolding_all rfl) ?_
  refine rn_st (0) (by with_unfolding_all rfl) (by decide) (by decide) (by decide) ?_
  refine rn_hp (by with_unfolding_all exact (ww_0_17 (k := 0) (by decide))) ?_
  rw [tu_tu, tu_s]
  refine rn_go 80 (by with_unfolding_all rfl) ?_
  refine rn_br (by with_unfolding_all rfl) (fun c => ?_) (fun c => ?_)
  · exact absurd c (by decide)
  refine rn_go 80 (by with_unfolding_all rfl) ?_
  refine rn_ld (1) (by with_unfolding_all rfl) (by decide) (by decide) (by decide) ?_
  rw [tu_n (show (2 : Nat) ≠ 0 by decide)]
  refine rn_go 80 (by with_unfolding_all rfl) ?_
  refine rn_st (1) (by with_unfolding_all rfl) (by decide) (by decide) (by decide) ?_
  refine rn_hp (by with_unfolding_all exact (ww_0_9 (k := 1) (by decide))) ?_
  rw [tu_tu, tu_s]
  refine rn_go 80 (by with_unfolding_all rfl) ?_
  refine rn_ld (1) (by with_unfolding_all rfl) (by decide) (by decide) (by decide) ?_
  rw [tu_n (show (2 : Nat) ≠ 0 by decide)]
  refine rn_go 80 (by with_unfolding_all rfl) ?_
  refine rn_st (1) (by with_unfolding_all rfl) (by decide) (by decide) (by decide) ?_
  refine rn_hp (by with_unfolding_all exact (ww_0_13 (k := 1) (by decide))) ?_
  rw [tu_tu, tu_s]
  refine rn_go 80 (by with_unfolding_all rfl) ?_
  refine rn_ld (1) (by with_unfolding_all rfl) (by decide) (by decide) (by decide) ?_
  rw [tu_n (show (2 : Nat) ≠ 0 by decide)]
  refine rn_go 80 (by with_unfolding_all rfl) ?_
  refine rn_st (1) (by with_unfolding_all rfl) (by decide) (by decide) (by decide) ?_
  refine rn_hp (by with_unfolding_all exact (ww_0_17 (k := 1) (by decide))) ?_
  rw [tu_tu, tu_s]
  refine rn_go 80 (by with_unfolding_all rfl) ?_
  refine rn_br (by with_unfolding_all rfl) (fun c => ?_) (fun c => ?_)
  · exact absurd c (by decide)
  refine rn_go 80 (by with_unfolding_all rfl) ?_
  refine rn_ld (2) (by with_unfolding_all rfl) (by decide) (by decide) (by decide) ?_
  rw [tu_n (show (2 : Nat) ≠ 0 by decide)]
  refine rn_go 80 (by with_unfolding_all rfl) ?_
  refine rn_st (2) (by with_unfolding_all rfl) (by decide) (by decide) (by decide) ?_
  refine rn_hp (by with_unfolding_all exact (ww_0_9 (k := 2) (by decide))) ?_
  rw [tu_tu, tu_s]
  refine rn_go 80 (by with_unfolding_all rfl) ?_
  refine rn_ld (2) (by with_unfolding_all rfl) (by decide) (by decide) (by decide) ?_
  rw [tu_n (show (2 : Nat) ≠ 0 by decide)]
  refine rn_go 80 (by with_unfolding_all rfl) ?_
  refine rn_st (2) (by with_unfolding_all rfl) (by decide) (by decide) (by decide) ?_
  refine rn_hp (by with_unfolding_all exact (ww_0_13 (k := 2) (by decide))) ?_
  rw [tu_tu, tu_s]
  refine rn_go 80 (by with_unfolding_all rfl) ?_
  refine rn_ld (2) (by with_unfolding_all rfl) (by decide) (by decide) (by decide) ?_
  rw [tu_n (show (2 : Nat) ≠ 0 by decide)]
  refine rn_go 80 (by with_unfolding_all rfl) ?_
  refine rn_st (2) (by with_unfolding_all rfl) (by decide) (by decide) (by decide) ?_
  refine rn_hp (by with_unfolding_all exact (ww_0_17 (k := 2) (by decide))) ?_
  rw [tu_tu, tu_s]
  refine rn_go 80 (by with_unfolding_all rfl) ?_
  refine rn_br (by with_unfolding_all rfl) (fun c => ?_) (fun c => ?_)
  · exact absurd c (by decide)
  refine rn_go 80 (by with_unfolding_all rfl) ?_
  refine rn_ld (3) (by with_unfolding_all rfl) (by decide) (by decide) (by decide) ?_
  rw [tu_n (show (2 : Nat) ≠ 0 by decide)]
  refine rn_go 80 (by with_unfolding_all rfl) ?_
  refine rn_st (3) (by with_unfolding_all rfl) (by decide) (by decide) (by decide) ?_
  refine rn_hp (by with_unfolding_all exact (ww_0_9 (k := 3) (by decide))) ?_
  rw [tu_tu, tu_s]
  refine rn_go 80 (by with_unfolding_all rfl) ?_
  refine rn_ld (3) (by with_unfolding_all rfl) (by decide) (by decide) (by decide) ?_
  rw [tu_n (show (2 : Nat) ≠ 0 by decide)]
  refine rn_go 80 (by with_unfolding_all rfl) ?_
  refine rn_st (3) (by with_unfolding_all rfl) (by decide) (by decide) (by decide) ?_
  refine rn_hp (by with_unfolding_all exact (ww_0_13 (k := 3) (by decide))) ?_
  rw [tu_tu, tu_s]
  refine rn_go 80 (by with_unfolding_all rfl) ?_
  refine rn_ld (3) (by with_unfolding_all rfl) (by decide) (by decide) (by decide) ?_
  rw [tu_n (show (2 : Nat) ≠ 0 by decide)]
  refine rn_go 80 (by with_unfolding_all rfl) ?_
  refine rn_st (3) (by with_unfolding_all rfl) (by decide) (by decide) (by decide) ?_
  refine rn_hp (by with_unfolding_all exact (ww_0_17 (k := 3) (by decide))) ?_
  rw [tu_tu, tu_s]
  refine rn_go 80 (by with_unfolding_all rfl) ?_
  refine rn_br (by with_unfolding_all rfl) (fun c => ?_) (fun c => absurd (by decide) c)
  refine rn_go 80 (by with_unfolding_all rfl) ?_
  refine rn_rt (by with_unfolding_all rfl) trivial rfl (wd_cong0 (al21 rfl rfl rfl rfl rfl rfl rfl rfl rfl rfl rfl rfl rfl rfl rfl rfl rfl rfl rfl rfl rfl))
set_option maxRecDepth 10000 in
theorem xh_become_3_0 (hb : g 11 = 0 ∨ g 11 = 1) : am_ev 1 38 [.ref 22, .ref 5] (wd g T A gm Am) none (wd (upd g 14 (g 11)) (tu T 3 (T 0)) A gm Am) := by
  refine rn_ev am_m_X3_become rfl rfl ?_
  refine rn_go 80 (by with_unfolding_all rfl) ?_
  refine rn_ck (by with_unfolding_all rfl) hb ?_
  refine rn_hp (by with_unfolding_all exact ((rfl : _ = wd (upd g 14 (g 11)) T A gm Am))) ?_
  refine rn_to 16 80 (by with_unfolding_all rfl) ?_
  refine rn_hp (by with_unfolding_all exact (wf_3_2)) ?_
  refine rn_to 24 80 (by with_unfolding_all rfl) ?_
  refine rn_hp (by with_unfolding_all exact (wf_3_0)) ?_
  rw [tu_tu, tu_s, tu_n (show (0 : Nat) ≠ 3 by decide)]
  refine rn_to 32 80 (by with_unfolding_all rfl) ?_
  refine rn_hp (by with_unfolding_all exact (wf_3_1)) ?_
  rw [tu_tu, tu_s, tu_n (show (0 : Nat) ≠ 3 by decide)]
  refine rn_to 40 80 (by with_unfolding_all rfl) ?_
  refine rn_hp (by with_unfolding_all exact (wf_3_3)) ?_
  rw [tu_tu, tu_s, tu_n (show (0 : Nat) ≠ 3 by decide)]
  refine rn_to 48 80 (by with_unfolding_all rfl) ?_
  refine rn_hp (by with_unfolding_all exact (wf_3_4)) ?_
  rw [tu_tu, tu_s, tu_n (show (0 : Nat) ≠ 3 by decide)]
  refine rn_go 80 (by with_unfolding_all rfl) ?_
  refine rn_br (by with_unfolding_all rfl) (fun c => ?_) (fun c => ?_)
  · exact absurd c (by decide)
  refine rn_go 80 (by with_unfolding_all rfl) ?_
  refine rn_ld (0) (by with_unfolding_all rfl) (by decide) (by decide) (by decide) ?_
  rw [tu_n (show (0 : Nat) ≠ 3 by decide)]
  refine rn_go 80 (by with_unfolding_all rfl) ?_
  refine rn_st (0) (by with_unfolding_all rfl) (by decide) (by decide) (by decide) ?_
  refine rn_hp (by with_unfolding_all exact (ww_3_5 (k := 0) (by decide))) ?_
  rw [tu_tu, tu_s]
  refine rn_go 80 (by with_unfolding_all rfl) ?_
  refine rn_br (by with_unfolding_all rfl) (fun c => ?_) (fun c => ?_)
  · exact absurd c (by decide)
  refine rn_go 80 (by with_unfolding_all rfl) ?_
  refine rn_ld (1) (by with_unfolding_all rfl) (by decide) (by decide) (by decide) ?_
  rw [tu_n (show (0 : Nat) ≠ 3 by decide)]
  refine rn_go 80 (by with_unfolding_all rfl) ?_
  refine rn_st (1) (by with_unfolding_all rfl) (by decide) (by decide) (by decide) ?_
  refine rn_hp (by with_unfolding_all exact (ww_3_5 (k := 1) (by decide))) ?_
  rw [tu_tu, tu_s]
  refine rn_go 80 (by with_unfolding_all rfl) ?_
  refine rn_br (by with_unfolding_all rfl) (fun c => ?_) (fun c => ?_)
  · exact absurd c (by decide)
  refine rn_go 80 (by with_unfolding_all rfl) ?_
  refine rn_ld (2) (by with_unfolding_all rfl) (by decide) (by decide) (by decide) ?_
  rw [tu_n (show (0 : Nat) ≠ 3 by decide)]
  refine rn_go 80 (by with_unfolding_all rfl) ?_
  refine rn_st (2) (by with_unfolding_all rfl) (by decide) (by decide) (by decide) ?_
  refine rn_hp (by with_unfolding_all exact (ww_3_5 (k := 2) (by decide))) ?_
  rw [tu_tu, tu_s]
  refine rn_go 80 (by with_unfolding_all rfl) ?_
  refine rn_br (by with_unfolding_all rfl) (fun c => ?_) (fun c => ?_)
  · exact absurd c (by decide)
  refine rn_go 80 (by with_unfolding_all rfl) ?_
  refine rn_ld (3) (by with_unfolding_all rfl) (by decide) (by decide) (by decide) ?_
  rw [tu_n (show (0 : Nat) ≠ 3 by decide)]
  refine rn_go 80 (by with_unfolding_all rfl) ?_
  refine rn_st (3) (by with_unfolding_all rfl) (by decide) (by decide) (by decide) ?_
  refine rn_hp (by with_unfolding_all exact (ww_3_5 (k := 3) (by decide))) ?_
  rw [tu_tu, tu_s]
  refine rn_go 80 (by with_unfolding_all rfl) ?_
  refine rn_br (by with_unfolding_all rfl) (fun c => ?_) (fun c => absurd (by decide) c)
  refine rn_go 80 (by with_unfolding_all rfl) ?_
  refine rn_br (by with_unfolding_all rfl) (fun c => ?_) (fun c => ?_)
  · exact absurd c (by decide)
  refine rn_go 80 (by with_unfolding_all rfl) ?_
  refine rn_ld (0) (by with_unfolding_all rfl) (by decide) (by decide) (by decide) ?_
  rw [tu_n (show (0 : Nat) ≠ 3 by decide)]
  refine rn_go 80 (by with_unfolding_all rfl) ?_
  refine rn_st (0) (by with_unfolding_all rfl) (by decide) (by decide) (by decide) ?_
  refine rn_hp (by with_unfolding_all exact (ww_3_9 (k := 0) (by decide))) ?_
  rw [tu_tu, tu_s]
  refine rn_go 80 (by with_unfolding_all rfl) ?_
  refine rn_ld (0) (by with_unfolding_all rfl) (by decide) (by decide) (by decide) ?_
  rw [tu_n (show (0 : Nat) ≠ 3 by decide)]
  refine rn_go 80 (by with_unfolding_all rfl) ?_
  refine rn_st (0) (by with_unfolding_all rfl) (by decide) (by decide) (by decide) ?_
  refine rn_hp (by with_unfolding_all exact (ww_3_13 (k := 0) (by decide))) ?_
  rw [tu_tu, tu_s]
  refine rn_go 80 (by with_unfolding_all rfl) ?_
  refine rn_ld (0) (by with_unfolding_all rfl) (by decide) (by decide) (by decide) ?_
  rw [tu_n (show (0 : Nat) ≠ 3 by decide)]
  refine rn_go 80 (by with_unfolding_all rfl) ?_
  refine rn_st (0) (by with_unfolding_all rfl) (by decide) (by decide) (by decide) ?_
  refine rn_hp (by with_unfolding_all exact (ww_3_17 (k := 0) (by decide))) ?_
  rw [tu_tu, tu_s]
  refine rn_go 80 (by with_unfolding_all rfl) ?_
  refine rn_br (by with_unfolding_all rfl) (fun c => ?_) (fun c => ?_)
  · exact absurd c (by decide)
  refine rn_go 80 (by with_unfolding_all rfl) ?_
  refine rn_ld (1) (by with_unfolding_all rfl) (by decide) (by decide) (by decide) ?_
  rw [tu_n (show (0 : Nat) ≠ 3 by decide)]
  refine rn_go 80 (by with_unfolding_all rfl) ?_
  refine rn_st (1) (by with_unfolding_all rfl) (by decide) (by decide) (by decide) ?_
  refine rn_hp (by with_unfolding_all exact (ww_3_9 (k := 1) (by decide))) ?_
  rw [tu_tu, tu_s]
  refine rn_go 80 (by with_unfolding_all rfl) ?_
  refine rn_ld (1) (by with_unfolding_all rfl) (by decide) (by decide) (by decide) ?_
  rw [tu_n (show (0 : Nat) ≠ 3 by decide)]
  refine rn_go 80 (by with_unfolding_all rfl) ?_
  refine rn_st (1) (by with_unfolding_all rfl) (by decide) (by decide) (by decide) ?_
  refine rn_hp (by with_unfolding_all exact (ww_3_13 (k := 1) (by decide))) ?_
  rw [tu_tu, tu_s]
  refine rn_go 80 (by with_unfolding_all rfl) ?_
  refine rn_ld (1) (by with_unfolding_all rfl) (by decide) (by decide) (by decide) ?_
  rw [tu_n (show (0 : Nat) ≠ 3 by decide)]
  refine rn_go 80 (by with_unfolding_all rfl) ?_
  refine rn_st (1) (by with_unfolding_all rfl) (by decide) (by decide) (by decide) ?_
  refine rn_hp (by with_unfolding_all exact (ww_3_17 (k := 1) (by decide))) ?_
  rw [tu_tu, tu_s]
  refine rn_go 80 (by with_unfolding_all rfl) ?_
  refine rn_br (by with_unfolding_all rfl) (fun c => ?_) (fun c => ?_)
  · exact absurd c (by decide)
  refine rn_go 80 (by with_unfolding_all rfl) ?_
  refine rn_ld (2) (by with_unfolding_all rfl) (by decide) (by decide) (by decide) ?_
  rw [tu_n (show (0 : Nat) ≠ 3 by decide)]
  refine rn_go 80 (by with_unfolding_all rfl) ?_
  refine rn_st (2) (by with_unfolding_all rfl) (by decide) (by decide) (by decide) ?_
  refine rn_hp (by with_unfolding_all exact (ww_3_9 (k := 2) (by decide))) ?_
  rw [tu_tu, tu_s]
  refine rn_go 80 (by with_unfolding_all rfl) ?_
  refine rn_ld (2) (by with_unfolding_all rfl) (by decide) (by decide) (by decide) ?_
  rw [tu_n (show (0 : Nat) ≠ 3 by decide)]
  refine rn_go 80 (by with_unfolding_all rfl) ?_
  refine rn_st (2) (by with_unfolding_all rfl) (by decide) (by decide) (by decide) ?_
  refine rn_hp (by with_unfolding_all exact (ww_3_13 (k := 2) (by decide))) ?_
  rw [tu_tu, tu_s]
  refine rn_go 80 (by with_unfolding_all rfl) ?_
  refine rn_ld (2) (by with_unfolding_all rfl) (by decide) (by decide) (by decide) ?_
  rw [tu_n (show (0 : Nat) ≠ 3 by decide)]
  refine rn_go 80 (by with_unfolding_all rfl) ?_
  refine rn_st (2) (by with_unfolding_all rfl) (by decide) (by decide) (by decide) ?_
  refine rn_hp (by with_unfolding_all exact (ww_3_17 (k := 2) (by decide))) ?_
  rw [tu_tu, tu_s]
  refine rn_go 80 (by with_unfolding_all rfl) ?_
  refine rn_br (by with_unfolding_all rfl) (fun c => ?_) (fun c => ?_)
  · exact absurd c (by decide)
  refine rn_go 80 (by with_unfolding_all rfl) ?_
  refine rn_ld (3) (by with_unfolding_all rfl) (by decide) (by decide) (by decide) ?_
  rw [tu_n (show (0 : Nat) ≠ 3 by decide)]
  refine rn_go 80 (by with_unfolding_all rfl) ?_
  refine rn_st (3) (by with_unfolding_all rfl) (by decide) (by decide) (by decide) ?_
  refine rn_hp (by with_unfolding_all exact (ww_3_9 (k := 3) (by decide))) ?_
  rw [tu_tu, tu_s]
  refine rn_go 80 (by with_unfolding_all rfl) ?_
  refine rn_ld (3) (by with_unfolding_all rfl) (by decide) (by decide) (by decide) ?_
  rw [tu_n (show (0 : Nat) ≠ 3 by decide)]
  refine rn_go 80 (by with_unfolding_all rfl) ?_
  refine rn_st (3) (by with_unfolding_all rfl) (by decide) (by decide) (by decide) ?_
  refine rn_hp (by with_unfolding_all exact (ww_3_13 (k := 3) (by decide))) ?_
  rw [tu_tu, tu_s]
  refine rn_go 80 (by with_unfolding_all rfl) ?_
  refine rn_ld (3) (by with_unfolding_all rfl) (by decide) (by decide) (by decide) ?_
  rw [tu_n (show (0 : Nat) ≠ 3 by decide)]
  refine rn_go 80 (by with_unfolding_all rfl) ?_
  refine rn_st (3) (by with_unfolding_all rfl) (by decide) (by decide) (by decide) ?_
  refine rn_hp (by with_unfolding_all exact (ww_3_17 (k := 3) (by decide))) ?_
  rw [tu_tu, tu_s]
  refine rn_go 80 (by with_unfolding_all rfl) ?_
  refine rn_br (by with_unfolding_all rfl) (fun c => ?_) (fun c => absurd (by decide) c)
  refine rn_go 80 (by with_unfolding_all rfl) ?_
  refine rn_rt (by with_unfolding_all rfl) trivial rfl (wd_cong3 (al21 rfl rfl rfl rfl rfl rfl rfl rfl rfl rfl rfl rfl rfl rfl rfl rfl rfl rfl rfl rfl rfl))
set_option maxRecDepth 10000 in
theorem xh_become_4_0 (hb : g 11 = 0 ∨ g 11 = 1) : am_ev 1 38 [.ref 27, .ref 5] (wd g T A gm Am) none (wd (upd g 15 (g 11)) (tu T 4 (T 0)) A gm Am) := by
  refine rn_ev am_m_X3_become rfl rfl ?_
  refine rn_go 80 (by with_unfolding_all rfl) ?_
  refine rn_ck (by with_unfolding_all rfl) hb ?_
  refine rn_hp (by with_unfolding_all exact ((rfl : _ = wd (upd g 15 (g 11)) T A gm Am))) ?_
  refine rn_to 16 80 (by with_unfolding_all rfl) ?_
  refine rn_hp (by with_unfolding_all exact (wf_4_2)) ?_
  refine rn_to 24 80 (by with_unfolding_all rfl) ?_
  refine rn_hp (by with_unfolding_all exact (wf_4_0)) ?_
  rw [tu_tu, tu_s, tu_n (show (0 : Nat) ≠ 4 by decide)]
  refine rn_to 32 80 (by with_unfolding_all rfl) ?_
  refine rn_hp (by with_unfolding_all exact (wf_4_1)) ?_
  rw [tu_tu, tu_s, tu_n (show (0 : Nat) ≠ 4 by decide)]
  refine rn_to 40 80 (by with_unfolding_all rfl) ?_
  refine rn_hp (by with_unfolding_all exact (wf_4_3)) ?_
  rw [tu_tu, tu_s, tu_n (show (0 : Nat) ≠ 4 by decide)]
  refine rn_to 48 80 (by with_unfolding_all rfl) ?_
  refine rn_hp (by with_unfolding_all exact (wf_4_4)) ?_
  rw [tu_tu, tu_s, tu_n (show (0 : Nat) ≠ 4 by decide)]
  refine rn_go 80 (by with_unfolding_all rfl) ?_
  refine rn_br (by with_unfolding_all rfl) (fun c => ?_) (fun c => ?_)
  · exact absurd c (by decide)
  refine rn_go 80 (by with_unfolding_all rfl) ?_
  refine rn_ld (0) (by with_unfolding_all rfl) (by decide) (by decide) (by decide) ?_
  rw [tu_n (show (0 : Nat) ≠ 4 by decide)]
  refine rn_go 80 (by with_unfolding_all rfl) ?_
  refine rn_st (0) (by with_unfolding_all rfl) (by decide) (by decide) (by decide) ?_
  refine rn_hp (by with_unfolding_all exact (ww_4_5 (k := 0) (by decide))) ?_
  rw [tu_tu, tu_s]
  refine rn_go 80 (by with_unfolding_all rfl) ?_
  refine rn_br (by with_unfolding_all rfl) (fun c => ?_) (fun c => ?_)
  · exact absurd c (by decide)
  refine rn_go 80 (by with_unfolding_all rfl) ?_
  refine rn_ld (1) (by with_unfolding_all rfl) (by decide) (by decide) (by decide) ?_
  rw [tu_n (show (0 : Nat) ≠ 4 by decide)]
  refine rn_go 80 (by with_unfolding_all rfl) ?_
  refine rn_st (1) (by with_unfolding_all rfl) (by decide) (by decide) (by decide) ?_
  refine rn_hp (by with_unfolding_all exact (ww_4_5 (k := 1) (by decide))) ?_
  rw [tu_tu, tu_s]
  refine rn_go 80 (by with_unfolding_all rfl) ?_
  refine rn_br (by with_unfolding_all rfl) (fun c => ?_) (fun c => ?_)
  · exact absurd c (by decide)
  refine rn_go 80 (by with_unfolding_all rfl) ?_
  refine rn_ld (2) (by with_unfolding_all rfl) (by decide) (by decide) (by decide) ?_
  rw [tu_n (show (0 : Nat) ≠ 4 by decide)]
  refine rn_go 80 (by with_unfolding_all rfl) ?_
  refine rn_st (2) (by with_unfolding_all rfl) (by decide) (by decide) (by decide) ?_
  refine rn_hp (by with_unfolding_all exact (ww_4_5 (k := 2) (by decide))) ?_
  rw [tu_tu, tu_s]
  refine rn_go 80 (by with_unfolding_all rfl) ?_
  refine rn_br (by with_unfolding_all rfl) (fun c => ?_) (fun c => ?_)
  · exact absurd c (by decide)
  refine rn_go 80 (by with_unfolding_all rfl) ?_
  refine rn_ld (3) (by with_unfolding_all rfl) (by decide) (by decide) (by decide) ?_
  rw [tu_n (show (0 : Nat) ≠ 4 by decide)]
  refine rn_go 80 (by with_unfolding_all rfl) ?_
  refine rn_st (3) (by with_unfolding_all rfl) (by decide) (by decide) (by decide) ?_
  refine rn_hp (by with_unfolding_all exact (ww_4_5 (k := 3) (by decide))) ?_
  rw [tu_tu, tu_s]
  refine rn_go 80 (by with_unfolding_all rfl) ?_
  refine rn_br (by with_unfolding_all rfl) (fun c => ?_) (fun c => absurd (by decide) c)
  refine rn_go 80 (by with_unfolding_all rfl) ?_
  refine rn_br (by with_unfolding_all rfl) (fun c => ?_) (fun c => ?_)
  · exact absurd c (by decide)
  refine rn_go 80 (by with_unfolding_all rfl) ?_
  refine rn_ld (0) (by with_unfolding_all rfl) (by decide) (by decide) (by decide) ?_
  rw [tu_n (show (0 : Nat) ≠ 4 by decide)]
  refine rn_go 80 (by with_unfolding_all rfl) ?_
  refine rn_st (0) (by with_unfolding_all rfl) (by decide) (by decide) (by decide) ?_
  refine rn_hp (by with_unfolding_all exact (ww_4_9 (k := 0) (by decide))) ?_
  rw [tu_tu, tu_s]
  refine rn_go 80 (by with_unfolding_all rfl) ?_
  refine rn_ld (0) (by with_unfolding_all rfl) (by decide) (by decide) (by decide) ?_
  rw [tu_n (show (0 : Nat) ≠ 4 by decide)]
  refine rn_go 80 (by with_unfolding_all rfl) ?_
  refine rn_st (0) (by with_unfolding_all rfl) (by decide) (by decide) (by decide) ?_
  refine rn_hp (by with_unfolding_all exact (ww_4_13 (k := 0) (by decide))) ?_
  rw [tu_tu, tu_s]
  refine rn_go 80 (by with_unfolding_all rfl) ?_
  refine rn_ld (0) (by with_unfolding_all rfl) (by decide) (by decide) (by decide) ?_
  rw [tu_n (show (0 : Nat) ≠ 4 by decide)]
  refine rn_go 80 (by with_unfolding_all rfl) ?_
  refine rn_st (0) (by with_unfolding_all rfl) (by decide) (by decide) (by decide) ?_
  refine rn_hp (by with_unfolding_all exact (ww_4_17 (k := 0) (by decide))) ?_
  rw [tu_tu, tu_s]
  refine rn_go 80 (by with_unfolding_all rfl) ?_
  refine rn_br (by with_unfolding_all rfl) (fun c => ?_) (fun c => ?_)
  · exact absurd c (by decide)
  refine rn_go 80 (by with_unfolding_all rfl) ?_
  refine rn_ld (1) (by with_unfolding_all rfl) (by decide) (by decide) (by decide) ?_
  rw [tu_n (show (0 : Nat) ≠ 4 by decide)]
  refine rn_go 80 (by with_unfolding_all rfl) ?_
  refine rn_st (1) (by with_unfolding_all rfl) (by decide) (by decide) (by decide) ?_
  refine rn_hp (by with_unfolding_all exact (ww_4_9 (k := 1) (by decide))) ?_
  rw [tu_tu, tu_s]
  refine rn_go 80 (by with_unfolding_all rfl) ?_
  refine rn_ld (1) (by with_unfolding_all rfl) (by decide) (by decide) (by decide) ?_
  rw [tu_n (show (0 : Nat) ≠ 4 by decide)]
  refine rn_go 80 (by with_unfolding_all rfl) ?_
  refine rn_st (1) (by with_unfolding_all rfl) (by decide) (by decide) (by decide) ?_
  refine rn_hp (by with_unfolding_all exact (ww_4_13 (k := 1) (by decide))) ?_
  rw [tu_tu, tu_s]
  refine rn_go 80 (by with_unfolding_all rfl) ?_
  refine rn_ld (1) (by with_unfolding_all rfl) (by decide) (by decide) (by decide) ?_
  rw [tu_n (show (0 : Nat) ≠ 4 by decide)]
  refine rn_go 80 (by with_unfolding_all rfl) ?_
  refine rn_st (1) (by with_unfolding_all rfl) (by decide) (by decide) (by decide) ?_
  refine rn_hp (by with_unfolding_all exact (ww_4_17 (k := 1) (by decide))) ?_
  rw [tu_tu, tu_s]
  refine rn_go 80 (by with_unfolding_all rfl) ?_
  refine rn_br (by with_unfolding_all rfl) (fun c => ?_) (fun c => ?_)
  · exact absurd c (by decide)
  refine rn_go 80 (by with_unfolding_all rfl) ?_
  refine rn_ld (2) (by with_unfolding_all rfl) (by decide) (by decide) (by decide) ?_
  rw [tu_n (show (0 : Nat) ≠ 4 by decide)]
  refine rn_go 80 (by with_unfolding_all rfl) ?_
  refine rn_st (2) (by with_unfolding_all rfl) (by decide) (by decide) (by decide) ?_
  refine rn_hp (by with_unfolding_all exact (ww_4_9 (k := 2) (by decide))) ?_
  rw [tu_tu, tu_s]
  refine rn_go 80 (by with_unfolding_all rfl) ?_
  refine rn_ld (2) (by with_unfolding_all rfl) (by decide) (by decide) (by decide) ?_
  rw [tu_n (show (0 : Nat) ≠ 4 by decide)]
  refine rn_go 80 (by with_unfolding_all rfl) ?_
  refine rn_st (2) (by with_unfolding_all rfl) (by decide) (by decide) (by decide) ?_
  refine rn_hp (by with_unfolding_all exact (ww_4_13 (k := 2) (by decide))) ?_
  rw [tu_tu, tu_s]
  refine rn_go 80 (by with_unfolding_all rfl) ?_
  refine rn_ld (2) (by with_unfolding_all rfl) (by decide) (by decide) (by decide) ?_
  rw [tu_n (show (0 : Nat) ≠ 4 by decide)]
  refine rn_go 80 (by with_unfolding_all rfl) ?_
  refine rn_st (2) (by with_unfolding_all rfl) (by decide) (by decide) (by decide) ?_
  refine rn_hp (by with_unfolding_all exact (ww_4_17 (k := 2) (by decide))) ?_
  rw [tu_tu, tu_s]
  refine rn_go 80 (by with_unfolding_all rfl) ?_
  refine rn_br (by with_unfolding_all rfl) (fun c => ?_) (fun c => ?_)
  · exact absurd c (by decide)
  refine rn_go 80 (by with_unfolding_all rfl) ?_
  refine rn_ld (3) (by with_unfolding_all rfl) (by decide) (by decide) (by decide) ?_
  rw [tu_n (show (0 : Nat) ≠ 4 by decide)]
  refine rn_go 80 (by with_unfolding_all rfl) ?_
  refine rn_st (3) (by with_unfolding_all rfl) (by decide) (by decide) (by decide) ?_
  refine rn_hp (by with_unfolding_all exact (ww_4_9 (k := 3) (by decide))) ?_
  rw [tu_tu, tu_s]
  refine rn_go 80 (by with_unfolding_all rfl) ?_
  refine rn_ld (3) (by with_unfolding_all rfl) (by decide) (by decide) (by decide) ?_
  rw [tu_n (show (0 : Nat) ≠ 4 by decide)]
  refine rn_go 80 (by with_unfolding_all rfl) ?_
  refine rn_st (3) (by with_unfolding_all rfl) (by decide) (by decide) (by decide) ?_
  refine rn_hp (by with_unfolding_all exact (ww_4_13 (k := 3) (by decide))) ?_
  rw [tu_tu, tu_s]
  refine rn_go 80 (by with_unfolding_all rfl) ?_
  refine rn_ld (3) (by with_unfolding_all rfl) (by decide) (by decide) (by decide) ?_
  rw [tu_n (show (0 : Nat) ≠ 4 by decide)]
  refine rn_go 80 (by with_unfolding_all rfl) ?_
  refine rn_st (3) (by with_unfolding_all rfl) (by decide) (by decide) (by decide) ?_
  refine rn_hp (by with_unfolding_all exact (ww_4_17 (k := 3) (by decide))) ?_
  rw [tu_tu, tu_s]
  refine rn_go 80 (by with_unfolding_all rfl) ?_
  refine rn_br (by with_unfolding_all rfl) (fun c => ?_) (fun c => absurd (by decide) c)
  refine rn_go 80 (by with_unfolding_all rfl) ?_
  refine rn_rt (by with_unfolding_all rfl) trivial rfl (wd_cong4 (al21 rfl rfl rfl rfl rfl rfl rfl rfl rfl rfl rfl rfl rfl rfl rfl rfl rfl rfl rfl rfl rfl))
set_option maxRecDepth 10000 in
theorem xh_become_0_3 (hb : g 14 = 0 ∨ g 14 = 1) : am_ev 1 38 [.ref 5, .ref 22] (wd g T A gm Am) none (wd (upd g 11 (g 14)) (tu T 0 (T 3)) A gm Am) := by
  refine rn_ev am_m_X3_become rfl rfl ?_
  refine rn_go 80 (by with_unfolding_all rfl) ?_
  refine rn_ck (by with_unfolding_all rfl) hb ?_
  refine rn_hp (by with_unfolding_all exact ((rfl : _ = wd (upd g 11 (g 14)) T A gm Am))) ?_
  refine rn_to 16 80 (by with_unfolding_all rfl) ?_
  refine rn_hp (by with_unfolding_all exact (wf_0_2)) ?_
  refine rn_to 24 80 (by with_unfolding_all rfl) ?_
  refine rn_hp (by with_unfolding_all exact (wf_0_0)) ?_
  rw [tu_tu, tu_s, tu_n (show (3 : Nat) ≠ 0 by decide)]
  refine rn_to 32 80 (by with_unfolding_all rfl) ?_
  refine rn_hp (by with_unfolding_all exact (wf_0_1)) ?_
  rw [tu_tu, tu_s, tu_n (show (3 : Nat) ≠ 0 by decide)]
  refine rn_to 40 80 (by with_unfolding_all rfl) ?_
  refine rn_hp (by with_unfolding_all exact (wf_0_3)) ?_
  rw [tu_tu, tu_s, tu_n (show (3 : Nat) ≠ 0 by decide)]
  refine rn_to 48 80 (by with_unfolding_all rfl) ?_
  refine rn_hp (by with_unfolding_all exact (wf_0_4)) ?_
  rw [tu_tu, tu_s, tu_n (show (3 : Nat) ≠ 0 by decide)]
  refine rn_go 80 (by with_unfolding_all rfl) ?_
  refine rn_br (by with_unfolding_all rfl) (fun c => ?_) (fun c => ?_)
  · exact absurd c (by decide)
  refine rn_go 80 (by with_unfolding_all rfl) ?_
  refine rn_ld (0) (by with_unfolding_all rfl) (by decide) (by decide) (by decide) ?_
  rw [tu_n (show (3 : Nat) ≠ 0 by decide)]
  refine rn_go 80 (by with_unfolding_all rfl) ?_
  refine rn_st (0) (by with_unfolding_all rfl) (by decide) (by decide) (by decide) ?_
  refine rn_hp (by with_unfolding_all exact (ww_0_5 (k := 0) (by decide))) ?_
  rw [tu_tu, tu_s]
  refine rn_go 80 (by with_unfolding_all rfl) ?_
  refine rn_br (by with_unfolding_all rfl) (fun c => ?_) (fun c => ?_)
  · exact absurd c (by decide)
  refine rn_go 80 (by with_unfolding_all rfl) ?_
  refine rn_ld (1) (by with_unfolding_all rfl) (by decide) (by decide) (by decide) ?_
  rw [tu_n (show (3 : Nat) ≠ 0 by decide)]
  refine rn_go 80 (by with_unfolding_all rfl) ?_
  refine rn_st (1) (by with_unfolding_all rfl) (by decide) (by decide) (by decide) ?_
  refine rn_hp (by with_unfolding_all exact (ww_0_5 (k := 1) (by decide))) ?_
  rw [tu_tu, tu_s]
  refine rn_go 80 (by with_unfolding_all rfl) ?_
  refine rn_br (by with_unfolding_all rfl) (fun c => ?_) (fun c => ?_)
  · exact absurd c (by decide)
  refine rn_go 80 (by with_unfolding_all rfl) ?_
  refine rn_ld (2) (by with_unfolding_all rfl) (by decide) (by decide) (by decide) ?_
  rw [tu_n (show (3 : Nat) ≠ 0 by decide)]
  refine rn_go 80 (by with_unfolding_all rfl) ?_
  refine rn_st (2) (by with_unfolding_all rfl) (by decide) (by decide) (by decide) ?_
  refine rn_hp (by with_unfolding_all exact (ww_0_5 (k := 2) (by decide))) ?_
  rw [tu_tu, tu_s]
  refine rn_go 80 (by with_unfolding_all rfl) ?_
  refine rn_br (by with_unfolding_all rfl) (fun c => ?_) (fun c => ?_)
  · exact absurd c (by decide)
  refine rn_go 80 (by with_unfolding_all rfl) ?_
  refine rn_ld (3) (by with_unfolding_all rfl) (by decide) (by decide) (by decide) ?_
  rw [tu_n (show (3 : Nat) ≠ 0 by decide)]
  refine rn_go 80 (by with_unfolding_all rfl) ?_
  refine rn_st (3) (by with_unfolding_all rfl) (by decide) (by decide) (by decide) ?_
  refine rn_hp (by with_unfolding_all exact (ww_0_5 (k := 3) (by decide))) ?_
  rw [tu_tu, tu_s]
  refine rn_go 80 (by with_unfolding_all rfl) ?_
  refine rn_br (by with_unfolding_all rfl) (fun c => ?_) (fun c => absurd (by decide) c)
  refine rn_go 80 (by with_unfolding_all rfl) ?_
  refine rn_br (by with_unfolding_all rfl) (fun c => ?_) (fun c => ?_)
  · exact absurd c (by decide)
  refine rn_go 80 (by with_unfolding_all rfl) ?_
  refine rn_ld (0) (by with_unfolding_all rfl) (by decide) (by decide) (by decide) ?_
  rw [tu_n (show (3 : Nat) ≠ 0 by decide)]
  refine rn_go 80 (by with_unfolding_all rfl) ?_
  refine rn_st (0) (by with_unfolding_all rfl) (by decide) (by decide) (by decide) ?_
  refine rn_hp (by with_unfolding_all exact (ww_0_9 (k := 0) (by decide))) ?_
  rw [tu_tu, tu_s]
  refine rn_go 80 (by with_unfolding_all rfl) ?_
  refine rn_ld (0) (by with_unfolding_all rfl) (by decide) (by decide) (by decide) ?_
  rw [tu_n (show (3 : Nat) ≠ 0 by decide)]
  refine rn_go 80 (by with_unfolding_all rfl) ?_
  refine rn_st (0) (by with_unfolding_all rfl) (by decide) (by decide) (by decide) ?_
  refine rn_hp (by with_unfolding_all exact (ww_0_13 (k := 0) (by decide))) ?_
  rw [tu_tu, tu_s]
  refine rn_go 80 (by with_unfolding_all rfl) ?_
  refine rn_ld (0) (by with_unfolding_all rfl) (by decide) (by decide) (by decide) ?_
  rw [tu_n (show (3 : Nat) ≠ 0 by decide)]
  refine rn_go 80 (by with_unfolding_all rfl) ?_
  refine rn_st (0) (by with_unfolding_all rfl) (by decide) (by decide) (by decide) ?_
  refine rn_hp (by with_unfolding_all exact (ww_0_17 (k := 0) (by decide))) ?_
  rw [tu_tu, tu_s]
  refine rn_go 80 (by with_unfolding_all rfl) ?_
  refine rn_br (by with_unfolding_all rfl) (fun c => ?_) (fun c => ?_)
  · exact absurd c (by decide)
  refine rn_go 80 (by with_unfolding_all rfl) ?_
  refine rn_ld (1) (by with_unfolding_all rfl) (by decide) (by decide) (by decide) ?_
  rw [tu_n (show (3 : Nat) ≠ 0 by decide)]
  refine rn_go 80 (by with_unfolding_all rfl) ?_
  refine rn_st (1) (by with_unfolding_all rfl) (by decide) (by decide) (by decide) ?_
  refine rn_hp (by with_unfolding_all exact (ww_0_9 (k := 1) (by decide))) ?_
  rw [tu_tu, tu_s]
  refine rn_go 80 (by with_unfolding_all rfl) ?_
  refine rn_ld (1) (by with_unfolding_all rfl) (by decide) (by decide) (by decide) ?_
  rw [tu_n (show (3 : Nat) ≠ 0 by decide)]
  refine rn_go 80 (by with_unfolding_all rfl) ?_
  refine rn_st (1) (by with_unfolding_all rfl) (by decide) (by decide) (by decide) ?_
  refine rn_hp (by with_unfolding_all exact (ww_0_13 (k := 1) (by decide))) ?_
  rw [tu_tu, tu_s]
  refine rn_go 80 (by with_unfolding_all rfl) ?_
  refine rn_ld (1) (by with_unfolding_all rfl) (by decide) (by decide) (by decide) ?_
  rw [tu_n (show (3 : Nat) ≠ 0 by decide)]
  refine rn_go 80 (by with_unfolding_all rfl) ?_
  refine rn_st (1) (by with_unfolding_all rfl) (by decide) (by decide) (by decide) ?_
  refine rn_hp (by with_unfolding_all exact (ww_0_17 (k := 1) (by decide))) ?_
  rw [tu_tu, tu_s]
  refine rn_go 80 (by with_unfolding_all rfl) ?_
  refine rn_br (by with_unfolding_all rfl) (fun c => ?_) (fun c => ?_)
  · exact absurd c (by decide)
  refine rn_go 80 (by with_unfolding_all rfl) ?_
  refine rn_ld (2) (by with_unfolding_all rfl) (by decide) (by decide) (by decide) ?_
  rw [tu_n (show (3 : Nat) ≠ 0 by decide)]
  refine rn_go 80 (by with_unfolding_all rfl) ?_
  refine rn_st (2) (by with_unfolding_all rfl) (by decide) (by decide) (by decide) ?_
  refine rn_hp (by with_unfolding_all exact (ww_0_9 (k := 2) (by decide))) ?_
  rw [tu_tu, tu_s]
  refine rn_go 80 (by with_unfolding_all rfl) ?_
  refine rn_ld (2) (by with_unfolding_all rfl) (by decide) (by decide) (by decide) ?_
  rw [tu_n (show (3 : Nat) ≠ 0 by decide)]
  refine rn_go 80 (by with_unfolding_all rfl) ?_
  refine rn_st (2) (by with_unfolding_all rfl) (by decide) (by decide) (by decide) ?_
  refine rn_hp (by with_unfolding_all exact (ww_0_13 (k := 2) (by decide))) ?_
  rw [tu_tu, tu_s]
  refine rn_go 80 (by with_unfolding_all rfl) ?_
  refine rn_ld (2) (by with_unfolding_all rfl) (by decide) (by decide) (by decide) ?_
  rw [tu_n (show (3 : Nat) ≠ 0 by decide)]
  refine rn_go 80 (by with_unfolding_all rfl) ?_
  refine rn_st (2) (by with_unfolding_all rfl) (by decide) (by decide) (by decide) ?_
  refine rn_hp (by with_unfolding_all exact (ww_0_17 (k := 2) (by decide))) ?_
  rw [tu_tu, tu_s]
  refine rn_go 80 (by with_unfolding_all rfl) ?_
  refine rn_br (by with_unfolding_all rfl) (fun c => ?_) (fun c => ?_)
  · exact absurd c (by decide)
  refine rn_go 80 (by with_unfolding_all rfl) ?_
  refine rn_ld (3) (by with_unfolding_all rfl) (by decide) (by decide) (by decide) ?_
  rw [tu_n (show (3 : Nat) ≠ 0 by decide)]
  refine rn_go 80 (by with_unfolding_all rfl) ?_
  refine rn_st (3) (by with_unfolding_all rfl) (by decide) (by decide) (by decide) ?_
  refine rn_hp (by with_unfolding_all exact (ww_0_9 (k := 3) (by decide))) ?_
  rw [tu_tu, tu_s]
  refine rn_go 80 (by with_unfolding_all rfl) ?_
  refine rn_ld (3) (by with_unfolding_all rfl) (by decide) (by decide) (by decide) ?_
  rw [tu_n (show (3 : Nat) ≠ 0 by decide)]
  refine rn_go 80 (by with_unfolding_all rfl) ?_
  refine rn_st (3) (by with_unfolding_all rfl) (by decide) (by decide) (by decide) ?_
  refine rn_hp (by with_unfolding_all exact (ww_0_13 (k := 3) (by decide))) ?_
  rw [tu_tu, tu_s]
  refine rn_go 80 (by with_unfolding_all rfl) ?_
  refine rn_ld (3) (by with_unfolding_all rfl) (by decide) (by decide) (by decide) ?_
  rw [tu_n (show (3 : Nat) ≠ 0 by decide)]
  refine rn_go 80 (by with_unfolding_all rfl) ?_
  refine rn_st (3) (by with_unfolding_all rfl) (by decide) (by decide) (by decide) ?_
  refine rn_hp (by with_unfolding_all exact (ww_0_17 (k := 3) (by decide))) ?_
  rw [tu_tu, tu_s]
  refine rn_go 80 (by with_unfolding_all rfl) ?_
  refine rn_br (by with_unfolding_all rfl) (fun c => ?_) (fun c => absurd (by decide) c)
  refine rn_go 80 (by with_unfolding_all rfl) ?_
  refine rn_rt (by with_unfolding_all rfl) trivial rfl (wd_cong0 (al21 rfl rfl rfl rfl rfl rfl rfl rfl rfl rfl rfl rfl rfl rfl rfl rfl rfl rfl rfl rfl rfl))
set_option maxRecDepth 10000 in
theorem xh_become_0_4 (hb : g 15 = 0 ∨ g 15 = 1) : am_ev 1 38 [.ref 5, .ref 27] (wd g T A gm Am) none (wd (upd g 11 (g 15)) (tu T 0 (T 4)) A gm Am) := by
  refine rn_ev am_m_X3_become rfl rfl ?_
  refine rn_go 80 (by with_unfolding_all rfl) ?_
  refine rn_ck (by with_unfolding_all rfl) hb ?_
  refine rn_hp (by with_unfolding_all exact ((rfl : _ = wd (upd g 11 (g 15)) T A gm Am))) ?_
  refine rn_to 16 80 (by with_unfolding_all rfl) ?_
  refine rn_hp (by with_unfolding_all exact (wf_0_2)) ?_
  refine rn_to 24 80 (by with_unfolding_all rfl) ?_
  refine rn_hp (by with_unfolding_all exact (wf_0_0)) ?_
  rw [tu_tu, tu_s, tu_n (show (4 : Nat) ≠ 0 by decide)]
  refine rn_to 32 80 (by with_unfolding_all rfl) ?_
  refine rn_hp (by with_unfolding_all exact (wf_0_1)) ?_
  rw [tu_tu, tu_s, tu_n (show (4 : Nat) ≠ 0 by decide)]
  refine rn_to 40 80 (by with_unfolding_all rfl) ?_
  refine rn_hp (by with_unfolding_all exact (wf_0_3)) ?_
  rw [tu_tu, tu_s, tu_n (show (4 : Nat) ≠ 0 by decide)]
  refine rn_to 48 80 (by with_unfolding_all rfl) ?_
  refine rn_hp (by with_unfolding_all exact (wf_0_4)) ?_
  rw [tu_tu, tu_s, tu_n (show (4 : Nat) ≠ 0 by decide)]
  refine rn_go 80 (by with_unfolding_all rfl) ?_
  refine rn_br (by with_unfolding_all rfl) (fun c => ?_) (fun c => ?_)
  · exact absurd c (by decide)
  refine rn_go 80 (by with_unfolding_all rfl) ?_
  refine rn_ld (0) (by with_unfolding_all rfl) (by decide) (by decide) (by decide) ?_
  rw [tu_n (show (4 : Nat) ≠ 0 by decide)]
  refine rn_go 80 (by with_unfolding_all rfl) ?_
  refine rn_st (0) (by with_unfolding_all rfl) (by decide) (by decide) (by decide) ?_
  refine rn_hp (by with_unfolding_all exact (ww_0_5 (k := 0) (by decide))) ?_
  rw [tu_tu, tu_s]
  refine rn_go 80 (by with_unfolding_all rfl) ?_
  refine rn_br (by with_unfolding_all rfl) (fun c => ?_) (fun c => ?_)
  · exact absurd c (by decide)
  refine rn_go 80 (by with_unfolding_all rfl) ?_
  refine rn_ld (1) (by with_unfolding_all rfl) (by decide) (by decide) (by decide) ?_
  rw [tu_n (show (4 : Nat) ≠ 0 by decide)]
  refine rn_go 80 (by with_unfolding_all rfl) ?_
  refine rn_st (1) (by with_unfolding_all rfl) (by decide) (by decide) (by decide) ?_
  refine rn_hp (by with_unfolding_all exact (ww_0_5 (k := 1) (by decide))) ?_
  rw [tu_tu, tu_s]
  refine rn_go 80 (by with_unfolding_all rfl) ?_
  refine rn_br (by with_unfolding_all rfl) (fun c => ?_) (fun c => ?_)
  · exact absurd c (by decide)
  refine rn_go 80 (by with_unfolding_all rfl) ?_
  refine rn_ld (2) (by with_unfolding_all rfl) (by decide) (by decide) (by decide) ?_
  rw [tu_n (show (4 : Nat) ≠ 0 by decide)]
  refine rn_go 80 (by with_unfolding_all rfl) ?_
  refine rn_st (2) (by with_unfolding_all rfl) (by decide) (by decide) (by decide) ?_
  refine rn_hp (by with_unfolding_all exact (ww_0_5 (k := 2) (by decide))) ?_
  rw [tu_tu, tu_s]
  refine rn_go 80 (by with_unfolding_all rfl) ?_
  refine rn_br (by with_unfolding_all rfl) (fun c => ?_) (fun c => ?_)
  · exact absurd c (by decide)
  refine rn_go 80 (by with_unfolding_all rfl) ?_
  refine rn_ld (3) (by with_unfolding_all rfl) (by decide) (by decide) (by decide) ?_
  rw [tu_n (show (4 : Nat) ≠ 0 by decide)]
  refine rn_go 80 (by with_unfolding_all rfl) ?_
  refine rn_st (3) (by with_unfolding_all rfl) (by decide) (by decide) (by decide) ?_
  refine rn_hp (by with_unfolding_all exact (ww_0_5 (k := 3) (by decide))) ?_
  rw [tu_tu, tu_s]
  refine rn_go 80 (by with_unfolding_all rfl) ?_
  refine rn_br (by with_unfolding_all rfl) (fun c => ?_) (fun c => absurd (by decide) c)
  refine rn_go 80 (by with_unfolding_all rfl) ?_
  refine rn_br (by with_unfolding_all rfl) (fun c => ?_) (fun c => ?_)
  · exact absurd c (by decide)
  refine rn_go 80 (by with_unfolding_all rfl) ?_
  refine rn_ld (0) (by with_unfolding_all rfl) (by decide) (by decide) (by decide) ?_
  rw [tu_n (show (4 : Nat) ≠ 0 by decide)]
  refine rn_go 80 (by with_unfolding_all rfl) ?_
  refine rn_st (0) (by with_unfolding_all rfl) (by decide) (by decide) (by decide) ?_
  refine rn_hp (by with_unfolding_all exact (ww_0_9 (k := 0) (by decide))) ?_
  rw [tu_tu, tu_s]
  refine rn_go 80 (by with_unfolding_all rfl) ?_
  refine rn_ld (0) (by with_unfolding_all rfl) (by decide) (by decide) (by decide) ?_
  rw [tu_n (show (4 : Nat) ≠ 0 by decide)]
  refine rn_go 80 (by with_unfolding_all rfl) ?_
  refine rn_st (0) (by with_unfolding_all rfl) (by decide) (by decide) (by decide) ?_
  refine rn_hp (by with_unfolding_all exact (ww_0_13 (k := 0) (by decide))) ?_
  rw [tu_tu, tu_s]
  refine rn_go 80 (by with_unfolding_all rfl) ?_
  refine rn_ld (0) (by with_unfolding_all rfl) (by decide) (by decide) (by decide) ?_
  rw [tu_n (show (4 : Nat) ≠ 0 by decide)]
  refine rn_go 80 (by with_unfolding_all rfl) ?_
  refine rn_st (0) (by with_unfolding_all rfl) (by decide) (by decide) (by decide) ?_
  refine rn_hp (by with_unfolding_all exact (ww_0_17 (k := 0) (by decide))) ?_
  rw [tu_tu, tu_s]
  refine rn_go 80 (by with_unfolding_all rfl) ?_
  refine rn_br (by with_unfolding_all rfl) (fun c => ?_) (fun c => ?_)
  · exact absurd c (by decide)
  refine rn_go 80 (by with_unfolding_all rfl) ?_
  refine rn_ld (1) (by with_unfolding_all rfl) (by decide) (by decide) (by decide) ?_
  rw [tu_n (show (4 : Nat) ≠ 0 by decide)]
  refine rn_go 80 (by with_unfolding_all rfl) ?_
  refine rn_st (1) (by with_unfolding_all rfl) (by decide) (by decide) (by decide) ?_
  refine rn_hp (by with_unfolding_all exact (ww_0_9 (k := 1) (by decide))) ?_
  rw [tu_tu, tu_s]
  refine rn_go 80 (by with_unfolding_all rfl) ?_
  refine rn_ld (1) (by with_unfolding_all rfl) (by decide) (by decide) (by decide) ?_
  rw [tu_n (show (4 : Nat) ≠ 0 by decide)]
  refine rn_go 80 (by with_unfolding_all rfl) ?_
  refine rn_st (1) (by with_unfolding_all rfl) (by decide) (by decide) (by decide) ?_
  refine rn_hp (by with_unfolding_all exact (ww_0_13 (k := 1) (by decide))) ?_
  rw [tu_tu, tu_s]
  refine rn_go 80 (by with_unfolding_all rfl) ?_
  refine rn_ld (1) (by with_unfolding_all rfl) (by decide) (by decide) (by decide) ?_
  rw [tu_n (show (4 : Nat) ≠ 0 by decide)]
  refine rn_go 80 (by with_unfolding_all rfl) ?_
  refine rn_st (1) (by with_unfolding_all rfl) (by decide) (by decide) (by decide) ?_
  refine rn_hp (by with_unfolding_all exact (ww_0_17 (k := 1) (by decide))) ?_
  rw [tu_tu, tu_s]
  refine rn_go 80 (by with_unfolding_all rfl) ?_
  refine rn_br (by with_unfolding_all rfl) (fun c => ?_) (fun c => ?_)
  · exact absurd c (by decide)
  refine rn_go 80 (by with_unfolding_all rfl) ?_
  refine rn_ld (2) (by with_unfolding_all rfl) (by decide) (by decide) (by decide) ?_
  rw [tu_n (show (4 : Nat) ≠ 0 by decide)]
  refine rn_go 80 (by with_unfolding_all rfl) ?_
  refine rn_st (2) (by with_unfolding_all rfl) (by decide) (by decide) (by decide) ?_
  refine rn_hp (by with_unfolding_all exact (ww_0_9 (k := 2) (by decide))) ?_
  rw [tu_tu, tu_s]
  refine rn_go 80 (by with_unfolding_all rfl) ?_
  refine rn_ld (2) (by with_unfolding_all rfl) (by decide) (by decide) (by decide) ?_
  rw [tu_n (show (4 : Nat) ≠ 0 by decide)]
  refine rn_go 80 (by with_unfolding_all rfl) ?_
  refine rn_st (2) (by with_unfolding_all rfl) (by decide) (by decide) (by decide) ?_
  refine rn_hp (by with_unfolding_all exact (ww_0_13 (k := 2) (by decide))) ?_
  rw [tu_tu, tu_s]
  refine rn_go 80 (by with_unfolding_all rfl) ?_
  refine rn_ld (2) (by with_unfolding_all rfl) (by decide) (by decide) (by decide) ?_
  rw [tu_n (show (4 : Nat) ≠ 0 by decide)]
  refine rn_go 80 (by with_unfolding_all rfl) ?_
  refine rn_st (2) (by with_unfolding_all rfl) (by decide) (by decide) (by decide) ?_
  refine rn_hp (by with_unfolding_all exact (ww_0_17 (k := 2) (by decide))) ?_
  rw [tu_tu, tu_s]
  refine rn_go 80 (by with_unfolding_all rfl) ?_
  refine rn_br (by with_unfolding_all rfl) (fun c => ?_) (fun c => ?_)
  · exact absurd c (by decide)
  refine rn_go 80 (by with_unfolding_all rfl) ?_
  refine rn_ld (3) (by with_unfolding_all rfl) (by decide) (by decide) (by decide) ?_
  rw [tu_n (show (4 : Nat) ≠ 0 by decide)]
  refine rn_go 80 (by with_unfolding_all rfl) ?_
  refine rn_st (3) (by with_unfolding_all rfl) (by decide) (by decide) (by decide) ?_
  refine rn_hp (by with_unfolding_all exact (ww_0_9 (k := 3) (by decide))) ?_
  rw [tu_tu, tu_s]
  refine rn_go 80 (by with_unfolding_all rfl) ?_
  refine rn_ld (3) (by with_unfolding_all rfl) (by decide) (by decide) (by decide) ?_
  rw [tu_n (show (4 : Nat) ≠ 0 by decide)]
  refine rn_go 80 (by with_unfolding_all rfl) ?_
  refine rn_st (3) (by with_unfolding_all rfl) (by decide) (by decide) (by decide) ?_
  refine rn_hp (by with_unfolding_all exact (ww_0_13 (k := 3) (by decide))) ?_
  rw [tu_tu, tu_s]
  refine rn_go 80 (by with_unfolding_all rfl) ?_
  refine rn_ld (3) (by with_unfolding_all rfl) (by decide) (by decide) (by decide) ?_
  rw [tu_n (show (4 : Nat) ≠ 0 by decide)]
  refine rn_go 80 (by with_unfolding_all rfl) ?_
  refine rn_st (3) (by with_unfolding_all rfl) (by decide) (by decide) (by decide) ?_
  refine rn_hp (by with_unfolding_all exact (ww_0_17 (k := 3) (by decide))) ?_
  rw [tu_tu, tu_s]
  refine rn_go 80 (by with_unfolding_all rfl) ?_
  refine rn_br (by with_unfolding_all rfl) (fun c => ?_) (fun c => absurd (by decide) c)
  refine rn_go 80 (by with_unfolding_all rfl) ?_
  refine rn_rt (by with_unfolding_all rfl) trivial rfl (wd_cong0 (al21 rfl rfl rfl rfl rfl rfl rfl rfl rfl rfl rfl rfl rfl rfl rfl rfl rfl rfl rfl rfl rfl))
set_option maxRecDepth 10000 in
theorem xh_become_1_0 (hb : g 11 = 0 ∨ g 11 = 1) : am_ev 1 38 [.ref 10, .ref 5] (wd g T A gm Am) none (wd (upd g 12 (g 11)) (tu T 1 (T 0)) A gm Am) := by
  refine rn_ev am_m_X3_become rfl rfl ?_
  refine rn_go 80 (by with_unfolding_all rfl) ?_
  refine rn_ck (by with_unfolding_all rfl) hb ?_
  refine rn_hp (by with_unfolding_all exact ((rfl : _ = wd (upd g 12 (g 11)) T A gm Am))) ?_
  refine rn_to 16 80 (by with_unfolding_all rfl) ?_
  refine rn_hp (by with_unfolding_all exact (wf_1_2)) ?_
  refine rn_to 24 80 (by with_unfolding_all rfl) ?_
  refine rn_hp (by with_unfolding_all exact (wf_1_0)) ?_
  rw [tu_tu, tu_s, tu_n (show (0 : Nat) ≠ 1 by decide)]
  refine rn_to 32 80 (by with_unfolding_all rfl) ?_
  refine rn_hp (by with_unfolding_all exact (wf_1_1)) ?_
  rw [tu_tu, tu_s, tu_n (show (0 : Nat) ≠ 1 by decide)]
  refine rn_to 40 80 (by with_unfolding_all rfl) ?_
  refine rn_hp (by with_unfolding_all exact (wf_1_3)) ?_
  rw [tu_tu, tu_s, tu_n (show (0 : Nat) ≠ 1 by decide)]
  refine rn_to 48 80 (by with_unfolding_all rfl) ?_
  refine rn_hp (by with_unfolding_all exact (wf_1_4)) ?_
  rw [tu_tu, tu_s, tu_n (show (0 : Nat) ≠ 1 by decide)]
  refine rn_go 80 (by with_unfolding_all rfl) ?_
  refine rn_br (by with_unfolding_all rfl) (fun c => ?_) (fun c => ?_)
  · exact absurd c (by decide)
  refine rn_go 80 (by with_unfolding_all rfl) ?_
  refine rn_ld (0) (by with_unfolding_all rfl) (by decide) (by decide) (by decide) ?_
  rw [tu_n (show (0 : Nat) ≠ 1 by decide)]
  refine rn_go 80 (by with_unfolding_all rfl) ?_
  refine rn_st (0) (by with_unfolding_all rfl) (by decide) (by decide) (by decide) ?_
  refine rn_hp (by with_unfolding_all exact (ww_1_5 (k := 0) (by decide))) ?_
  rw [tu_tu, tu_s]
  refine rn_go 80 (by with_unfolding_all rfl) ?_
  refine rn_br (by with_unfolding_all rfl) (fun c => ?_) (fun c => ?_)
  · exact absurd c (by decide)
  refine rn_go 80 (by with_unfolding_all rfl) ?_
  refine rn_ld (1) (by with_unfolding_all rfl) (by decide) (by decide) (by decide) ?_
  rw [tu_n (show (0 : Nat) ≠ 1 by decide)]
  refine rn_go 80 (by with_unfolding_all rfl) ?_
  refine rn_st (1) (by with_unfolding_all rfl) (by decide) (by decide) (by decide) ?_
  refine rn_hp (by with_unfolding_all exact (ww_1_5 (k := 1) (by decide))) ?_
  rw [tu_tu, tu_s]
  refine rn_go 80 (by with_unfolding_all rfl) ?_
  refine rn_br (by with_unfolding_all rfl) (fun c => ?_) (fun c => ?_)
  · exact absurd c (by decide)
  refine rn_go 80 (by with_unfolding_all rfl) ?_
  refine rn_ld (2) (by with_unfolding_all rfl) (by decide) (by decide) (by decide) ?_
  rw [tu_n (show (0 : Nat) ≠ 1 by decide)]
  refine rn_go 80 (by with_unfolding_all rfl) ?_
  refine rn_st (2) (by with_unfolding_all rfl) (by decide) (by decide) (by decide) ?_
  refine rn_hp (by with_unfolding_all exact (ww_1_5 (k := 2) (by decide))) ?_
  rw [tu_tu, tu_s]
  refine rn_go 80 (by with_unfolding_all rfl) ?_
  refine rn_br (by with_unfolding_all rfl) (fun c => ?_) (fun c => ?_)
  · exact absurd c (by decide)
  refine rn_go 80 (by with_unfolding_all rfl) ?_
  refine rn_ld (3) (by with_unfolding_all rfl) (by decide) (by decide) (by decide) ?_
  rw [tu_n (show (0 : Nat) ≠ 1 by decide)]
  refine rn_go 80 (by with_unfolding_all rfl) ?_
  refine rn_st (3) (by with_unfolding_all rfl) (by decide) (by decide) (by decide) ?_
  refine rn_hp (by with_unfolding_all exact (ww_1_5 (k := 3) (by decide))) ?_
  rw [tu_tu, tu_s]
  refine rn_go 80 (by with_unfolding_all rfl) ?_
  refine rn_br (by with_unfolding_all rfl) (fun c => ?_) (fun c => absurd (by decide) c)
  refine rn_go 80 (by with_unfolding_all rfl) ?_
  refine rn_br (by with_unfolding_all rfl) (fun c => ?_) (fun c => ?_)
  · exact absurd c (by decide)
  refine rn_go 80 (by with_unfolding_all rfl) ?_
  refine rn_ld (0) (by with_unfolding_all rfl) (by decide) (by decide) (by decide) ?_
  rw [tu_n (show (0 : Nat) ≠ 1 by decide)]
  refine rn_go 80 (by with_unfolding_all rfl) ?_
  refine rn_st (0) (by with_unfolding_all rfl) (by decide) (by decide) (by decide) ?_
  refine rn_hp (by with_unfolding_all exact (ww_1_9 (k := 0) (by decide))) ?_
  rw [tu_tu, tu_s]
  refine rn_go 80 (by with_unfolding_all rfl) ?_
  refine rn_ld (0) (by with_unfolding_all rfl) (by decide) (by decide) (by decide) ?_
  rw [tu_n (show (0 : Nat) ≠ 1 by decide)]
  refine rn_go 80 (by with_unfolding_all rfl) ?_
  refine rn_st (0) (by with_unfolding_all rfl) (by decide) (by decide) (by decide) ?_
  refine rn_hp (by with_unfolding_all exact (ww_1_13 (k := 0) (by decide))) ?_
  rw [tu_tu, tu_s]
  refine rn_go 80 (by with_unfolding_all rfl) ?_
  refine rn_ld (0) (by with_unfolding_all rfl) (by decide) (by decide) (by decide) ?_
  rw [tu_n (show (0 : Nat) ≠ 1 by decide)]
  refine rn_go 80 (by with_unfolding_all rfl) ?_
  refine rn_st (0) (by with_unfolding_all rfl) (by decide) (by decide) (by decide) ?_
  refine rn_hp (by with_unfolding_all exact (ww_1_17 (k := 0) (by decide))) ?_
  rw [tu_tu, tu_s]
  refine rn_go 80 (by with_unfolding_all rfl) ?_
  refine rn_br (by with_unfolding_all rfl) (fun c => ?_) (fun c => ?_)
  · exact absurd c (by decide)
  refine rn_go 80 (by with_unfolding_all rfl) ?_
  refine rn_ld (1) (by with_unfolding_all rfl) (by decide) (by decide) (by decide) ?_
  rw [tu_n (show (0 : Nat) ≠ 1 by decide)]
  refine rn_go 80 (by with_unfolding_all rfl) ?_
  refine rn_st (1) (by with_unfolding_all rfl) (by decide) (by decide) (by decide) ?_
  refine rn_hp (by with_unfolding_all exact (ww_1_9 (k := 1) (by decide))) ?_
  rw [tu_tu, tu_s]
  refine rn_go 80 (by with_unfolding_all rfl) ?_
  refine rn_ld (1) (by with_unfolding_all rfl) (by decide) (by decide) (by decide) ?_
  rw [tu_n (show (0 : Nat) ≠ 1 by decide)]
  refine rn_go 80 (by with_unfolding_all rfl) ?_
  refine rn_st (1) (by with_unfolding_all rfl) (by decide) (by decide) (by decide) ?_
  refine rn_hp (by with_unfolding_all exact (ww_1_13 (k := 1) (by decide))) ?_
  rw [tu_tu, tu_s]
  refine rn_go 80 (by with_unfolding_all rfl) ?_
  refine rn_ld (1) (by with_unfolding_all rfl) (by decide) (by decide) (by decide) ?_
  rw [tu_n (show (0 : Nat) ≠ 1 by decide)]
  refine rn_go 80 (by with_unfolding_all rfl) ?_
  refine rn_st (1) (by with_unfolding_all rfl) (by decide) (by decide) (by decide) ?_
  refine rn_hp (by with_unfolding_all exact (ww_1_17 (k := 1) (by decide))) ?_
  rw [tu_tu, tu_s]
  refine rn_go 80 (by with_unfolding_all rfl) ?_
  refine rn_br (by with_unfolding_all rfl) (fun c => ?_) (fun c => ?_)
  · exact absurd c (by decide)
  refine rn_go 80 (by with_unfolding_all rfl) ?_
  refine rn_ld (2) (by with_unfolding_all rfl) (by decide) (by decide) (by decide) ?_
  rw [tu_n (show (0 : Nat) ≠ 1 by decide)]
  refine rn_go 80 (by with_unfolding_all rfl) ?_
  refine rn_st (2) (by with_unfolding_all rfl) (by decide) (by decide) (by decide) ?_
  refine rn_hp (by with_unfolding_all exact (ww_1_9 (k := 2) (by decide))) ?_
  rw [tu_tu, tu_s]
  refine rn_go 80 (by with_unfolding_all rfl) ?_
  refine rn_ld (2) (by with_unfolding_all rfl) (by decide) (by decide) (by decide) ?_
  rw [tu_n (show (0 : Nat) ≠ 1 by decide)]
  refine rn_go 80 (by with_unfolding_all rfl) ?_
  refine rn_st (2) (by with_unfolding_all rfl) (by decide) (by decide) (by decide) ?_
  refine rn_hp (by with_unfolding_all exact (ww_1_13 (k := 2) (by decide))) ?_
  rw [tu_tu, tu_s]
  refine rn_go 80 (by with_unfolding_all rfl) ?_
  refine rn_ld (2) (by with_unfolding_all rfl) (by decide) (by decide) (by decide) ?_
  rw [tu_n (show (0 : Nat) ≠ 1 by decide)]
  refine rn_go 80 (by with_unfolding_all rfl) ?_
  refine rn_st (2) (by with_unfolding_all rfl) (by decide) (by decide) (by decide) ?_
  refine rn_hp (by with_unfolding_all exact (ww_1_17 (k := 2) (by decide))) ?_
  rw [tu_tu, tu_s]
  refine rn_go 80 (by with_unfolding_all rfl) ?_
  refine rn_br (by with_unfolding_all rfl) (fun c => ?_) (fun c => ?_)
  · exact absurd c (by decide)
  refine rn_go 80 (by with_unfolding_all rfl) ?_
  refine rn_ld (3) (by with_unfolding_all rfl) (by decide) (by decide) (by decide) ?_
  rw [tu_n (show (0 : Nat) ≠ 1 by decide)]
  refine rn_go 80 (by with_unfolding_all rfl) ?_
  refine rn_st (3) (by with_unfolding_all rfl) (by decide) (by decide) (by decide) ?_
  refine rn_hp (by with_unfolding_all exact (ww_1_9 (k := 3) (by decide))) ?_
  rw [tu_tu, tu_s]
  refine rn_go 80 (by with_unfolding_all rfl) ?_
  refine rn_ld (3) (by with_unfolding_all rfl) (by decide) (by decide) (by decide) ?_
  rw [tu_n (show (0 : Nat) ≠ 1 by decide)]
  refine rn_go 80 (by with_unfolding_all rfl) ?_
  refine rn_st (3) (by with_unfolding_all rfl) (by decide) (by decide) (by decide) ?_
  refine rn_hp (by with_unfolding_all exact (ww_1_13 (k := 3) (by decide))) ?_
  rw [tu_tu, tu_s]
  refine rn_go 80 (by with_unfolding_all rfl) ?_
  refine rn_ld (3) (by with_unfolding_all rfl) (by decide) (by decide) (by decide) ?_
  rw [tu_n (show (0 : Nat) ≠ 1 by decide)]
  refine rn_go 80 (by with_unfolding_all rfl) ?_
  refine rn_st (3) (by with_unfolding_all rfl) (by decide) (by decide) (by decide) ?_
  refine rn_hp (by with_unfolding_all exact (ww_1_17 (k := 3) (by decide))) ?_
  rw [tu_tu, tu_s]
  refine rn_go 80 (by with_unfolding_all rfl) ?_
  refine rn_br (by with_unfolding_all rfl) (fun c => ?_) (fun c => absurd (by decide) c)
  refine rn_go 80 (by with_unfolding_all rfl) ?_
  refine rn_rt (by with_unfolding_all rfl) trivial rfl (wd_cong1 (al21 rfl rfl rfl rfl rfl rfl rfl rfl rfl rfl rfl rfl rfl rfl rfl rfl rfl rfl rfl rfl rfl))
end

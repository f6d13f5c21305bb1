/-! questions of the hill, on both sides -/
def sMem (t : Nat → Int32) (n k : Nat) (w : Int32) : Int32 := if w = 0 then t (13 + k) else if w = 1 then t (17 + k) else if w = 2 then tb (ta t n) k else if w = 3 then tw t k (ta t n) else if w = 4 then tc t k else -1000001
def sMember (t : Nat → Int32) (n : Nat) (p w : Int32) : Int32 := if hm t p = 0 then -1000001 else sMem t n p.toNatClampNeg w
def sAt (t : Nat → Int32) (b : Nat) (q p : Int32) : Int32 := if q = 0 then -1000001 else t (b + p.toNatClampNeg)
def iok (own k : Int32) : Int32 := if k = 0 then 1 else if k = own then 1 else if k = 1 then (if own = 2 then 1 else if own = 3 then 1 else 0) else if k = 4 then (if own = 5 then 1 else 0) else 0
def cnt (f : Nat → Int32) : Nat → Int32
  | 0 => 0
  | i + 1 => if f i = -1 then cnt f i else cnt f i + 1
set_option maxRecDepth 10000 in
theorem hm_of {t : Nat → Int32} {n : Nat} {p : Int32} (hn : t 1 = nI n) (hn4 : n ≤ 4) (h : ¬ hm t p = 0) : ∃ k : Nat, k < n ∧ p = nI k := by
  unfold hm at h
  by_cases h1 : p < 0
  · rw [if_pos h1] at h; exact absurd rfl h
  rw [if_neg h1] at h
  by_cases h2 : t 1 ≤ p
  · rw [if_pos h2] at h; exact absurd rfl h
  rw [hn] at h2
  rcases pk_ix p (n := n) (by omega) with h3 | h3 | h3
  · exact absurd h3 h1
  · exact absurd h3 h2
  · exact h3
set_option maxRecDepth 10000 in
theorem hmo_of {t : Nat → Int32} {n : Nat} {p : Int32} (hn : t 0 = nI n) (hn4 : n ≤ 4) (h : ¬ hmo t p = 0) : ∃ k : Nat, k < n ∧ p = nI k := by
  unfold hmo at h
  by_cases h1 : p < 0
  · rw [if_pos h1] at h; exact absurd rfl h
  rw [if_neg h1] at h
  by_cases h2 : t 0 ≤ p
  · rw [if_pos h2] at h; exact absurd rfl h
  rw [hn] at h2
  rcases pk_ix p (n := n) (by omega) with h3 | h3 | h3
  · exact absurd h3 h1
  · exact absurd h3 h2
  · exact h3
set_option maxRecDepth 10000 in
theorem hst_01 (t : Nat → Int32) (x : Int32) : hst t x = 0 ∨ hst t x = 1 := by
  unfold hst
  split
  · exact Or.inl rfl
  · split
    · exact Or.inl rfl
    · exact Or.inr rfl
section
variable {g gm : Nat → Int32} {T A Am : Nat → Nat → Int32} {h : am_H}
set_option maxRecDepth 10000 in
theorem xm_isMember {n : Nat} (hn : tv (Am 0) 0 1 = nI n) (hn4 : n ≤ 4) (p : Int32) : am_ev 2 167 [.ref 43, .int p] (wd g T A gm Am) (some (.int (hm (tv (Am 0) 0) p))) (wd g T A gm Am) := by
  refine rn_ev am_m_X9_isMember rfl rfl ?_
  refine rn_go 80 (by with_unfolding_all rfl) ?_
  refine rn_ld (1) (by with_unfolding_all rfl) rfl (by omega) (by decide) ?_
  refine rn_go 80 (by with_unfolding_all rfl) ?_
  refine rn_cl (by with_unfolding_all rfl) (ev_up (by decide) (xm_in _ _ _)) ?_
  rw [inn_b (a := 0) (b := Am 0 1 - 1) (P := 0) (by decide) rfl, show Am 0 1 = nI n by rw [← hn]; rfl]
  refine rn_go 80 (by with_unfolding_all rfl) ?_
  exact rn_rt (by with_unfolding_all rfl) (btw_01 _ _ _) (by rw [btw_n (by omega)]; unfold hm; rw [hn]) (rfl)
set_option maxRecDepth 10000 in
theorem xm_isMotion {n : Nat} (hn : tv (Am 0) 0 0 = nI n) (hn4 : n ≤ 4) (p : Int32) : am_ev 2 182 [.ref 43, .int p] (wd g T A gm Am) (some (.int (hmo (tv (Am 0) 0) p))) (wd g T A gm Am) := by
  refine rn_ev am_m_X9_isMotion rfl rfl ?_
  refine rn_go 80 (by with_unfolding_all rfl) ?_
  refine rn_ld (0) (by with_unfolding_all rfl) rfl (by omega) (by decide) ?_
  refine rn_go 80 (by with_unfolding_all rfl) ?_
  refine rn_cl (by with_unfolding_all rfl) (ev_up (by decide) (xm_in _ _ _)) ?_
  rw [inn_b (a := 0) (b := Am 0 0 - 1) (P := 0) (by decide) rfl, show Am 0 0 = nI n by rw [← hn]; rfl]
  refine rn_go 80 (by with_unfolding_all rfl) ?_
  exact rn_rt (by with_unfolding_all rfl) (btw_01 _ _ _) (by rw [btw_n (by omega)]; unfold hmo; rw [hn]) (rfl)
set_option maxRecDepth 10000 in
theorem xm_areMembers {n : Nat} (hn : tv (Am 0) 0 1 = nI n) (hn4 : n ≤ 4) (p : Int32) : am_ev 2 178 [.ref 43, .int p] (wd g T A gm Am) (some (.int (hst (tv (Am 0) 0) p))) (wd g T A gm Am) := by
  have e2 : (1 : Int32) <<< (nI n &&& 31) = nI (2 ^ n) := by
    rcases (show n = 0 ∨ n = 1 ∨ n = 2 ∨ n = 3 ∨ n = 4 by omega) with rfl | rfl | rfl | rfl | rfl <;> rfl
  have hp : 2 ^ n < 1000 := Nat.lt_of_le_of_lt (Nat.pow_le_pow_right (by decide) hn4) (by decide)
  refine rn_ev am_m_X9_areMembers rfl rfl ?_
  refine rn_go 80 (by with_unfolding_all rfl) ?_
  refine rn_ld (1) (by with_unfolding_all rfl) rfl (by omega) (by decide) ?_
  refine rn_go 80 (by with_unfolding_all rfl) ?_
  refine rn_cl (by with_unfolding_all rfl) (ev_up (by decide) (xm_in _ _ _)) ?_
  rw [inn_b (a := 0) (b := 1 <<< (Am 0 1 &&& 31) - 1) (P := 0) (by decide) rfl, show Am 0 1 = nI n by rw [← hn]; rfl, e2]
  refine rn_go 80 (by with_unfolding_all rfl) ?_
  exact rn_rt (by with_unfolding_all rfl) (btw_01 _ _ _) (by rw [btw_n hp]; unfold hst; rw [hn, e2]) (rfl)
set_option maxRecDepth 10000 in
theorem x8_status : am_ev 12 126 [.ref 0] (wd g T A gm Am) (some (.int (g 1))) (wd g T A gm Am) := by
  refine rn_ev am_m_X8_status rfl rfl ?_
  refine rn_go 80 (by with_unfolding_all rfl) ?_
  exact rn_rt (by with_unfolding_all rfl) trivial rfl rfl
set_option maxRecDepth 10000 in
theorem xm_status : am_ev 12 226 [.ref 43] (wd g T A gm Am) (some (.int (gm 4))) (wd g T A gm Am) := by
  refine rn_ev am_m_X9_status rfl rfl ?_
  refine rn_go 80 (by with_unfolding_all rfl) ?_
  exact rn_rt (by with_unfolding_all rfl) trivial rfl rfl
set_option maxRecDepth 10000 in
theorem x8_fault : am_ev 12 99 [.ref 0] (wd g T A gm Am) (some (.int (g 0))) (wd g T A gm Am) := by
  refine rn_ev am_m_X8_fault rfl rfl ?_
  refine rn_go 80 (by with_unfolding_all rfl) ?_
  exact rn_rt (by with_unfolding_all rfl) trivial rfl rfl
set_option maxRecDepth 10000 in
theorem xm_fault : am_ev 12 163 [.ref 43] (wd g T A gm Am) (some (.int (gm 3))) (wd g T A gm Am) := by
  refine rn_ev am_m_X9_fault rfl rfl ?_
  refine rn_go 80 (by with_unfolding_all rfl) ?_
  exact rn_rt (by with_unfolding_all rfl) trivial rfl rfl
set_option maxRecDepth 10000 in
theorem x8_motion {n : Nat} (hn : T 0 0 = nI n) (hn4 : n ≤ 4) (p : Int32) : am_ev 12 106 [.ref 0, .int p] (wd g T A gm Am) (some (.int (sAt (T 0) 5 (hmo (T 0) p) p))) (wd g T A gm Am) := by
  unfold sAt
  refine rn_ev am_m_X8_motion rfl rfl ?_
  refine rn_go 80 (by with_unfolding_all rfl) ?_
  refine rn_cl (by with_unfolding_all rfl) (ev_up (by decide) (xh_hasMotion p)) ?_
  refine rn_go 80 (by with_unfolding_all rfl) ?_
  refine rn_br (by with_unfolding_all rfl) (fun c => ?_) (fun c => ?_)
  · rw [if_pos c]
    refine rn_go 80 (by with_unfolding_all rfl) ?_
    exact rn_rt (by with_unfolding_all rfl) trivial rfl rfl
  rw [if_neg c]
  obtain ⟨k, hk, rfl⟩ := hmo_of hn hn4 c
  rw [show (nI k).toNatClampNeg = k from nI_clamp (by omega)]
  refine rn_go 80 (by with_unfolding_all rfl) ?_
  refine rn_ld (k) (by with_unfolding_all rfl) rfl (by omega) (by decide) ?_
  rw [wa_at (by omega)]
  refine rn_go 80 (by with_unfolding_all rfl) ?_
  exact rn_rt (by with_unfolding_all rfl) trivial rfl rfl
set_option maxRecDepth 10000 in
theorem xm_motion {n : Nat} (hn : tv (Am 0) 0 0 = nI n) (hn4 : n ≤ 4) (p : Int32) : am_ev 12 185 [.ref 43, .int p] (wd g T A gm Am) (some (.int (sAt (tv (Am 0) 0) 5 (hmo (tv (Am 0) 0) p) p))) (wd g T A gm Am) := by
  unfold sAt
  refine rn_ev am_m_X9_motion rfl rfl ?_
  refine rn_go 80 (by with_unfolding_all rfl) ?_
  refine rn_cl (by with_unfolding_all rfl) (ev_up (by decide) (xm_isMotion hn hn4 p)) ?_
  refine rn_go 80 (by with_unfolding_all rfl) ?_
  refine rn_br (by with_unfolding_all rfl) (fun c => ?_) (fun c => ?_)
  · rw [if_pos c]
    refine rn_go 80 (by with_unfolding_all rfl) ?_
    exact rn_rt (by with_unfolding_all rfl) trivial rfl rfl
  rw [if_neg c]
  obtain ⟨k, hk, rfl⟩ := hmo_of hn hn4 c
  rw [show (nI k).toNatClampNeg = k from nI_clamp (by omega)]
  refine rn_go 80 (by with_unfolding_all rfl) ?_
  refine rn_ld (0 + (5 + k)) (by with_unfolding_all rfl) (by rw [Nat.zero_add]; exact nI_add 5 k) (by omega) (by decide) ?_
  refine rn_go 80 (by with_unfolding_all rfl) ?_
  exact rn_rt (by with_unfolding_all rfl) trivial rfl rfl
set_option maxRecDepth 10000 in
theorem x8_kind {n : Nat} (hn : T 0 1 = nI n) (hn4 : n ≤ 4) (p : Int32) : am_ev 12 121 [.ref 0, .int p] (wd g T A gm Am) (some (.int (sAt (T 0) 9 (hm (T 0) p) p))) (wd g T A gm Am) := by
  unfold sAt
  refine rn_ev am_m_X8_kind rfl rfl ?_
  refine rn_go 80 (by with_unfolding_all rfl) ?_
  refine rn_cl (by with_unfolding_all rfl) (ev_up (by decide) (xh_hasMember p)) ?_
  refine rn_go 80 (by with_unfolding_all rfl) ?_
  refine rn_br (by with_unfolding_all rfl) (fun c => ?_) (fun c => ?_)
  · rw [if_pos c]
    refine rn_go 80 (by with_unfolding_all rfl) ?_
    exact rn_rt (by with_unfolding_all rfl) trivial rfl rfl
  rw [if_neg c]
  obtain ⟨k, hk, rfl⟩ := hm_of hn hn4 c
  rw [show (nI k).toNatClampNeg = k from nI_clamp (by omega)]
  refine rn_go 80 (by with_unfolding_all rfl) ?_
  refine rn_ld (k) (by with_unfolding_all rfl) rfl (by omega) (by decide) ?_
  rw [wa_at (by omega)]
  refine rn_go 80 (by with_unfolding_all rfl) ?_
  exact rn_rt (by with_unfolding_all rfl) trivial rfl rfl
set_option maxRecDepth 10000 in
theorem xm_kind {n : Nat} (hn : tv (Am 0) 0 1 = nI n) (hn4 : n ≤ 4) (p : Int32) : am_ev 12 211 [.ref 43, .int p] (wd g T A gm Am) (some (.int (sAt (tv (Am 0) 0) 9 (hm (tv (Am 0) 0) p) p))) (wd g T A gm Am) := by
  unfold sAt
  refine rn_ev am_m_X9_kind rfl rfl ?_
  refine rn_go 80 (by with_unfolding_all rfl) ?_
  refine rn_cl (by with_unfolding_all rfl) (ev_up (by decide) (xm_isMember hn hn4 p)) ?_
  refine rn_go 80 (by with_unfolding_all rfl) ?_
  refine rn_br (by with_unfolding_all rfl) (fun c => ?_) (fun c => ?_)
  · rw [if_pos c]
    refine rn_go 80 (by with_unfolding_all rfl) ?_
    exact rn_rt (by with_unfolding_all rfl) trivial rfl rfl
  rw [if_neg c]
  obtain ⟨k, hk, rfl⟩ := hm_of hn hn4 c
  rw [show (nI k).toNatClampNeg = k from nI_clamp (by omega)]
  refine rn_go 80 (by with_unfolding_all rfl) ?_
  refine rn_ld (0 + (9 + k)) (by with_unfolding_all rfl) (by rw [Nat.zero_add]; exact nI_add 9 k) (by omega) (by decide) ?_
  refine rn_go 80 (by with_unfolding_all rfl) ?_
  exact rn_rt (by with_unfolding_all rfl) trivial rfl rfl
set_option maxRecDepth 10000 in
theorem x8_member {n : Nat} (hn : T 0 1 = nI n) (hn4 : n ≤ 4) (p w : Int32) : am_ev 12 105 [.ref 0, .int p, .int w] (wd g T A gm Am) (some (.int (sMember (T 0) n p w))) (wd g T A gm Am) := by
  unfold sMember
  refine rn_ev am_m_X8_member rfl rfl ?_
  refine rn_go 80 (by with_unfolding_all rfl) ?_
  refine rn_cl (by with_unfolding_all rfl) (ev_up (by decide) (xh_hasMember p)) ?_
  refine rn_go 80 (by with_unfolding_all rfl) ?_
  refine rn_br (by with_unfolding_all rfl) (fun c => ?_) (fun c => ?_)
  · rw [if_pos c]
    refine rn_go 80 (by with_unfolding_all rfl) ?_
    exact rn_rt (by with_unfolding_all rfl) trivial rfl rfl
  rw [if_neg c]
  obtain ⟨k, hk, rfl⟩ := hm_of hn hn4 c
  rw [show (nI k).toNatClampNeg = k from nI_clamp (by omega)]
  unfold sMem
  refine rn_go 1 (by with_unfolding_all rfl) ?_
  refine rn_one (by with_unfolding_all rfl) ?_
  by_cases w0 : w = 0
  · rw [if_pos w0]
    simp only [am_pick, if_pos w0]
    refine rn_go 80 (by with_unfolding_all rfl) ?_
    refine rn_ld (k) (by with_unfolding_all rfl) rfl (by omega) (by decide) ?_
    rw [wa_at (by omega)]
    refine rn_go 80 (by with_unfolding_all rfl) ?_
    exact rn_rt (by with_unfolding_all rfl) trivial rfl rfl
  rw [if_neg w0]
  by_cases w1 : w = 1
  · rw [if_pos w1]
    simp only [am_pick, if_neg w0, if_pos w1]
    refine rn_go 80 (by with_unfolding_all rfl) ?_
    refine rn_ld (k) (by with_unfolding_all rfl) rfl (by omega) (by decide) ?_
    rw [wa_at (by omega)]
    refine rn_go 80 (by with_unfolding_all rfl) ?_
    exact rn_rt (by with_unfolding_all rfl) trivial rfl rfl
  rw [if_neg w1]
  by_cases w2 : w = 2
  · rw [if_pos w2]
    simp only [am_pick, if_neg w0, if_neg w1, if_pos w2]
    refine rn_go 80 (by with_unfolding_all rfl) ?_
    refine rn_cl (by with_unfolding_all rfl) (ev_up (by decide) (xh_ableSet0 hn hn4)) ?_
    refine rn_go 80 (by with_unfolding_all rfl) ?_
    exact rn_rt (by with_unfolding_all rfl) trivial rfl rfl
  rw [if_neg w2]
  by_cases w3 : w = 3
  · rw [if_pos w3]
    simp only [am_pick, if_neg w0, if_neg w1, if_neg w2, if_pos w3]
    refine rn_go 80 (by with_unfolding_all rfl) ?_
    refine rn_cl (by with_unfolding_all rfl) (ev_up (by decide) (xh_ableSet0 hn hn4)) ?_
    refine rn_go 80 (by with_unfolding_all rfl) ?_
    refine rn_cl (by with_unfolding_all rfl) (ev_up (by decide) (xh_weighs0 k (by omega) _)) ?_
    refine rn_go 80 (by with_unfolding_all rfl) ?_
    exact rn_rt (by with_unfolding_all rfl) trivial rfl rfl
  rw [if_neg w3]
  by_cases w4 : w = 4
  · rw [if_pos w4]
    simp only [am_pick, if_neg w0, if_neg w1, if_neg w2, if_neg w3, if_pos w4]
    refine rn_go 80 (by with_unfolding_all rfl) ?_
    refine rn_cl (by with_unfolding_all rfl) (ev_up (by decide) (xh_costOf0 k (by omega))) ?_
    refine rn_go 80 (by with_unfolding_all rfl) ?_
    exact rn_rt (by with_unfolding_all rfl) trivial rfl rfl
  rw [if_neg w4]
  simp only [am_pick, if_neg w0, if_neg w1, if_neg w2, if_neg w3, if_neg w4]
  refine rn_go 80 (by with_unfolding_all rfl) ?_
  exact rn_rt (by with_unfolding_all rfl) trivial rfl rfl
set_option maxRecDepth 10000 in
theorem xm_member {n : Nat} (ht : okT (tv (Am 0) 0) n) (hn : tv (Am 0) 0 1 = nI n) (hn4 : n ≤ 4) (p w : Int32) : am_ev 12 184 [.ref 43, .int p, .int w] (wd g T A gm Am) (some (.int (sMember (tv (Am 0) 0) n p w))) (wd g T A gm Am) := by
  unfold sMember
  refine rn_ev am_m_X9_member rfl rfl ?_
  refine rn_go 80 (by with_unfolding_all rfl) ?_
  refine rn_cl (by with_unfolding_all rfl) (ev_up (by decide) (xm_isMember hn hn4 p)) ?_
  refine rn_go 80 (by with_unfolding_all rfl) ?_
  refine rn_br (by with_unfolding_all rfl) (fun c => ?_) (fun c => ?_)
  · rw [if_pos c]
    refine rn_go 80 (by with_unfolding_all rfl) ?_
    exact rn_rt (by with_unfolding_all rfl) trivial rfl rfl
  rw [if_neg c]
  obtain ⟨k, hk, rfl⟩ := hm_of hn hn4 c
  rw [show (nI k).toNatClampNeg = k from nI_clamp (by omega)]
  unfold sMem
  refine rn_go 1 (by with_unfolding_all rfl) ?_
  refine rn_one (by with_unfolding_all rfl) ?_
  by_cases w0 : w = 0
  · rw [if_pos w0]
    simp only [am_pick, if_pos w0]
    refine rn_go 80 (by with_unfolding_all rfl) ?_
    refine rn_ld (0 + (13 + k)) (by with_unfolding_all rfl) (by rw [Nat.zero_add]; exact nI_add 13 k) (by omega) (by decide) ?_
    refine rn_go 80 (by with_unfolding_all rfl) ?_
    exact rn_rt (by with_unfolding_all rfl) trivial rfl rfl
  rw [if_neg w0]
  by_cases w1 : w = 1
  · rw [if_pos w1]
    simp only [am_pick, if_neg w0, if_pos w1]
    refine rn_go 80 (by with_unfolding_all rfl) ?_
    refine rn_ld (0 + (17 + k)) (by with_unfolding_all rfl) (by rw [Nat.zero_add]; exact nI_add 17 k) (by omega) (by decide) ?_
    refine rn_go 80 (by with_unfolding_all rfl) ?_
    exact rn_rt (by with_unfolding_all rfl) trivial rfl rfl
  rw [if_neg w1]
  by_cases w2 : w = 2
  · rw [if_pos w2]
    simp only [am_pick, if_neg w0, if_neg w1, if_pos w2]
    refine rn_go 80 (by with_unfolding_all rfl) ?_
    refine rn_cl (by with_unfolding_all rfl) (ev_up (by decide) (xm_canSpeak (B := 0) (by omega) ht hn hn4)) ?_
    refine rn_go 80 (by with_unfolding_all rfl) ?_
    exact rn_rt (by with_unfolding_all rfl) trivial rfl rfl
  rw [if_neg w2]
  by_cases w3 : w = 3
  · rw [if_pos w3]
    simp only [am_pick, if_neg w0, if_neg w1, if_neg w2, if_pos w3]
    refine rn_go 80 (by with_unfolding_all rfl) ?_
    refine rn_cl (by with_unfolding_all rfl) (ev_up (by decide) (xm_weighs (B := 0) (by omega) ht hn hn4 hk)) ?_
    refine rn_go 80 (by with_unfolding_all rfl) ?_
    exact rn_rt (by with_unfolding_all rfl) trivial rfl rfl
  rw [if_neg w3]
  by_cases w4 : w = 4
  · rw [if_pos w4]
    simp only [am_pick, if_neg w0, if_neg w1, if_neg w2, if_neg w3, if_pos w4]
    refine rn_go 80 (by with_unfolding_all rfl) ?_
    refine rn_cl (by with_unfolding_all rfl) (ev_up (by decide) (xm_costOf (B := 0) (by omega) ht hk hn4)) ?_
    refine rn_go 80 (by with_unfolding_all rfl) ?_
    exact rn_rt (by with_unfolding_all rfl) trivial rfl rfl
  rw [if_neg w4]
  simp only [am_pick, if_neg w0, if_neg w1, if_neg w2, if_neg w3, if_neg w4]
  refine rn_go 80 (by with_unfolding_all rfl) ?_
  exact rn_rt (by with_unfolding_all rfl) trivial rfl rfl
set_option maxRecDepth 10000 in
theorem x8_isOfKind (own k : Int32) : am_ev 3 132 [.int own, .int k] h (some (.int (iok own k))) h := by
  refine rn_ev am_m_X8_isOfKind rfl rfl ?_
  refine rn_go 80 (by with_unfolding_all rfl) ?_
  unfold iok
  refine rn_br (by with_unfolding_all rfl) (fun c => ?_) (fun c => ?_)
  · rw [if_pos c]
    refine rn_go 80 (by with_unfolding_all rfl) ?_
    exact rn_rt (by with_unfolding_all rfl) (Or.inr rfl) (rfl) (rfl)
  rw [if_neg c]
  refine rn_go 80 (by with_unfolding_all rfl) ?_
  refine rn_br (by with_unfolding_all rfl) (fun c2 => ?_) (fun c2 => ?_)
  · rw [if_pos c2]
    refine rn_go 80 (by with_unfolding_all rfl) ?_
    exact rn_rt (by with_unfolding_all rfl) (Or.inr rfl) (rfl) (rfl)
  rw [if_neg c2]
  refine rn_go 80 (by with_unfolding_all rfl) ?_
  refine rn_br (by with_unfolding_all rfl) (fun c3 => ?_) (fun c3 => ?_)
  · rw [if_pos c3]
    refine rn_go 80 (by with_unfolding_all rfl) ?_
    refine rn_br (by with_unfolding_all rfl) (fun c4 => ?_) (fun c4 => ?_)
    · rw [if_pos c4]
      refine rn_go 80 (by with_unfolding_all rfl) ?_
      exact rn_rt (by with_unfolding_all rfl) (Or.inr rfl) (rfl) (rfl)
    rw [if_neg c4]
    refine rn_go 80 (by with_unfolding_all rfl) ?_
    refine rn_br (by with_unfolding_all rfl) (fun c5 => ?_) (fun c5 => ?_)
    · rw [if_pos c5]
      refine rn_go 80 (by with_unfolding_all rfl) ?_
      exact rn_rt (by with_unfolding_all rfl) (Or.inr rfl) (rfl) (rfl)
    rw [if_neg c5]
    refine rn_go 80 (by with_unfolding_all rfl) ?_
    refine rn_br (by with_unfolding_all rfl) (fun c6 => absurd (c3.symm.trans c6) (by decide)) (fun c6 => ?_)
    refine rn_go 80 (by with_unfolding_all rfl) ?_
    exact rn_rt (by with_unfolding_all rfl) (Or.inl rfl) (rfl) (rfl)
  rw [if_neg c3]
  refine rn_go 80 (by with_unfolding_all rfl) ?_
  refine rn_br (by with_unfolding_all rfl) (fun c4 => ?_) (fun c4 => ?_)
  · rw [if_pos c4]
    refine rn_go 80 (by with_unfolding_all rfl) ?_
    refine rn_br (by with_unfolding_all rfl) (fun c5 => ?_) (fun c5 => ?_)
    · rw [if_pos c5]
      refine rn_go 80 (by with_unfolding_all rfl) ?_
      exact rn_rt (by with_unfolding_all rfl) (Or.inr rfl) (rfl) (rfl)
    rw [if_neg c5]
    refine rn_go 80 (by with_unfolding_all rfl) ?_
    exact rn_rt (by with_unfolding_all rfl) (Or.inl rfl) (rfl) (rfl)
  rw [if_neg c4]
  refine rn_go 80 (by with_unfolding_all rfl) ?_
  exact rn_rt (by with_unfolding_all rfl) (Or.inl rfl) (rfl) (rfl)
set_option maxRecDepth 10000 in
theorem xm_isOf {p : Nat} (hp : p < 4) (k : Int32) : am_ev 3 212 [.ref 43, .int (nI p), .int k] (wd g T A gm Am) (some (.int (iok (tv (Am 0) 0 (9 + p)) k))) (wd g T A gm Am) := by
  refine rn_ev am_m_X9_isOf rfl rfl ?_
  refine rn_go 80 (by with_unfolding_all rfl) ?_
  rw [show tv (Am 0) 0 (9 + p) = Am 0 (0 + (9 + p)) from rfl]
  refine rn_ld (0 + (9 + p)) (by with_unfolding_all rfl) (by rw [Nat.zero_add]; exact nI_add 9 p) (by omega) (by decide) ?_
  refine rn_go 80 (by with_unfolding_all rfl) ?_
  unfold iok
  refine rn_br (by with_unfolding_all rfl) (fun c => ?_) (fun c => ?_)
  · rw [if_pos c]
    refine rn_go 80 (by with_unfolding_all rfl) ?_
    exact rn_rt (by with_unfolding_all rfl) (Or.inr rfl) (rfl) (rfl)
  rw [if_neg c]
  refine rn_go 80 (by with_unfolding_all rfl) ?_
  refine rn_br (by with_unfolding_all rfl) (fun c2 => ?_) (fun c2 => ?_)
  · rw [if_pos c2]
    refine rn_go 80 (by with_unfolding_all rfl) ?_
    exact rn_rt (by with_unfolding_all rfl) (Or.inr rfl) (rfl) (rfl)
  rw [if_neg c2]
  refine rn_go 80 (by with_unfolding_all rfl) ?_
  refine rn_br (by with_unfolding_all rfl) (fun c3 => ?_) (fun c3 => ?_)
  · rw [if_pos c3]
    refine rn_go 80 (by with_unfolding_all rfl) ?_
    refine rn_br (by with_unfolding_all rfl) (fun c4 => ?_) (fun c4 => ?_)
    · rw [if_pos c4]
      refine rn_go 80 (by with_unfolding_all rfl) ?_
      exact rn_rt (by with_unfolding_all rfl) (Or.inr rfl) (rfl) (rfl)
    rw [if_neg c4]
    refine rn_go 80 (by with_unfolding_all rfl) ?_
    refine rn_br (by with_unfolding_all rfl) (fun c5 => ?_) (fun c5 => ?_)
    · rw [if_pos c5]
      refine rn_go 80 (by with_unfolding_all rfl) ?_
      exact rn_rt (by with_unfolding_all rfl) (Or.inr rfl) (rfl) (rfl)
    rw [if_neg c5]
    refine rn_go 80 (by with_unfolding_all rfl) ?_
    refine rn_br (by with_unfolding_all rfl) (fun c6 => absurd (c3.symm.trans c6) (by decide)) (fun c6 => ?_)
    refine rn_go 80 (by with_unfolding_all rfl) ?_
    exact rn_rt (by with_unfolding_all rfl) (Or.inl rfl) (rfl) (rfl)
  rw [if_neg c3]
  refine rn_go 80 (by with_unfolding_all rfl) ?_
  refine rn_br (by with_unfolding_all rfl) (fun c4 => ?_) (fun c4 => ?_)
  · rw [if_pos c4]
    refine rn_go 80 (by with_unfolding_all rfl) ?_
    refine rn_br (by with_unfolding_all rfl) (fun c5 => ?_) (fun c5 => ?_)
    · rw [if_pos c5]
      refine rn_go 80 (by with_unfolding_all rfl) ?_
      exact rn_rt (by with_unfolding_all rfl) (Or.inr rfl) (rfl) (rfl)
    rw [if_neg c5]
    refine rn_go 80 (by with_unfolding_all rfl) ?_
    exact rn_rt (by with_unfolding_all rfl) (Or.inl rfl) (rfl) (rfl)
  rw [if_neg c4]
  refine rn_go 80 (by with_unfolding_all rfl) ?_
  exact rn_rt (by with_unfolding_all rfl) (Or.inl rfl) (rfl) (rfl)
def sWeight (z : Int32) (t : Nat → Int32) (n : Nat) (s : Int32) : Int32 := if z = 0 then -1000002 else if hst t s = 0 then -1000001 else ts t s (ta t n) n
set_option maxRecDepth 10000 in
theorem x8_weight {n : Nat} (hn : T 0 1 = nI n) (hn4 : n ≤ 4) (s : Int32) : am_ev 12 107 [.ref 0, .int s] (wd g T A gm Am) (some (.int (sWeight (g 11) (T 0) n s))) (wd g T A gm Am) := by
  unfold sWeight
  refine rn_ev am_m_X8_weight rfl rfl ?_
  refine rn_go 80 (by with_unfolding_all rfl) ?_
  refine rn_br (by with_unfolding_all rfl) (fun c => ?_) (fun c => ?_)
  · rw [if_pos c]
    refine rn_go 80 (by with_unfolding_all rfl) ?_
    exact rn_rt (by with_unfolding_all rfl) trivial rfl rfl
  rw [if_neg c]
  refine rn_go 80 (by with_unfolding_all rfl) ?_
  refine rn_cl (by with_unfolding_all rfl) (ev_up (by decide) (xh_isSet s)) ?_
  refine rn_go 80 (by with_unfolding_all rfl) ?_
  refine rn_br (by with_unfolding_all rfl) (fun c2 => ?_) (fun c2 => ?_)
  · rw [if_pos c2]
    refine rn_go 80 (by with_unfolding_all rfl) ?_
    exact rn_rt (by with_unfolding_all rfl) trivial rfl rfl
  rw [if_neg c2]
  refine rn_go 80 (by with_unfolding_all rfl) ?_
  refine rn_cl (by with_unfolding_all rfl) (ev_up (by decide) (xh_ableSet0 hn hn4)) ?_
  refine rn_go 80 (by with_unfolding_all rfl) ?_
  refine rn_cl (by with_unfolding_all rfl) (ev_up (by decide) (xh_weighsSet0 hn hn4 s _)) ?_
  refine rn_go 80 (by with_unfolding_all rfl) ?_
  exact rn_rt (by with_unfolding_all rfl) trivial rfl rfl
set_option maxRecDepth 10000 in
theorem xm_weight {n : Nat} (ht : okT (tv (Am 0) 0) n) (hn : tv (Am 0) 0 1 = nI n) (hn4 : n ≤ 4) (s : Int32) : am_ev 12 186 [.ref 43, .int s] (wd g T A gm Am) (some (.int (sWeight (gm 0) (tv (Am 0) 0) n s))) (wd g T A gm Am) := by
  unfold sWeight
  refine rn_ev am_m_X9_weight rfl rfl ?_
  refine rn_go 80 (by with_unfolding_all rfl) ?_
  refine rn_br (by with_unfolding_all rfl) (fun c => ?_) (fun c => ?_)
  · rw [if_pos c]
    refine rn_go 80 (by with_unfolding_all rfl) ?_
    exact rn_rt (by with_unfolding_all rfl) trivial rfl rfl
  rw [if_neg c]
  refine rn_go 80 (by with_unfolding_all rfl) ?_
  refine rn_cl (by with_unfolding_all rfl) (ev_up (by decide) (xm_areMembers hn hn4 s)) ?_
  refine rn_go 80 (by with_unfolding_all rfl) ?_
  refine rn_br (by with_unfolding_all rfl) (fun c2 => ?_) (fun c2 => ?_)
  · rw [if_pos c2]
    refine rn_go 80 (by with_unfolding_all rfl) ?_
    exact rn_rt (by with_unfolding_all rfl) trivial rfl rfl
  rw [if_neg c2]
  refine rn_go 80 (by with_unfolding_all rfl) ?_
  refine rn_cl (by with_unfolding_all rfl) (ev_up (by decide) (xm_weightOf (B := 0) (by omega) ht hn hn4 s)) ?_
  refine rn_go 80 (by with_unfolding_all rfl) ?_
  exact rn_rt (by with_unfolding_all rfl) trivial rfl rfl
def sAs (q p k own s : Int32) : Int32 × Int32 := if q = 0 then (-1000001, s) else if k < 0 then (-1000001, s) else if k ≤ 5 then (if iok own k = 0 then (-1000013, 3) else (p, 0)) else (-1000001, s)
set_option maxRecDepth 10000 in
theorem x8_as {n : Nat} (hn : T 0 1 = nI n) (hn4 : n ≤ 4) (p k : Int32) {v s : Int32} (hq : sAs (hm (T 0) p) p k (T 0 (9 + p.toNatClampNeg)) (g 1) = (v, s)) : am_ev 12 122 [.ref 0, .int p, .int k] (wd g T A gm Am) (some (.int v)) (wd (upd g 1 s) T A gm Am) := by
  unfold sAs at hq
  refine rn_ev am_m_X8_as rfl rfl ?_
  refine rn_go 80 (by with_unfolding_all rfl) ?_
  refine rn_cl (by with_unfolding_all rfl) (ev_up (by decide) (xh_hasMember p)) ?_
  refine rn_go 80 (by with_unfolding_all rfl) ?_
  refine rn_br (by with_unfolding_all rfl) (fun c => ?_) (fun c => ?_)
  · rw [if_pos c] at hq
    cases hq
    refine rn_go 80 (by with_unfolding_all rfl) ?_
    exact rn_rt (by with_unfolding_all rfl) (trivial) (rfl) (by with_unfolding_all rfl)
  rw [if_neg c] at hq
  refine rn_go 80 (by with_unfolding_all rfl) ?_
  refine rn_br (by with_unfolding_all rfl) (fun c2 => ?_) (fun c2 => ?_)
  · rw [if_pos c2] at hq
    cases hq
    refine rn_go 80 (by with_unfolding_all rfl) ?_
    exact rn_rt (by with_unfolding_all rfl) (trivial) (rfl) (by with_unfolding_all rfl)
  rw [if_neg c2] at hq
  obtain ⟨j, hj, rfl⟩ := hm_of hn hn4 c
  rw [show (nI j).toNatClampNeg = j from nI_clamp (by omega)] at hq
  refine rn_go 80 (by with_unfolding_all rfl) ?_
  refine rn_br (by with_unfolding_all rfl) (fun c3 => ?_) (fun c3 => ?_)
  · rw [if_pos c3] at hq
    refine rn_go 80 (by with_unfolding_all rfl) ?_
    refine rn_ld (j) (by with_unfolding_all rfl) rfl (by omega) (by decide) ?_
    rw [wa_at (by omega)]
    refine rn_go 80 (by with_unfolding_all rfl) ?_
    refine rn_cl (by with_unfolding_all rfl) (ev_up (by decide) (x8_isOfKind _ k)) ?_
    refine rn_go 80 (by with_unfolding_all rfl) ?_
    refine rn_br (by with_unfolding_all rfl) (fun c4 => ?_) (fun c4 => ?_)
    · rw [if_pos c4] at hq
      cases hq
      refine rn_go 80 (by with_unfolding_all rfl) ?_
      refine rn_cl (by with_unfolding_all rfl) (ev_up (by decide) (x8_found 3)) ?_
      refine rn_go 80 (by with_unfolding_all rfl) ?_
      exact rn_rt (by with_unfolding_all rfl) trivial rfl rfl
    · rw [if_neg c4] at hq
      cases hq
      refine rn_go 80 (by with_unfolding_all rfl) ?_
      refine rn_cl (by with_unfolding_all rfl) (ev_up (by decide) (x8_well _)) ?_
      refine rn_go 80 (by with_unfolding_all rfl) ?_
      exact rn_rt (by with_unfolding_all rfl) trivial rfl rfl
  rw [if_neg c3] at hq
  cases hq
  refine rn_go 80 (by with_unfolding_all rfl) ?_
  exact rn_rt (by with_unfolding_all rfl) (trivial) (rfl) (by with_unfolding_all rfl)
set_option maxRecDepth 10000 in
theorem xm_as {n : Nat} (hn : tv (Am 0) 0 1 = nI n) (hn4 : n ≤ 4) (p k : Int32) {v s : Int32} (hq : sAs (hm (tv (Am 0) 0) p) p k (tv (Am 0) 0 (9 + p.toNatClampNeg)) (gm 4) = (v, s)) : am_ev 12 213 [.ref 43, .int p, .int k] (wd g T A gm Am) (some (.int v)) (wd g T A (upd gm 4 s) Am) := by
  unfold sAs at hq
  refine rn_ev am_m_X9_as rfl rfl ?_
  refine rn_go 80 (by with_unfolding_all rfl) ?_
  refine rn_cl (by with_unfolding_all rfl) (ev_up (by decide) (xm_isMember hn hn4 p)) ?_
  refine rn_go 80 (by with_unfolding_all rfl) ?_
  refine rn_br (by with_unfolding_all rfl) (fun c => ?_) (fun c => ?_)
  · rw [if_pos c] at hq
    cases hq
    refine rn_go 80 (by with_unfolding_all rfl) ?_
    exact rn_rt (by with_unfolding_all rfl) (trivial) (rfl) (by with_unfolding_all rfl)
  rw [if_neg c] at hq
  refine rn_go 80 (by with_unfolding_all rfl) ?_
  refine rn_cl (by with_unfolding_all rfl) (ev_up (by decide) (xm_in _ _ _)) ?_
  rw [inn_b (a := 0) (b := 5) (P := 0) (Q := 5) (by decide) (by decide)]
  unfold btw
  refine rn_go 80 (by with_unfolding_all rfl) ?_
  refine rn_br (by with_unfolding_all rfl) (fun c2 => ?_) (fun c2 => ?_)
  · have e : v = -1000001 ∧ wd g T A (upd gm 4 s) Am = wd g T A gm Am := by
      by_cases q1 : k < 0
      · rw [if_pos q1] at hq
        cases hq
        exact ⟨rfl, by with_unfolding_all rfl⟩
      · rw [if_neg q1] at c2 hq
        by_cases q2 : k ≤ 5
        · rw [if_neg (Int32.not_lt.mpr q2)] at c2
          exact absurd c2 (by decide)
        · rw [if_neg q2] at hq
          cases hq
          exact ⟨rfl, by with_unfolding_all rfl⟩
    rw [e.2, e.1]
    refine rn_go 80 (by with_unfolding_all rfl) ?_
    exact rn_rt (by with_unfolding_all rfl) trivial rfl rfl
  have q1 : ¬ k < 0 := fun q => c2 (if_pos q)
  have q2 : k ≤ 5 := Int32.not_lt.mp (fun q => c2 (by rw [if_neg q1, if_pos q]))
  rw [if_neg q1, if_pos q2] at hq
  obtain ⟨j, hj, rfl⟩ := hm_of hn hn4 c
  rw [show (nI j).toNatClampNeg = j from nI_clamp (by omega)] at hq
  refine rn_go 80 (by with_unfolding_all rfl) ?_
  refine rn_cl (by with_unfolding_all rfl) (ev_up (by decide) (xm_isOf (p := j) (by omega) k)) ?_
  refine rn_go 80 (by with_unfolding_all rfl) ?_
  refine rn_br (by with_unfolding_all rfl) (fun c4 => ?_) (fun c4 => ?_)
  · rw [if_pos c4] at hq
    cases hq
    refine rn_go 80 (by with_unfolding_all rfl) ?_
    refine rn_cl (by with_unfolding_all rfl) (ev_up (by decide) (xm_find 3)) ?_
    refine rn_go 80 (by with_unfolding_all rfl) ?_
    exact rn_rt (by with_unfolding_all rfl) trivial rfl rfl
  · rw [if_neg c4] at hq
    cases hq
    refine rn_go 80 (by with_unfolding_all rfl) ?_
    refine rn_cl (by with_unfolding_all rfl) (ev_up (by decide) (xm_well _)) ?_
    refine rn_go 80 (by with_unfolding_all rfl) ?_
    exact rn_rt (by with_unfolding_all rfl) trivial rfl rfl
set_option maxRecDepth 10000 in
theorem x6_preL : ∀ m i, i + m = 8 → rn none 0 am_t_X6_present (4, [some (.ref 1), some (.int (cnt (A 1) i)), some (.int (nI i))], [], wd g T A gm Am) (some (.int (cnt (A 1) 8))) (wd g T A gm Am)
  | 0, i, hi => by
    have hi : i = 8 := by omega
    subst hi
    refine rn_go 80 (by with_unfolding_all rfl) ?_
    refine rn_br (by with_unfolding_all rfl) (fun c => ?_) (fun c => ?_)
    · refine rn_go 80 (by with_unfolding_all rfl) ?_
      exact rn_rt (by with_unfolding_all rfl) trivial rfl rfl
    · exact absurd (by decide) c
  | m + 1, i, hi => by
    have ih := x6_preL m (i + 1) (by omega)
    rw [← nI_1] at ih
    refine rn_go 80 (by with_unfolding_all rfl) ?_
    refine rn_br (by with_unfolding_all rfl) (fun c => ?_) (fun c => ?_)
    · exact absurd c (show ¬ nI 8 ≤ nI i from nI_ge (by omega) (by decide))
    refine rn_go 80 (by with_unfolding_all rfl) ?_
    refine rn_ld (i) (by with_unfolding_all rfl) rfl (by omega) (by decide) ?_
    refine rn_go 80 (by with_unfolding_all rfl) ?_
    refine rn_br (by with_unfolding_all rfl) (fun c2 => ?_) (fun c2 => ?_)
    · refine rn_to 4 80 (by with_unfolding_all rfl) ?_
      rw [show cnt (A 1) (i + 1) = cnt (A 1) i from if_pos c2] at ih
      with_unfolding_all exact ih
    · refine rn_to 4 80 (by with_unfolding_all rfl) ?_
      rw [show cnt (A 1) (i + 1) = cnt (A 1) i + 1 from if_neg c2] at ih
      with_unfolding_all exact ih
set_option maxRecDepth 10000 in
theorem xm_preL (hok : okR (Am 2) (Am 3)) (w : Int32) : ∀ m i, i + m = 8 → rn none 11 am_t_X9_count (54, [some (.ref 43), some (.int w), some (.int (cnt (Am 3) i)), some (.int (nI i))], [], wd g T A gm Am) (some (.int (cnt (Am 3) 8))) (wd g T A gm Am)
  | 0, i, hi => by
    have hi : i = 8 := by omega
    subst hi
    refine rn_go 80 (by with_unfolding_all rfl) ?_
    refine rn_br (by with_unfolding_all rfl) (fun c => ?_) (fun c => ?_)
    · refine rn_go 80 (by with_unfolding_all rfl) ?_
      exact rn_rt (by with_unfolding_all rfl) trivial rfl rfl
    · exact absurd (by decide) c
  | m + 1, i, hi => by
    have ih := xm_preL hok w m (i + 1) (by omega)
    rw [← nI_1] at ih
    refine rn_go 80 (by with_unfolding_all rfl) ?_
    refine rn_br (by with_unfolding_all rfl) (fun c => ?_) (fun c => ?_)
    · exact absurd c (show ¬ nI 8 ≤ nI i from nI_ge (by omega) (by decide))
    refine rn_go 80 (by with_unfolding_all rfl) ?_
    refine rn_ld (i) (by with_unfolding_all rfl) rfl (by omega) (by decide) ?_
    refine rn_go 80 (by with_unfolding_all rfl) ?_
    refine rn_br (by with_unfolding_all rfl) (fun c2 => ?_) (fun c2 => ?_)
    · refine rn_to 54 80 (by with_unfolding_all rfl) ?_
      rw [show cnt (Am 3) (i + 1) = cnt (Am 3) i + 1 from if_neg ((okR_neg hok (show i < 8 by omega)).1.mp c2)] at ih
      with_unfolding_all exact ih
    · refine rn_to 54 80 (by with_unfolding_all rfl) ?_
      rw [show cnt (Am 3) (i + 1) = cnt (Am 3) i + 0 by rw [Int32.add_zero]; exact if_pos (Classical.not_not.mp (fun q => c2 ((okR_neg hok (show i < 8 by omega)).1.mpr q)))] at ih
      with_unfolding_all exact ih
def sCount (w : Int32) (f t : Nat → Int32) (n : Nat) (u l : Int32) : Int32 := if w = 0 then cnt f 8 else if w = 1 then t 0 else if w = 2 then t 1 else if w = 3 then t 3 else if w = 4 then t 2 else if w = 5 then ta t n else if w = 6 then u else if w = 7 then l else if w = 8 then t 4 else -1000001
set_option maxRecDepth 10000 in
theorem x8_count {n : Nat} (hn : T 0 1 = nI n) (hn4 : n ≤ 4) (w : Int32) : am_ev 12 125 [.ref 0, .int w] (wd g T A gm Am) (some (.int (sCount w (A 1) (T 0) n (g 5) (g 2)))) (wd g T A gm Am) := by
  unfold sCount
  refine rn_ev am_m_X8_count rfl rfl ?_
  refine rn_go 1 (by with_unfolding_all rfl) ?_
  refine rn_one (by with_unfolding_all rfl) ?_
  by_cases w0 : w = 0
  · rw [if_pos w0]
    simp only [am_pick, if_pos w0]
    refine rn_go 80 (by with_unfolding_all rfl) ?_
    have key : am_ev 1 70 [.ref 1] (wd g T A gm Am) (some (.int (cnt (A 1) 8))) (wd g T A gm Am) := by
      refine rn_ev am_m_X6_present rfl rfl ?_
      refine rn_to 4 80 (by with_unfolding_all rfl) ?_
      with_unfolding_all exact x6_preL 8 0 rfl
    refine rn_cl (by with_unfolding_all rfl) (ev_up (by decide) (key)) ?_
    refine rn_go 80 (by with_unfolding_all rfl) ?_
    exact rn_rt (by with_unfolding_all rfl) trivial rfl rfl
  rw [if_neg w0]
  by_cases w1 : w = 1
  · rw [if_pos w1]
    simp only [am_pick, if_neg w0, if_pos w1]
    refine rn_go 80 (by with_unfolding_all rfl) ?_
    exact rn_rt (by with_unfolding_all rfl) trivial rfl rfl
  rw [if_neg w1]
  by_cases w2 : w = 2
  · rw [if_pos w2]
    simp only [am_pick, if_neg w0, if_neg w1, if_pos w2]
    refine rn_go 80 (by with_unfolding_all rfl) ?_
    exact rn_rt (by with_unfolding_all rfl) trivial rfl rfl
  rw [if_neg w2]
  by_cases w3 : w = 3
  · rw [if_pos w3]
    simp only [am_pick, if_neg w0, if_neg w1, if_neg w2, if_pos w3]
    refine rn_go 80 (by with_unfolding_all rfl) ?_
    exact rn_rt (by with_unfolding_all rfl) trivial rfl rfl
  rw [if_neg w3]
  by_cases w4 : w = 4
  · rw [if_pos w4]
    simp only [am_pick, if_neg w0, if_neg w1, if_neg w2, if_neg w3, if_pos w4]
    refine rn_go 80 (by with_unfolding_all rfl) ?_
    exact rn_rt (by with_unfolding_all rfl) trivial rfl rfl
  rw [if_neg w4]
  by_cases w5 : w = 5
  · rw [if_pos w5]
    simp only [am_pick, if_neg w0, if_neg w1, if_neg w2, if_neg w3, if_neg w4, if_pos w5]
    refine rn_go 80 (by with_unfolding_all rfl) ?_
    refine rn_cl (by with_unfolding_all rfl) (ev_up (by decide) (xh_ableSet0 hn hn4)) ?_
    refine rn_go 80 (by with_unfolding_all rfl) ?_
    exact rn_rt (by with_unfolding_all rfl) trivial rfl rfl
  rw [if_neg w5]
  by_cases w6 : w = 6
  · rw [if_pos w6]
    simp only [am_pick, if_neg w0, if_neg w1, if_neg w2, if_neg w3, if_neg w4, if_neg w5, if_pos w6]
    refine rn_go 80 (by with_unfolding_all rfl) ?_
    exact rn_rt (by with_unfolding_all rfl) trivial rfl rfl
  rw [if_neg w6]
  by_cases w7 : w = 7
  · rw [if_pos w7]
    simp only [am_pick, if_neg w0, if_neg w1, if_neg w2, if_neg w3, if_neg w4, if_neg w5, if_neg w6, if_pos w7]
    refine rn_go 80 (by with_unfolding_all rfl) ?_
    exact rn_rt (by with_unfolding_all rfl) trivial rfl rfl
  rw [if_neg w7]
  by_cases w8 : w = 8
  · rw [if_pos w8]
    simp only [am_pick, if_neg w0, if_neg w1, if_neg w2, if_neg w3, if_neg w4, if_neg w5, if_neg w6, if_neg w7, if_pos w8]
    refine rn_go 80 (by with_unfolding_all rfl) ?_
    exact rn_rt (by with_unfolding_all rfl) trivial rfl rfl
  rw [if_neg w8]
  simp only [am_pick, if_neg w0, if_neg w1, if_neg w2, if_neg w3, if_neg w4, if_neg w5, if_neg w6, if_neg w7, if_neg w8]
  refine rn_go 80 (by with_unfolding_all rfl) ?_
  exact rn_rt (by with_unfolding_all rfl) trivial rfl rfl
set_option maxRecDepth 10000 in
theorem xm_count {n : Nat} (hok : okR (Am 2) (Am 3)) (ht : okT (tv (Am 0) 0) n) (hn : tv (Am 0) 0 1 = nI n) (hn4 : n ≤ 4) (w : Int32) : am_ev 12 225 [.ref 43, .int w] (wd g T A gm Am) (some (.int (sCount w (Am 3) (tv (Am 0) 0) n (gm 1) (gm 2)))) (wd g T A gm Am) := by
  unfold sCount
  refine rn_ev am_m_X9_count rfl rfl ?_
  refine rn_go 3 (by with_unfolding_all rfl) ?_
  refine rn_one (by with_unfolding_all rfl) ?_
  by_cases w0 : w = 0
  · rw [if_pos w0]
    simp only [am_pick, if_pos w0]
    refine rn_to 54 80 (by with_unfolding_all rfl) ?_
    with_unfolding_all exact xm_preL hok w 8 0 rfl
  rw [if_neg w0]
  by_cases w1 : w = 1
  · rw [if_pos w1]
    simp only [am_pick, if_neg w0, if_pos w1]
    refine rn_go 80 (by with_unfolding_all rfl) ?_
    refine rn_ld (0 + 0) (by with_unfolding_all rfl) rfl (by omega) (by decide) ?_
    refine rn_go 80 (by with_unfolding_all rfl) ?_
    exact rn_rt (by with_unfolding_all rfl) trivial rfl rfl
  rw [if_neg w1]
  by_cases w2 : w = 2
  · rw [if_pos w2]
    simp only [am_pick, if_neg w0, if_neg w1, if_pos w2]
    refine rn_go 80 (by with_unfolding_all rfl) ?_
    refine rn_ld (0 + 1) (by with_unfolding_all rfl) rfl (by omega) (by decide) ?_
    refine rn_go 80 (by with_unfolding_all rfl) ?_
    exact rn_rt (by with_unfolding_all rfl) trivial rfl rfl
  rw [if_neg w2]
  by_cases w3 : w = 3
  · rw [if_pos w3]
    simp only [am_pick, if_neg w0, if_neg w1, if_neg w2, if_pos w3]
    refine rn_go 80 (by with_unfolding_all rfl) ?_
    refine rn_ld (0 + 3) (by with_unfolding_all rfl) rfl (by omega) (by decide) ?_
    refine rn_go 80 (by with_unfolding_all rfl) ?_
    exact rn_rt (by with_unfolding_all rfl) trivial rfl rfl
  rw [if_neg w3]
  by_cases w4 : w = 4
  · rw [if_pos w4]
    simp only [am_pick, if_neg w0, if_neg w1, if_neg w2, if_neg w3, if_pos w4]
    refine rn_go 80 (by with_unfolding_all rfl) ?_
    refine rn_ld (0 + 2) (by with_unfolding_all rfl) rfl (by omega) (by decide) ?_
    refine rn_go 80 (by with_unfolding_all rfl) ?_
    exact rn_rt (by with_unfolding_all rfl) trivial rfl rfl
  rw [if_neg w4]
  by_cases w5 : w = 5
  · rw [if_pos w5]
    simp only [am_pick, if_neg w0, if_neg w1, if_neg w2, if_neg w3, if_neg w4, if_pos w5]
    refine rn_go 80 (by with_unfolding_all rfl) ?_
    refine rn_cl (by with_unfolding_all rfl) (ev_up (by decide) (xm_canSpeak (B := 0) (by omega) ht hn hn4)) ?_
    refine rn_go 80 (by with_unfolding_all rfl) ?_
    exact rn_rt (by with_unfolding_all rfl) trivial rfl rfl
  rw [if_neg w5]
  by_cases w6 : w = 6
  · rw [if_pos w6]
    simp only [am_pick, if_neg w0, if_neg w1, if_neg w2, if_neg w3, if_neg w4, if_neg w5, if_pos w6]
    refine rn_go 80 (by with_unfolding_all rfl) ?_
    exact rn_rt (by with_unfolding_all rfl) trivial rfl rfl
  rw [if_neg w6]
  by_cases w7 : w = 7
  · rw [if_pos w7]
    simp only [am_pick, if_neg w0, if_neg w1, if_neg w2, if_neg w3, if_neg w4, if_neg w5, if_neg w6, if_pos w7]
    refine rn_go 80 (by with_unfolding_all rfl) ?_
    exact rn_rt (by with_unfolding_all rfl) trivial rfl rfl
  rw [if_neg w7]
  by_cases w8 : w = 8
  · rw [if_pos w8]
    simp only [am_pick, if_neg w0, if_neg w1, if_neg w2, if_neg w3, if_neg w4, if_neg w5, if_neg w6, if_neg w7, if_pos w8]
    refine rn_go 80 (by with_unfolding_all rfl) ?_
    refine rn_ld (0 + 4) (by with_unfolding_all rfl) rfl (by omega) (by decide) ?_
    refine rn_go 80 (by with_unfolding_all rfl) ?_
    exact rn_rt (by with_unfolding_all rfl) trivial rfl rfl
  rw [if_neg w8]
  simp only [am_pick, if_neg w0, if_neg w1, if_neg w2, if_neg w3, if_neg w4, if_neg w5, if_neg w6, if_neg w7, if_neg w8]
  refine rn_go 80 (by with_unfolding_all rfl) ?_
  exact rn_rt (by with_unfolding_all rfl) trivial rfl rfl
end

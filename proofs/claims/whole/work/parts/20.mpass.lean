/-! a day of a town goes by -/
set_option maxRecDepth 10000 in
theorem up_comm {f : Nat → Int32} {a b : Nat} {x y : Int32} (h : a ≠ b) : upd (upd f a x) b y = upd (upd f b y) a x := by
  funext j
  unfold upd
  by_cases h1 : j = b
  · rw [if_pos h1, if_neg (by omega), if_pos h1]
  · rw [if_neg h1]
    by_cases h2 : j = a
    · rw [if_pos h2, if_pos h2]
    · rw [if_neg h2, if_neg h2, if_neg h1]
def cpk (r : Nat → Int32) (a b i : Nat) : Nat → Int32 := fun j => if j < i then r (a + j) else r (b + j)
set_option maxRecDepth 10000 in
theorem cpk_21 {r : Nat → Int32} {a b : Nat} : rs r b (cpk r a b 21) = rs r b (tv r a) := rs_cong (fun k hk => by unfold cpk tv; rw [if_pos hk])
set_option maxRecDepth 10000 in
theorem cpk_0 {r : Nat → Int32} {a b : Nat} : rs r b (cpk r a b 0) = r := by
  rw [rs_cong (t' := tv r b) (fun k hk => by unfold cpk tv; rw [if_neg (by omega)]), rs_id]
set_option maxRecDepth 10000 in
theorem cpk_s {r : Nat → Int32} {a b i : Nat} (hi : i < 21) : rs r b (cpk r a b (i + 1)) = rs r b (upd (cpk r a b i) i (r (a + i))) := rs_cong (fun k hk => by
  unfold upd cpk
  by_cases h1 : k = i
  · rw [if_pos h1, if_pos (by omega), h1]
  · rw [if_neg h1]
    by_cases h2 : k < i
    · rw [if_pos (by omega), if_pos h2]
    · rw [if_neg (by omega), if_neg h2])
set_option maxRecDepth 10000 in
theorem mbt_n {b : Nat} : mbt (nI b) = if b ≤ 20 then nI b else mbt (nI b) := by
  by_cases h : b ≤ 20
  · rw [if_pos h]
    unfold mbt
    rw [if_pos (nI_pos' (by omega)), if_pos (show nI b ≤ (20 : Int32) from (show nI b ≤ nI 20 from nI_le h (by decide)))]
  · rw [if_neg h]
set_option maxRecDepth 10000 in
theorem mbt_le {b : Nat} (h : b ≤ 20) : mbt (nI b) = nI b := by
  rw [mbt_n, if_pos h]
set_option maxRecDepth 10000 in
theorem mbt_mn {b : Nat} (h : b < 2 ^ 31) : mbt (nI b) = mn20 (nI b) := by
  unfold mbt mn20
  rw [if_pos (nI_pos' h)]
  by_cases h1 : b < 20
  · rw [if_pos (show nI b ≤ (20 : Int32) from (show nI b ≤ nI 20 from nI_le (by omega) (by decide))), if_pos (show nI b < (20 : Int32) from (show nI b < nI 20 from nI_lt h1 (by decide)))]
  · rw [if_neg (show ¬ nI b < (20 : Int32) from (show ¬ nI b < nI 20 from nI_nlt (by omega) h))]
    by_cases h2 : b = 20
    · subst h2; rfl
    · rw [if_neg (show ¬ nI b ≤ (20 : Int32) from (show ¬ nI b ≤ nI 20 from nI_ge (by omega) h))]
set_option maxRecDepth 10000 in
theorem tc_nat {t : Nat → Int32} {n p : Nat} (h : okT t n) (hp : p < n) : ∃ c : Nat, c ≤ 10 ∧ tc t p = nI c := by
  obtain ⟨c, hc, e⟩ := h.2
  unfold tc
  rw [e]
  rcases (h.1 p hp).1 with k | k | k | k | k <;> rw [k]
  · exact ⟨c, by omega, rfl⟩
  · exact ⟨c + 1, by omega, nI_1 c⟩
  · exact ⟨c, by omega, rfl⟩
  · exact ⟨0, by omega, rfl⟩
  · exact ⟨0, by omega, rfl⟩
section
variable {t : Nat → Int32} {n i : Nat} {s : Int32}
set_option maxRecDepth 10000 in
theorem pb_n (ht : okT t n) (hi : i < n) (c5 : tb s i = 0) (c3 : ¬ t (9 + i) = 3) : mbt (t (13 + i) + t (17 + i)) = pb t s i := by
  obtain ⟨-, ⟨b, hb, e1⟩, m, hm, e2⟩ := ht.1 i hi
  unfold pb
  rw [if_pos c5, if_neg c3, e1, e2, nI_add]
  exact mbt_mn (by omega)
set_option maxRecDepth 10000 in
theorem pb_o (ht : okT t n) (hi : i < n) (c5 : tb s i = 0) (c3 : t (9 + i) = 3) (c4 : t 3 - t 3 / 2 * 2 = 1) : mbt (t (13 + i) + t (17 + i)) = pb t s i := by
  obtain ⟨-, ⟨b, hb, e1⟩, m, hm, e2⟩ := ht.1 i hi
  unfold pb
  rw [if_pos c5, if_pos c3, if_pos (show dr t = 1 from c4), e1, e2, nI_add]
  exact mbt_mn (by omega)
set_option maxRecDepth 10000 in
theorem pb_e (ht : okT t n) (hi : i < n) (c5 : tb s i = 0) (c3 : t (9 + i) = 3) (c4 : ¬ t 3 - t 3 / 2 * 2 = 1) : mbt (t (13 + i) + 0) = pb t s i := by
  obtain ⟨-, ⟨b, hb, e1⟩, m, hm, e2⟩ := ht.1 i hi
  unfold pb
  rw [if_pos c5, if_pos c3, if_neg (show ¬ dr t = 1 from c4), Int32.add_zero, e1]
  exact mbt_le hb
set_option maxRecDepth 10000 in
theorem pb_s (ht : okT t n) (hi : i < n) (c5 : ¬ tb s i = 0) (h : tc t i ≤ t (13 + i)) : mbt (t (13 + i) + -mco (t (9 + i)) (t 2)) = pb t s i := by
  obtain ⟨-, ⟨b, hb, e1⟩, m, hm, e2⟩ := ht.1 i hi
  obtain ⟨c, hc, e3⟩ := tc_nat ht hi
  unfold pb
  rw [if_neg c5, mco_tc ht hi, ← Int32.sub_eq_add_neg, e1, e3]
  rw [e1, e3] at h
  have h1 : c ≤ b := (nI_leI (by omega) (by omega)).mp h
  rw [pk_sub h1]
  exact mbt_le (by omega)
set_option maxRecDepth 10000 in
theorem pb_ok (ht : okT t n) (hi : i < n) (h : ¬ tb s i = 0 → tc t i ≤ t (13 + i)) : ∃ b : Nat, b ≤ 20 ∧ pb t s i = nI b := by
  obtain ⟨-, ⟨b, hb, e1⟩, m, hm, e2⟩ := ht.1 i hi
  have hmn : ∃ b' : Nat, b' ≤ 20 ∧ mn20 (nI (b + m)) = nI b' := by
    unfold mn20
    by_cases h1 : b + m < 20
    · exact ⟨b + m, by omega, if_pos (show nI (b + m) < (20 : Int32) from (show nI (b + m) < nI 20 from nI_lt h1 (by decide)))⟩
    · exact ⟨20, by omega, by rw [if_neg (show ¬ nI (b + m) < (20 : Int32) from (show ¬ nI (b + m) < nI 20 from nI_nlt (by omega) (by omega)))]; rfl⟩
  unfold pb
  by_cases c5 : tb s i = 0
  · rw [if_pos c5, e1, e2, nI_add]
    split
    · split
      · exact hmn
      · exact ⟨b, hb, rfl⟩
    · exact hmn
  · rw [if_neg c5]
    obtain ⟨c, hc, e3⟩ := tc_nat ht hi
    have h2 := h c5
    rw [e1, e3] at h2 ⊢
    have h1 : c ≤ b := (nI_leI (by omega) (by omega)).mp h2
    rw [pk_sub h1]
    exact ⟨b - c, by omega, rfl⟩
set_option maxRecDepth 10000 in
theorem pq_br : ∀ (m j : Nat), j < m → m ≤ 4 → pq t s m (13 + j) = pb t s j
  | 0, j, h, _ => by omega
  | m + 1, j, h, h4 => by
    show upd (pq t s m) (13 + m) (pb t s m) (13 + j) = pb t s j
    by_cases e : j = m
    · subst e; exact up_eq
    · rw [up_ne (by omega), pq_br m j (by omega) (by omega)]
-- a town stays as it must be
set_option maxRecDepth 10000 in
theorem pd_ok (ht : okT t n) (hn4 : n ≤ 4) (hs : ∀ i, i < n → ¬ tb s i = 0 → tc t i ≤ t (13 + i)) (c : Int32) : okT (pd t s n c) n := by
  have low : ∀ k, (k < 13 ∨ 17 ≤ k) → k ≠ 3 → k ≠ 4 → pd t s n c k = t k := by
    intro k h1 h2 h3
    unfold pd
    rw [up_ne h2, up_ne h3, pq_lo n k (by omega)]
  refine ⟨fun p hp => ?_, by rw [low 2 (by omega) (by decide) (by decide)]; exact ht.2⟩
  obtain ⟨h1, h2, h3⟩ := ht.1 p hp
  refine ⟨by rw [low (9 + p) (by omega) (by omega) (by omega)]; exact h1, ?_, by rw [low (17 + p) (by omega) (by omega) (by omega)]; exact h3⟩
  obtain ⟨b, hb, e⟩ := pb_ok ht hp (hs p hp)
  refine ⟨b, hb, ?_⟩
  unfold pd
  rw [up_ne (by omega), up_ne (by omega), pq_br n p hp hn4, e]
end
section
variable {g gm : Nat → Int32} {T A Am : Nat → Nat → Int32} {h : am_H}
set_option maxRecDepth 10000 in
theorem xm_costOfR {B p : Nat} (hB : B + 21 ≤ 672) (hp : p < 4) : am_ev 2 169 [.ref 43, .int (nI B), .int (nI p)] (wd g T A gm Am) (some (.int (mco (Am 0 (B + (9 + p))) (Am 0 (B + 2))))) (wd g T A gm Am) := by
  refine rn_ev am_m_X9_costOf rfl rfl ?_
  refine rn_go 80 (by with_unfolding_all rfl) ?_
  refine rn_ld (B + (9 + p)) (by with_unfolding_all rfl) (ix3 B p 9) (by omega) (by decide) ?_
  refine rn_go 80 (by with_unfolding_all rfl) ?_
  refine rn_ld (B + 2) (by with_unfolding_all rfl) (ix2 B 2) (by omega) (by decide) ?_
  refine rn_go 80 (by with_unfolding_all rfl) ?_
  refine rn_cl (by with_unfolding_all rfl) (ev_up (by decide) (xm_costBy _ _)) ?_
  refine rn_go 80 (by with_unfolding_all rfl) ?_
  exact rn_rt (by with_unfolding_all rfl) trivial rfl rfl
set_option maxRecDepth 10000 in
theorem xm_passL {B n : Nat} (hB : B + 21 ≤ 672) (ht : okT (tv (Am 0) B) n) (hn : (tv (Am 0) B) 1 = nI n) (hn4 : n ≤ 4) (s nd c9 x6 x7 : Int32) (o6 o7 : Option Value) (hs : ∀ i, i < n → ¬ tb s i = 0 → tc (tv (Am 0) B) i ≤ (tv (Am 0) B) (13 + i)) : ∀ k i, i + k = n → ∀ o6 o7 : Option Value, rn none 4 am_t_X9_passFor (20, [some (.ref 43), some (.int (nI B)), some (.int s), some (.int nd), some (.int c9), some (.int (nI i)), o6, o7], [], wd g T A gm (tu Am 0 (rs (Am 0) B (pq (tv (Am 0) B) s i)))) (some (.int c9)) (wd g T A gm (tu Am 0 (rs (Am 0) B (pd (tv (Am 0) B) s n c9))))
  | 0, i, hi => by
    intro o6 o7
    have hin : i = n := by omega
    subst hin
    refine rn_go 80 (by with_unfolding_all rfl) ?_
    refine rn_ld (B + 1) (by with_unfolding_all rfl) (ix2 B 1) (by omega) (by decide) ?_
    rw [show tu Am 0 (rs (Am 0) B (pq (tv (Am 0) B) s i)) 0 (B + 1) = nI i by rw [tu_s, rs_at (by omega), pq_lo i 1 (by omega), hn]]
    refine rn_go 80 (by with_unfolding_all rfl) ?_
    refine rn_br (by with_unfolding_all rfl) (fun c => ?_) (fun c => ?_)
    · refine rn_go 80 (by with_unfolding_all rfl) ?_
      refine rn_ld (B + 3) (by with_unfolding_all rfl) (ix2 B 3) (by omega) (by decide) ?_
      rw [show tu Am 0 (rs (Am 0) B (pq (tv (Am 0) B) s i)) 0 (B + 3) = (tv (Am 0) B) 3 by rw [tu_s, rs_at (by omega), pq_lo i 3 (by omega)]]
      refine rn_go 80 (by with_unfolding_all rfl) ?_
      refine rn_st (B + 3) (by with_unfolding_all rfl) (ix2 B 3) (by omega) (by decide) ?_
      refine rn_hp (by with_unfolding_all exact (wM_0)) ?_
      rw [tu_tu, tu_s, rs_up (by omega)]
      refine rn_go 80 (by with_unfolding_all rfl) ?_
      refine rn_ld (B + 4) (by with_unfolding_all rfl) (ix2 B 4) (by omega) (by decide) ?_
      rw [show tu Am 0 (rs (Am 0) B (upd (pq (tv (Am 0) B) s i) 3 ((tv (Am 0) B) 3 + 1))) 0 (B + 4) = (tv (Am 0) B) 4 by rw [tu_s, rs_at (by omega), up_ne (by decide), pq_lo i 4 (by omega)]]
      refine rn_go 80 (by with_unfolding_all rfl) ?_
      refine rn_st (B + 4) (by with_unfolding_all rfl) (ix2 B 4) (by omega) (by decide) ?_
      refine rn_hp (by with_unfolding_all exact (wM_0)) ?_
      rw [tu_tu, tu_s, rs_up (by omega), up_comm (by decide)]
      refine rn_go 80 (by with_unfolding_all rfl) ?_
      exact rn_rt (by with_unfolding_all rfl) trivial rfl rfl
    · exact absurd (Int32.le_refl _) c
  | k + 1, i, hi => by
    intro o6 o7
    have hin : i < n := by omega
    have ih := xm_passL hB ht hn hn4 s nd c9 x6 x7 o6 o7 hs k (i + 1) (by omega)
    rw [← nI_1, show pq (tv (Am 0) B) s (i + 1) = upd (pq (tv (Am 0) B) s i) (13 + i) (pb (tv (Am 0) B) s i) from rfl] at ih
    have e1 : tu Am 0 (rs (Am 0) B (pq (tv (Am 0) B) s i)) 0 (B + 1) = nI n := by rw [tu_s, rs_at (by omega), pq_lo i 1 (by omega), hn]
    have e9 : tu Am 0 (rs (Am 0) B (pq (tv (Am 0) B) s i)) 0 (B + (9 + i)) = (tv (Am 0) B) (9 + i) := by rw [tu_s, rs_at (by omega), pq_lo i (9 + i) (by omega)]
    have e13 : tu Am 0 (rs (Am 0) B (pq (tv (Am 0) B) s i)) 0 (B + (13 + i)) = (tv (Am 0) B) (13 + i) := by rw [tu_s, rs_at (by omega), pq_lo i (13 + i) (by omega)]
    have e17 : tu Am 0 (rs (Am 0) B (pq (tv (Am 0) B) s i)) 0 (B + (17 + i)) = (tv (Am 0) B) (17 + i) := by rw [tu_s, rs_at (by omega), pq_lo i (17 + i) (by omega)]
    have e2 : tu Am 0 (rs (Am 0) B (pq (tv (Am 0) B) s i)) 0 (B + 2) = (tv (Am 0) B) 2 := by rw [tu_s, rs_at (by omega), pq_lo i 2 (by omega)]
    have e3 : tu Am 0 (rs (Am 0) B (pq (tv (Am 0) B) s i)) 0 (B + 3) = (tv (Am 0) B) 3 := by rw [tu_s, rs_at (by omega), pq_lo i 3 (by omega)]
    refine rn_go 80 (by with_unfolding_all rfl) ?_
    refine rn_ld (B + 1) (by with_unfolding_all rfl) (ix2 B 1) (by omega) (by decide) ?_
    rw [e1]
    refine rn_go 80 (by with_unfolding_all rfl) ?_
    refine rn_br (by with_unfolding_all rfl) (fun c => ?_) (fun c => ?_)
    · exact absurd c (nI_ge hin (by omega))
    refine rn_go 80 (by with_unfolding_all rfl) ?_
    refine rn_ld (B + (9 + i)) (by with_unfolding_all rfl) (ix3 B i 9) (by omega) (by decide) ?_
    rw [e9]
    refine rn_go 80 (by with_unfolding_all rfl) ?_
    refine rn_br (by with_unfolding_all rfl) (fun c3 => ?_) (fun c3 => ?_)
    · refine rn_go 80 (by with_unfolding_all rfl) ?_
      refine rn_ld (B + 3) (by with_unfolding_all rfl) (ix2 B 3) (by omega) (by decide) ?_
      refine rn_go 80 (by with_unfolding_all rfl) ?_
      refine rn_ck (by with_unfolding_all rfl) (by decide) ?_
      refine rn_go 80 (by with_unfolding_all rfl) ?_
      refine rn_br (by with_unfolding_all rfl) (fun c4 => ?_) (fun c4 => ?_)
      · skip
        refine rn_go 80 (by with_unfolding_all rfl) ?_
        refine rn_cl (by with_unfolding_all rfl) (ev_up (by decide) (xm_has s i)) ?_
        refine rn_go 80 (by with_unfolding_all rfl) ?_
        refine rn_br (by with_unfolding_all rfl) (fun c5 => ?_) (fun c5 => ?_)
        · refine rn_go 80 (by with_unfolding_all rfl) ?_
          refine rn_br (by with_unfolding_all rfl) (fun c => absurd c (by decide)) (fun c => ?_)
          refine rn_go 80 (by with_unfolding_all rfl) ?_
          refine rn_ld (B + (17 + i)) (by with_unfolding_all rfl) (ix3 B i 17) (by omega) (by decide) ?_
          rw [e17]
          refine rn_go 80 (by with_unfolding_all rfl) ?_
          refine rn_ld (B + (13 + i)) (by with_unfolding_all rfl) (ix3 B i 13) (by omega) (by decide) ?_
          rw [e13]
          refine rn_go 80 (by with_unfolding_all rfl) ?_
          refine rn_cl (by with_unfolding_all rfl) (ev_up (by decide) (xm_between _)) ?_
          refine rn_go 80 (by with_unfolding_all rfl) ?_
          refine rn_st (B + (13 + i)) (by with_unfolding_all rfl) (ix3 B i 13) (by omega) (by decide) ?_
          refine rn_hp (by with_unfolding_all exact (wM_0)) ?_
          refine rn_to 20 80 (by with_unfolding_all rfl) ?_
          rw [tu_tu, tu_s, rs_up (by omega), show mbt ((tv (Am 0) B) (13 + i) + (tv (Am 0) B) (17 + i)) = pb (tv (Am 0) B) s i from pb_o ht hin c5 c3 (by rw [e3] at c4; exact c4)]
          with_unfolding_all exact ih _ _
        · refine rn_go 80 (by with_unfolding_all rfl) ?_
          refine rn_cl (by with_unfolding_all rfl) (ev_up (by decide) (xm_costOfR (by omega) (by omega))) ?_
          rw [e9, e2]
          refine rn_go 80 (by with_unfolding_all rfl) ?_
          refine rn_ld (B + (13 + i)) (by with_unfolding_all rfl) (ix3 B i 13) (by omega) (by decide) ?_
          rw [e13]
          refine rn_go 80 (by with_unfolding_all rfl) ?_
          refine rn_cl (by with_unfolding_all rfl) (ev_up (by decide) (xm_between _)) ?_
          refine rn_go 80 (by with_unfolding_all rfl) ?_
          refine rn_st (B + (13 + i)) (by with_unfolding_all rfl) (ix3 B i 13) (by omega) (by decide) ?_
          refine rn_hp (by with_unfolding_all exact (wM_0)) ?_
          refine rn_to 20 80 (by with_unfolding_all rfl) ?_
          rw [tu_tu, tu_s, rs_up (by omega), show mbt ((tv (Am 0) B) (13 + i) + -mco ((tv (Am 0) B) (9 + i)) ((tv (Am 0) B) 2)) = pb (tv (Am 0) B) s i from pb_s ht hin c5 (hs i hin c5)]
          with_unfolding_all exact ih _ _
      · skip
        refine rn_go 80 (by with_unfolding_all rfl) ?_
        refine rn_cl (by with_unfolding_all rfl) (ev_up (by decide) (xm_has s i)) ?_
        refine rn_go 80 (by with_unfolding_all rfl) ?_
        refine rn_br (by with_unfolding_all rfl) (fun c5 => ?_) (fun c5 => ?_)
        · refine rn_go 80 (by with_unfolding_all rfl) ?_
          refine rn_br (by with_unfolding_all rfl) (fun c => ?_) (fun c => absurd rfl c)
          refine rn_go 80 (by with_unfolding_all rfl) ?_
          refine rn_ld (B + (13 + i)) (by with_unfolding_all rfl) (ix3 B i 13) (by omega) (by decide) ?_
          rw [e13]
          refine rn_go 80 (by with_unfolding_all rfl) ?_
          refine rn_cl (by with_unfolding_all rfl) (ev_up (by decide) (xm_between _)) ?_
          refine rn_go 80 (by with_unfolding_all rfl) ?_
          refine rn_st (B + (13 + i)) (by with_unfolding_all rfl) (ix3 B i 13) (by omega) (by decide) ?_
          refine rn_hp (by with_unfolding_all exact (wM_0)) ?_
          refine rn_to 20 80 (by with_unfolding_all rfl) ?_
          rw [tu_tu, tu_s, rs_up (by omega), show mbt ((tv (Am 0) B) (13 + i) + 0) = pb (tv (Am 0) B) s i from pb_e ht hin c5 c3 (by rw [e3] at c4; exact c4)]
          with_unfolding_all exact ih _ _
        · refine rn_go 80 (by with_unfolding_all rfl) ?_
          refine rn_cl (by with_unfolding_all rfl) (ev_up (by decide) (xm_costOfR (by omega) (by omega))) ?_
          rw [e9, e2]
          refine rn_go 80 (by with_unfolding_all rfl) ?_
          refine rn_ld (B + (13 + i)) (by with_unfolding_all rfl) (ix3 B i 13) (by omega) (by decide) ?_
          rw [e13]
          refine rn_go 80 (by with_unfolding_all rfl) ?_
          refine rn_cl (by with_unfolding_all rfl) (ev_up (by decide) (xm_between _)) ?_
          refine rn_go 80 (by with_unfolding_all rfl) ?_
          refine rn_st (B + (13 + i)) (by with_unfolding_all rfl) (ix3 B i 13) (by omega) (by decide) ?_
          refine rn_hp (by with_unfolding_all exact (wM_0)) ?_
          refine rn_to 20 80 (by with_unfolding_all rfl) ?_
          rw [tu_tu, tu_s, rs_up (by omega), show mbt ((tv (Am 0) B) (13 + i) + -mco ((tv (Am 0) B) (9 + i)) ((tv (Am 0) B) 2)) = pb (tv (Am 0) B) s i from pb_s ht hin c5 (hs i hin c5)]
          with_unfolding_all exact ih _ _
    · skip
      refine rn_go 80 (by with_unfolding_all rfl) ?_
      refine rn_cl (by with_unfolding_all rfl) (ev_up (by decide) (xm_has s i)) ?_
      refine rn_go 80 (by with_unfolding_all rfl) ?_
      refine rn_br (by with_unfolding_all rfl) (fun c5 => ?_) (fun c5 => ?_)
      · refine rn_go 80 (by with_unfolding_all rfl) ?_
        refine rn_br (by with_unfolding_all rfl) (fun c => absurd c (by decide)) (fun c => ?_)
        refine rn_go 80 (by with_unfolding_all rfl) ?_
        refine rn_ld (B + (17 + i)) (by with_unfolding_all rfl) (ix3 B i 17) (by omega) (by decide) ?_
        rw [e17]
        refine rn_go 80 (by with_unfolding_all rfl) ?_
        refine rn_ld (B + (13 + i)) (by with_unfolding_all rfl) (ix3 B i 13) (by omega) (by decide) ?_
        rw [e13]
        refine rn_go 80 (by with_unfolding_all rfl) ?_
        refine rn_cl (by with_unfolding_all rfl) (ev_up (by decide) (xm_between _)) ?_
        refine rn_go 80 (by with_unfolding_all rfl) ?_
        refine rn_st (B + (13 + i)) (by with_unfolding_all rfl) (ix3 B i 13) (by omega) (by decide) ?_
        refine rn_hp (by with_unfolding_all exact (wM_0)) ?_
        refine rn_to 20 80 (by with_unfolding_all rfl) ?_
        rw [tu_tu, tu_s, rs_up (by omega), show mbt ((tv (Am 0) B) (13 + i) + (tv (Am 0) B) (17 + i)) = pb (tv (Am 0) B) s i from pb_n ht hin c5 c3]
        with_unfolding_all exact ih _ _
      · refine rn_go 80 (by with_unfolding_all rfl) ?_
        refine rn_cl (by with_unfolding_all rfl) (ev_up (by decide) (xm_costOfR (by omega) (by omega))) ?_
        rw [e9, e2]
        refine rn_go 80 (by with_unfolding_all rfl) ?_
        refine rn_ld (B + (13 + i)) (by with_unfolding_all rfl) (ix3 B i 13) (by omega) (by decide) ?_
        rw [e13]
        refine rn_go 80 (by with_unfolding_all rfl) ?_
        refine rn_cl (by with_unfolding_all rfl) (ev_up (by decide) (xm_between _)) ?_
        refine rn_go 80 (by with_unfolding_all rfl) ?_
        refine rn_st (B + (13 + i)) (by with_unfolding_all rfl) (ix3 B i 13) (by omega) (by decide) ?_
        refine rn_hp (by with_unfolding_all exact (wM_0)) ?_
        refine rn_to 20 80 (by with_unfolding_all rfl) ?_
        rw [tu_tu, tu_s, rs_up (by omega), show mbt ((tv (Am 0) B) (13 + i) + -mco ((tv (Am 0) B) (9 + i)) ((tv (Am 0) B) 2)) = pb (tv (Am 0) B) s i from pb_s ht hin c5 (hs i hin c5)]
        with_unfolding_all exact ih _ _
set_option maxRecDepth 10000 in
theorem xm_passFor {B n : Nat} (hB : B + 21 ≤ 672) (ht : okT (tv (Am 0) B) n) (hn : (tv (Am 0) B) 1 = nI n) (hn4 : n ≤ 4) (s nd : Int32) (hs : ∀ i, i < n → ¬ tb s i = 0 → tc (tv (Am 0) B) i ≤ (tv (Am 0) B) (13 + i)) : am_ev 6 175 [.ref 43, .int (nI B), .int s, .int nd] (wd g T A gm Am) (some (.int (if ts (tv (Am 0) B) s (ta (tv (Am 0) B) n) n < nd then 0 else 1))) (wd g T A gm (tu Am 0 (rs (Am 0) B (pd (tv (Am 0) B) s n (if ts (tv (Am 0) B) s (ta (tv (Am 0) B) n) n < nd then 0 else 1))))) := by
  have key := fun c9 => xm_passL (g := g) (T := T) (A := A) (gm := gm) hB ht hn hn4 s nd c9 0 0 none none hs n 0 (by omega) none none
  rw [show pq (tv (Am 0) B) s 0 = (tv (Am 0) B) from rfl, rs_id, tu_id] at key
  refine rn_ev am_m_X9_passFor rfl rfl ?_
  refine rn_go 80 (by with_unfolding_all rfl) ?_
  refine rn_cl (by with_unfolding_all rfl) (ev_up (by decide) (xm_weightOf hB ht hn hn4 s)) ?_
  refine rn_go 80 (by with_unfolding_all rfl) ?_
  refine rn_br (by with_unfolding_all rfl) (fun c => ?_) (fun c => ?_)
  · rw [if_pos c]
    refine rn_to 20 80 (by with_unfolding_all rfl) ?_
    refine rn_of_le (d := 4) (by decide) ?_
    with_unfolding_all exact key 0
  · rw [if_neg c]
    refine rn_to 20 80 (by with_unfolding_all rfl) ?_
    refine rn_of_le (d := 4) (by decide) ?_
    with_unfolding_all exact key 1
set_option maxRecDepth 10000 in
theorem xm_pass {B n mo dy : Nat} (hB : B + 21 ≤ 672) (ht : okT (tv (Am 0) B) n) (hn : (tv (Am 0) B) 1 = nI n) (hn4 : n ≤ 4) (hm : (tv (Am 0) B) 0 = nI mo) (h1 : 1 ≤ mo) (h4 : mo ≤ 4) (hd : (tv (Am 0) B) 3 = nI dy) (hdy : dy < 2000) (s : Int32) (hs : ∀ i, i < n → ¬ tb s i = 0 → tc (tv (Am 0) B) i ≤ (tv (Am 0) B) (13 + i)) : am_ev 7 176 [.ref 43, .int (nI B), .int s] (wd g T A gm Am) (some (.int (cw (tv (Am 0) B) s (ta (tv (Am 0) B) n) n dy mo))) (wd g T A gm (tu Am 0 (rs (Am 0) B (pd (tv (Am 0) B) s n (cw (tv (Am 0) B) s (ta (tv (Am 0) B) n) n dy mo))))) := by
  have hlt : dy % mo < 4 := Nat.lt_of_lt_of_le (Nat.mod_lt _ h1) h4
  refine rn_ev am_m_X9_pass rfl rfl ?_
  refine rn_go 80 (by with_unfolding_all rfl) ?_
  refine rn_cl (by with_unfolding_all rfl) (ev_up (by decide) (xm_motionOf hB hm h1 h4 hd hdy)) ?_
  refine rn_go 80 (by with_unfolding_all rfl) ?_
  refine rn_ld (B + (5 + dy % mo)) (by with_unfolding_all rfl) (ix3 B (dy % mo) 5) (by omega) (by decide) ?_
  refine rn_go 80 (by with_unfolding_all rfl) ?_
  refine rn_cl (by with_unfolding_all rfl) (ev_up (by decide) (xm_passFor hB ht hn hn4 s _ hs)) ?_
  refine rn_go 80 (by with_unfolding_all rfl) ?_
  exact rn_rt (by with_unfolding_all rfl) trivial rfl rfl
set_option maxRecDepth 10000 in
theorem xm_passAll {B n mo dy : Nat} (hB : B + 21 ≤ 672) (ht : okT (tv (Am 0) B) n) (hn : (tv (Am 0) B) 1 = nI n) (hn4 : n ≤ 4) (hm : (tv (Am 0) B) 0 = nI mo) (h1 : 1 ≤ mo) (h4 : mo ≤ 4) (hd : (tv (Am 0) B) 3 = nI dy) (hdy : dy < 2000) (hs : ∀ i, i < n → ¬ tb (ta (tv (Am 0) B) n) i = 0 → tc (tv (Am 0) B) i ≤ (tv (Am 0) B) (13 + i)) : am_ev 8 177 [.ref 43, .int (nI B)] (wd g T A gm Am) (some (.int (cw (tv (Am 0) B) (ta (tv (Am 0) B) n) (ta (tv (Am 0) B) n) n dy mo))) (wd g T A gm (tu Am 0 (rs (Am 0) B (pd (tv (Am 0) B) (ta (tv (Am 0) B) n) n (cw (tv (Am 0) B) (ta (tv (Am 0) B) n) (ta (tv (Am 0) B) n) n dy mo))))) := by
  refine rn_ev am_m_X9_passAll rfl rfl ?_
  refine rn_go 80 (by with_unfolding_all rfl) ?_
  refine rn_cl (by with_unfolding_all rfl) (ev_up (by decide) (xm_canSpeak hB ht hn hn4)) ?_
  refine rn_go 80 (by with_unfolding_all rfl) ?_
  refine rn_cl (by with_unfolding_all rfl) (ev_up (by decide) (xm_pass hB ht hn hn4 hm h1 h4 hd hdy _ hs)) ?_
  refine rn_go 80 (by with_unfolding_all rfl) ?_
  exact rn_rt (by with_unfolding_all rfl) trivial rfl rfl
set_option maxRecDepth 10000 in
theorem xm_copyL {a b : Nat} (ha : a + 21 ≤ 672) (hb : b + 21 ≤ 672) (hab : a + 21 ≤ b ∨ b + 21 ≤ a) : ∀ k i, i + k = 21 → rn none 0 am_t_X9_copyTown (2, [some (.ref 43), some (.int (nI a)), some (.int (nI b)), some (.int (nI i))], [], wd g T A gm (tu Am 0 (rs (Am 0) b (cpk (Am 0) a b i)))) none (wd g T A gm (tu Am 0 (rs (Am 0) b (tv (Am 0) a))))
  | 0, i, hi => by
    have hi : i = 21 := by omega
    subst hi
    refine rn_go 80 (by with_unfolding_all rfl) ?_
    refine rn_br (by with_unfolding_all rfl) (fun c => ?_) (fun c => ?_)
    · refine rn_go 80 (by with_unfolding_all rfl) ?_
      refine rn_rt (by with_unfolding_all rfl) trivial rfl ?_
      rw [cpk_21]
    · exact absurd (by decide) c
  | k + 1, i, hi => by
    have ih := xm_copyL ha hb hab k (i + 1) (by omega)
    rw [← nI_1] at ih
    refine rn_go 80 (by with_unfolding_all rfl) ?_
    refine rn_br (by with_unfolding_all rfl) (fun c => ?_) (fun c => ?_)
    · exact absurd c (nI_ge (show i < 21 by omega) (by decide))
    refine rn_go 80 (by with_unfolding_all rfl) ?_
    refine rn_ld (a + i) (by with_unfolding_all rfl) (ix2 a i) (by omega) (by decide) ?_
    rw [show tu Am 0 (rs (Am 0) b (cpk (Am 0) a b i)) 0 (a + i) = Am 0 (a + i) by rw [tu_s, rs_out (by omega)]]
    refine rn_go 80 (by with_unfolding_all rfl) ?_
    refine rn_st (b + i) (by with_unfolding_all rfl) (ix2 b i) (by omega) (by decide) ?_
    refine rn_hp (by with_unfolding_all exact (wM_0)) ?_
    refine rn_to 2 80 (by with_unfolding_all rfl) ?_
    rw [tu_tu, tu_s, rs_up (by omega)]
    rw [cpk_s (by omega)] at ih
    with_unfolding_all exact ih
set_option maxRecDepth 10000 in
theorem xm_copyTown {a b : Nat} (ha : a + 21 ≤ 672) (hb : b + 21 ≤ 672) (hab : a + 21 ≤ b ∨ b + 21 ≤ a) : am_ev 1 164 [.ref 43, .int (nI a), .int (nI b)] (wd g T A gm Am) none (wd g T A gm (tu Am 0 (rs (Am 0) b (tv (Am 0) a)))) := by
  have key := xm_copyL (g := g) (T := T) (A := A) (gm := gm) (Am := Am) ha hb hab 21 0 rfl
  rw [cpk_0, tu_id] at key
  refine rn_ev am_m_X9_copyTown rfl rfl ?_
  refine rn_to 2 80 (by with_unfolding_all rfl) ?_
  with_unfolding_all exact key
set_option maxRecDepth 10000 in
theorem xm_layTried : am_ev 2 187 [.ref 43] (wd g T A gm Am) none (wd g T A gm (tu Am 0 (rs (Am 0) 567 (tv (Am 0) 0)))) := by
  refine rn_ev am_m_X9_layTried rfl rfl ?_
  refine rn_go 80 (by with_unfolding_all rfl) ?_
  refine rn_cl (by with_unfolding_all rfl) (ev_up (by decide) (xm_copyTown (a := 0) (b := 567) (by omega) (by omega) (by omega))) ?_
  refine rn_go 80 (by with_unfolding_all rfl) ?_
  exact rn_rt (by with_unfolding_all rfl) trivial rfl rfl
end

/-! acts, images -/
def gk (g : Nat → Int32) (nx kp : Nat) : Nat → Int32 := upd (upd g 6 (nI ((nx + 1) % 24))) 5 (nI (min 24 (kp + 1)))
def ie (k : Int32) : Int32 := if k = 0 then 1 else if k = 1 then 1 else 0
set_option maxRecDepth 10000 in
theorem kpr_lo {r : Nat → Int32} {u k : Nat} (hu : u ≤ 24) (hk : k < 21) : kpr r u k = r k := by
  unfold kpr
  split
  · rw [rs_out (by omega)]
    unfold shk
    rw [if_neg (by omega)]
  · rw [rs_out (by omega)]
set_option maxRecDepth 10000 in
theorem kpr_eq {r : Nat → Int32} {u : Nat} (hu : u ≤ 24) : ∀ k, k < 21 → tv r 0 k = tv (kpr r u) 0 k := fun k hk => by
  unfold tv
  rw [kpr_lo hu (by omega)]
set_option maxRecDepth 10000 in
theorem pd21 {t t' : Nat → Int32} {s c : Int32} {n : Nat} (hn4 : n ≤ 4) (h : ∀ k, k < 21 → t k = t' k) : ∀ k, k < 21 → pd t s n c k = pd t' s n c k := by
  intro k hk
  have hv := eqv_21 (n := n) (mo := 0) hn4 (by omega) h
  by_cases h3 : k = 3
  · rw [h3, pd_3, pd_3, h 3 (by decide)]
  by_cases h4 : k = 4
  · rw [h4, pd_4, pd_4, h 4 (by decide)]
  by_cases hb : 13 ≤ k ∧ k < 13 + n
  · obtain ⟨p, rfl⟩ := Nat.exists_eq_add_of_le hb.1
    rw [pd_br (by omega) hn4, pd_br (by omega) hn4, cg_pb hv (by omega)]
  · rw [pd_lo (by omega) h3 h4, pd_lo (by omega) h3 h4, h k hk]
def sSpeak (z : Int32) (t : Nat → Int32) (n : Nat) (s : Int32) : Option Int32 := if z = 0 then some (-1000002) else if hst t s = 0 then some (-1000001) else if s &&& (ta t n ^^^ -1) = 0 then (if t 3 < 999 then none else some (-1000003)) else some (-1000002)
set_option maxRecDepth 10000 in
theorem hm_in {t : Nat → Int32} {n k : Nat} (hn : t 1 = nI n) (hn4 : n ≤ 4) (hk : k < n) : ¬ hm t (nI k) = 0 := by
  unfold hm
  rw [if_neg (nI_pos (by omega)), hn, if_neg (nI_ge hk (by omega))]
  decide
set_option maxRecDepth 10000 in
theorem hmo_in {t : Nat → Int32} {n k : Nat} (hn : t 0 = nI n) (hn4 : n ≤ 4) (hk : k < n) : ¬ hmo t (nI k) = 0 := by
  unfold hmo
  rw [if_neg (nI_pos (by omega)), hn, if_neg (nI_ge hk (by omega))]
  decide
section
variable {g gm : Nat → Int32} {T A Am : Nat → Nat → Int32} {h : am_H}
set_option maxRecDepth 10000 in
theorem x8_isEither (k : Int32) : am_ev 1 130 [.int k] h (some (.int (ie k))) h := by
  refine rn_ev am_m_X8_isEither rfl rfl ?_
  refine rn_go 80 (by with_unfolding_all rfl) ?_
  unfold ie
  refine rn_br (by with_unfolding_all rfl) (fun c => ?_) (fun c => ?_)
  · rw [if_pos c]
    refine rn_go 80 (by with_unfolding_all rfl) ?_
    exact rn_rt (by with_unfolding_all rfl) (Or.inr rfl) (rfl) (rfl)
  rw [if_neg c]
  refine rn_go 80 (by with_unfolding_all rfl) ?_
  refine rn_br (by with_unfolding_all rfl) (fun c2 => ?_) (fun c2 => ?_)
  · rw [if_pos c2]
    refine rn_go 80 (by with_unfolding_all rfl) ?_
    exact rn_rt (by with_unfolding_all rfl) (Or.inr rfl) (rfl) (rfl)
  rw [if_neg c2]
  refine rn_go 80 (by with_unfolding_all rfl) ?_
  exact rn_rt (by with_unfolding_all rfl) (Or.inl rfl) (rfl) (rfl)
set_option maxRecDepth 10000 in
theorem ie_of {k : Int32} (h : ¬ ie k = 0) : k = 0 ∨ k = 1 := by
  unfold ie at h
  by_cases h0 : k = 0
  · exact Or.inl h0
  by_cases h1 : k = 1
  · exact Or.inr h1
  rw [if_neg h0, if_neg h1] at h
  exact absurd rfl h
set_option maxRecDepth 10000 in
theorem ie_btw (k : Int32) : btw k 0 1 = ie k := by
  have e := btw_n (x := k) (n := 2) (by decide)
  have e2 : btw k 0 1 = if k < 0 then 0 else if nI 2 ≤ k then 0 else 1 := e
  rw [e2]
  unfold ie
  by_cases h0 : k = 0
  · rw [h0]; decide
  by_cases h1 : k = 1
  · rw [h1]; decide
  rw [if_neg h0, if_neg h1]
  by_cases h2 : k < 0
  · rw [if_pos h2]
  · rw [if_neg h2]
    rcases pk_ix k (n := 2) (by decide) with q | q | ⟨j, hj, q⟩
    · exact absurd q h2
    · rw [if_pos q]
    · rcases (show j = 0 ∨ j = 1 by omega) with rfl | rfl
      · exact absurd q h0
      · exact absurd q h1
set_option maxRecDepth 10000 in
theorem x8_speak {n mo dy nx kp : Nat} (hn : T 0 1 = nI n) (hn4 : n ≤ 4) (hm : T 0 0 = nI mo) (h1 : g 11 = 0 ∨ 1 ≤ mo) (h4 : mo ≤ 4) (hd : T 0 3 = nI dy) (hdy : dy < 2000) (hx : g 6 = nI nx) (hx24 : nx < 24) (hk : g 5 = nI kp) (hk24 : kp ≤ 24) (s : Int32) :
    (∀ v, sSpeak (g 11) (T 0) n s = some v → am_ev 12 100 [.ref 0, .int s] (wd g T A gm Am) (some (.int v)) (wd g T A gm Am)) ∧ (sSpeak (g 11) (T 0) n s = none → am_ev 12 100 [.ref 0, .int s] (wd g T A gm Am) (some (.int (cw (T 0) s (ta (T 0) n) n dy mo))) (wd (gk g nx kp) (tu T 0 (pd (T 0) s n (cw (T 0) s (ta (T 0) n) n dy mo))) (tu A 4 (ekn (A 4) (10 * nx) (T 0) 10)) gm Am)) := by
  unfold sSpeak
  refine ⟨fun v hq => ?_, fun hq => ?_⟩
  · refine rn_ev am_m_X8_speak rfl rfl ?_
    refine rn_go 80 (by with_unfolding_all rfl) ?_
    refine rn_br (by with_unfolding_all rfl) (fun c => ?_) (fun c => ?_)
    · rw [if_pos c] at hq
      cases hq
      refine rn_go 80 (by with_unfolding_all rfl) ?_
      exact rn_rt (by with_unfolding_all rfl) trivial rfl rfl
    rw [if_neg c] at hq
    refine rn_go 80 (by with_unfolding_all rfl) ?_
    refine rn_cl (by with_unfolding_all rfl) (ev_up (by decide) (xh_isSet s)) ?_
    refine rn_go 80 (by with_unfolding_all rfl) ?_
    refine rn_br (by with_unfolding_all rfl) (fun c2 => ?_) (fun c2 => ?_)
    · rw [if_pos c2] at hq
      cases hq
      refine rn_go 80 (by with_unfolding_all rfl) ?_
      exact rn_rt (by with_unfolding_all rfl) trivial rfl rfl
    rw [if_neg c2] at hq
    refine rn_go 80 (by with_unfolding_all rfl) ?_
    refine rn_cl (by with_unfolding_all rfl) (ev_up (by decide) (xh_ableSet0 hn hn4)) ?_
    refine rn_go 80 (by with_unfolding_all rfl) ?_
    refine rn_br (by with_unfolding_all rfl) (fun c3 => ?_) (fun c3 => ?_)
    · rw [if_pos c3] at hq
      refine rn_go 80 (by with_unfolding_all rfl) ?_
      refine rn_br (by with_unfolding_all rfl) (fun c4 => ?_) (fun c4 => ?_)
      · rw [if_pos c4] at hq
        cases hq
      · rw [if_neg c4] at hq
        cases hq
        refine rn_go 80 (by with_unfolding_all rfl) ?_
        exact rn_rt (by with_unfolding_all rfl) trivial rfl rfl
    rw [if_neg c3] at hq
    cases hq
    refine rn_go 80 (by with_unfolding_all rfl) ?_
    exact rn_rt (by with_unfolding_all rfl) trivial rfl rfl
  · refine rn_ev am_m_X8_speak rfl rfl ?_
    refine rn_go 80 (by with_unfolding_all rfl) ?_
    refine rn_br (by with_unfolding_all rfl) (fun c => ?_) (fun c => ?_)
    · rw [if_pos c] at hq
      cases hq
    rw [if_neg c] at hq
    have h1 := h1.resolve_left c
    refine rn_go 80 (by with_unfolding_all rfl) ?_
    refine rn_cl (by with_unfolding_all rfl) (ev_up (by decide) (xh_isSet s)) ?_
    refine rn_go 80 (by with_unfolding_all rfl) ?_
    refine rn_br (by with_unfolding_all rfl) (fun c2 => ?_) (fun c2 => ?_)
    · rw [if_pos c2] at hq
      cases hq
    rw [if_neg c2] at hq
    refine rn_go 80 (by with_unfolding_all rfl) ?_
    refine rn_cl (by with_unfolding_all rfl) (ev_up (by decide) (xh_ableSet0 hn hn4)) ?_
    refine rn_go 80 (by with_unfolding_all rfl) ?_
    refine rn_br (by with_unfolding_all rfl) (fun c3 => ?_) (fun c3 => ?_)
    · rw [if_pos c3] at hq
      refine rn_go 80 (by with_unfolding_all rfl) ?_
      refine rn_br (by with_unfolding_all rfl) (fun c4 => ?_) (fun c4 => ?_)
      · refine rn_go 80 (by with_unfolding_all rfl) ?_
        refine rn_cl (by with_unfolding_all rfl) (ev_up (by decide) (x0_keep hx hx24 hk hk24)) ?_
        refine rn_go 80 (by with_unfolding_all rfl) ?_
        refine rn_cl (by with_unfolding_all rfl) (ev_up (by decide) (xh_passDay0 hn hn4 hm h1 h4 hd hdy s _)) ?_
        refine rn_go 80 (by with_unfolding_all rfl) ?_
        exact rn_rt (by with_unfolding_all rfl) trivial rfl rfl
      · rw [if_neg c4] at hq
        cases hq
    rw [if_neg c3] at hq
    cases hq
set_option maxRecDepth 10000 in
theorem xm_speak {n mo dy u : Nat} (ht : okT (tv (Am 0) 0) n) (hn : tv (Am 0) 0 1 = nI n) (hn4 : n ≤ 4) (hm : tv (Am 0) 0 0 = nI mo) (h1 : gm 0 = 0 ∨ 1 ≤ mo) (h4 : mo ≤ 4) (hd : tv (Am 0) 0 3 = nI dy) (hdy : dy ≤ 999) (hu : gm 1 = nI u) (hu24 : u ≤ 24) (s : Int32) :
    (∀ v, sSpeak (gm 0) (tv (Am 0) 0) n s = some v → am_ev 12 179 [.ref 43, .int s] (wd g T A gm Am) (some (.int v)) (wd g T A gm Am)) ∧ (sSpeak (gm 0) (tv (Am 0) 0) n s = none → am_ev 12 179 [.ref 43, .int s] (wd g T A gm Am) (some (.int (cw (tv (Am 0) 0) s (ta (tv (Am 0) 0) n) n dy mo))) (wd g T A (upd gm 1 (nI (min 24 (u + 1)))) (tu Am 0 (rs (kpr (Am 0) u) 0 (pd (tv (Am 0) 0) s n (cw (tv (Am 0) 0) s (ta (tv (Am 0) 0) n) n dy mo)))))) := by
  have hd9 : (Am 0 3 = 999) ↔ ¬ tv (Am 0) 0 3 < 999 := by
    rw [show Am 0 3 = tv (Am 0) 0 3 by unfold tv; rw [Nat.zero_add], hd]
    refine ⟨fun q r => ?_, fun q => ?_⟩
    · rw [q] at r; exact absurd r (by decide)
    · rcases Nat.lt_or_ge dy 999 with q9 | q9
      · exact absurd (show nI dy < nI 999 from nI_lt q9 (by decide)) q
      · rw [show dy = 999 by omega]; rfl
  unfold sSpeak
  refine ⟨fun v hq => ?_, fun hq => ?_⟩
  · refine rn_ev am_m_X9_speak rfl rfl ?_
    refine rn_go 80 (by with_unfolding_all rfl) ?_
    refine rn_br (by with_unfolding_all rfl) (fun c => ?_) (fun c => ?_)
    · rw [if_pos c] at hq
      cases hq
      refine rn_go 80 (by with_unfolding_all rfl) ?_
      exact rn_rt (by with_unfolding_all rfl) trivial rfl rfl
    rw [if_neg c] at hq
    refine rn_go 80 (by with_unfolding_all rfl) ?_
    refine rn_cl (by with_unfolding_all rfl) (ev_up (by decide) (xm_areMembers hn hn4 s)) ?_
    refine rn_go 80 (by with_unfolding_all rfl) ?_
    refine rn_br (by with_unfolding_all rfl) (fun c2 => ?_) (fun c2 => ?_)
    · rw [if_pos c2] at hq
      cases hq
      refine rn_go 80 (by with_unfolding_all rfl) ?_
      exact rn_rt (by with_unfolding_all rfl) trivial rfl rfl
    rw [if_neg c2] at hq
    refine rn_go 80 (by with_unfolding_all rfl) ?_
    refine rn_cl (by with_unfolding_all rfl) (ev_up (by decide) (xm_canSpeak (B := 0) (by omega) ht hn hn4)) ?_
    refine rn_go 80 (by with_unfolding_all rfl) ?_
    refine rn_br (by with_unfolding_all rfl) (fun c3 => ?_) (fun c3 => ?_)
    · rw [if_pos c3] at hq
      refine rn_go 80 (by with_unfolding_all rfl) ?_
      refine rn_ld (3) (by with_unfolding_all rfl) rfl (by omega) (by decide) ?_
      refine rn_go 80 (by with_unfolding_all rfl) ?_
      refine rn_br (by with_unfolding_all rfl) (fun c4 => ?_) (fun c4 => ?_)
      · rw [if_neg (hd9.mp c4)] at hq
        cases hq
        refine rn_go 80 (by with_unfolding_all rfl) ?_
        exact rn_rt (by with_unfolding_all rfl) trivial rfl rfl
      · rw [if_pos (Classical.not_not.mp (fun q => c4 (hd9.mpr q)))] at hq
        cases hq
    rw [if_neg c3] at hq
    cases hq
    refine rn_go 80 (by with_unfolding_all rfl) ?_
    exact rn_rt (by with_unfolding_all rfl) trivial rfl rfl
  · refine rn_ev am_m_X9_speak rfl rfl ?_
    refine rn_go 80 (by with_unfolding_all rfl) ?_
    refine rn_br (by with_unfolding_all rfl) (fun c => ?_) (fun c => ?_)
    · rw [if_pos c] at hq
      cases hq
    rw [if_neg c] at hq
    have h1 := h1.resolve_left c
    refine rn_go 80 (by with_unfolding_all rfl) ?_
    refine rn_cl (by with_unfolding_all rfl) (ev_up (by decide) (xm_areMembers hn hn4 s)) ?_
    refine rn_go 80 (by with_unfolding_all rfl) ?_
    refine rn_br (by with_unfolding_all rfl) (fun c2 => ?_) (fun c2 => ?_)
    · rw [if_pos c2] at hq
      cases hq
    rw [if_neg c2] at hq
    refine rn_go 80 (by with_unfolding_all rfl) ?_
    refine rn_cl (by with_unfolding_all rfl) (ev_up (by decide) (xm_canSpeak (B := 0) (by omega) ht hn hn4)) ?_
    refine rn_go 80 (by with_unfolding_all rfl) ?_
    refine rn_br (by with_unfolding_all rfl) (fun c3 => ?_) (fun c3 => ?_)
    · rw [if_pos c3] at hq
      refine rn_go 80 (by with_unfolding_all rfl) ?_
      refine rn_ld (3) (by with_unfolding_all rfl) rfl (by omega) (by decide) ?_
      refine rn_go 80 (by with_unfolding_all rfl) ?_
      refine rn_br (by with_unfolding_all rfl) (fun c4 => ?_) (fun c4 => ?_)
      · rw [if_neg (hd9.mp c4)] at hq
        cases hq
      · refine rn_go 80 (by with_unfolding_all rfl) ?_
        refine rn_cl (by with_unfolding_all rfl) (ev_up (by decide) (xm_keepPast hu hu24)) ?_
        refine rn_go 80 (by with_unfolding_all rfl) ?_
        have e21 := kpr_eq (r := Am 0) hu24
        have eqv := eqv_21 (n := n) (mo := mo) hn4 h4 e21
        have key := xm_pass (g := g) (T := T) (A := A) (gm := upd gm 1 (nI (min 24 (u + 1)))) (Am := tu Am 0 (kpr (Am 0) u)) (B := 0) (n := n) (mo := mo) (dy := dy) (by omega) (cg_ok eqv ht) (by rw [tu_s, ← e21 1 (by decide)]; exact hn) hn4 (by rw [tu_s, ← e21 0 (by decide)]; exact hm) h1 h4 (by rw [tu_s, ← e21 3 (by decide)]; exact hd) (by omega) s (fun i hi hb => by
          rw [tu_s, ← cg_tc eqv hi, ← (eqv.2.2 i hi).2.1]
          exact tb_sub hn4 c3 hi hb)
        rw [tu_s, tu_tu, ← cg_ta eqv n (Nat.le_refl _), ← cg_cw eqv h1, rs_cong (t' := pd (tv (Am 0) 0) s n (cw (tv (Am 0) 0) s (ta (tv (Am 0) 0) n) n dy mo)) (fun k hk => pd21 hn4 (fun j hj => (e21 j hj).symm) k hk)] at key
        refine rn_cl (by with_unfolding_all rfl) (ev_up (by decide) (key)) ?_
        refine rn_go 80 (by with_unfolding_all rfl) ?_
        exact rn_rt (by with_unfolding_all rfl) trivial rfl rfl
    rw [if_neg c3] at hq
    cases hq
set_option maxRecDepth 10000 in
theorem x8_cold {n nx kp : Nat} (hn : T 0 1 = nI n) (hn4 : n ≤ 4) (hx : g 6 = nI nx) (hx24 : nx < 24) (hk : g 5 = nI kp) (hk24 : kp ≤ 24) (p v : Int32) :
    ((hm (T 0) p = 0 ∨ v < 0 ∨ ¬ v ≤ 20) → am_ev 12 102 [.ref 0, .int p, .int v] (wd g T A gm Am) (some (.int (-1000001))) (wd g T A gm Am)) ∧ (∀ k, k < n → p = nI k → ¬ v < 0 → v ≤ 20 → am_ev 12 102 [.ref 0, .int p, .int v] (wd g T A gm Am) (some (.int (T 0 (13 + k)))) (wd (gk g nx kp) (tu T 0 (upd (T 0) (13 + k) v)) (tu A 4 (ekn (A 4) (10 * nx) (T 0) 10)) gm Am)) := by
  refine ⟨fun hq => ?_, fun k hkn hp h1 h2 => ?_⟩
  · refine rn_ev am_m_X8_cold rfl rfl ?_
    refine rn_go 80 (by with_unfolding_all rfl) ?_
    refine rn_cl (by with_unfolding_all rfl) (ev_up (by decide) (xh_hasMember p)) ?_
    refine rn_go 80 (by with_unfolding_all rfl) ?_
    refine rn_br (by with_unfolding_all rfl) (fun c => ?_) (fun c => ?_)
    · refine rn_go 80 (by with_unfolding_all rfl) ?_
      exact rn_rt (by with_unfolding_all rfl) trivial rfl rfl
    refine rn_go 80 (by with_unfolding_all rfl) ?_
    refine rn_br (by with_unfolding_all rfl) (fun c2 => ?_) (fun c2 => ?_)
    · refine rn_go 80 (by with_unfolding_all rfl) ?_
      exact rn_rt (by with_unfolding_all rfl) trivial rfl rfl
    refine rn_go 80 (by with_unfolding_all rfl) ?_
    refine rn_br (by with_unfolding_all rfl) (fun c3 => ?_) (fun c3 => ?_)
    · rcases hq with q | q | q
      · exact absurd q c
      · exact absurd q c2
      · exact absurd c3 q
    refine rn_go 80 (by with_unfolding_all rfl) ?_
    exact rn_rt (by with_unfolding_all rfl) trivial rfl rfl
  · subst hp
    refine rn_ev am_m_X8_cold rfl rfl ?_
    refine rn_go 80 (by with_unfolding_all rfl) ?_
    refine rn_cl (by with_unfolding_all rfl) (ev_up (by decide) (xh_hasMember _)) ?_
    refine rn_go 80 (by with_unfolding_all rfl) ?_
    refine rn_br (by with_unfolding_all rfl) (fun c => absurd c (hm_in hn hn4 hkn)) (fun c => ?_)
    refine rn_go 80 (by with_unfolding_all rfl) ?_
    refine rn_br (by with_unfolding_all rfl) (fun c => absurd c h1) (fun c => ?_)
    refine rn_go 80 (by with_unfolding_all rfl) ?_
    refine rn_br (by with_unfolding_all rfl) (fun c => ?_) (fun c => absurd h2 c)
    refine rn_go 80 (by with_unfolding_all rfl) ?_
    refine rn_cl (by with_unfolding_all rfl) (ev_up (by decide) (x0_keep hx hx24 hk hk24)) ?_
    refine rn_go 80 (by with_unfolding_all rfl) ?_
    refine rn_ld (k) (by with_unfolding_all rfl) rfl (by omega) (by decide) ?_
    rw [wa_at (by omega)]
    refine rn_go 80 (by with_unfolding_all rfl) ?_
    refine rn_st (k) (by with_unfolding_all rfl) rfl (by omega) (by decide) ?_
    refine rn_hp (by with_unfolding_all exact (ww_0_13 (k := k) (by omega))) ?_
    refine rn_go 80 (by with_unfolding_all rfl) ?_
    exact rn_rt (by with_unfolding_all rfl) trivial rfl rfl
set_option maxRecDepth 10000 in
theorem xm_cold {n u : Nat} (hn : tv (Am 0) 0 1 = nI n) (hn4 : n ≤ 4) (hu : gm 1 = nI u) (hu24 : u ≤ 24) (p v : Int32) :
    ((hm (tv (Am 0) 0) p = 0 ∨ v < 0 ∨ ¬ v ≤ 20) → am_ev 12 181 [.ref 43, .int p, .int v] (wd g T A gm Am) (some (.int (-1000001))) (wd g T A gm Am)) ∧ (∀ k, k < n → p = nI k → ¬ v < 0 → v ≤ 20 → am_ev 12 181 [.ref 43, .int p, .int v] (wd g T A gm Am) (some (.int (tv (Am 0) 0 (13 + k)))) (wd g T A (upd gm 1 (nI (min 24 (u + 1)))) (tu Am 0 (upd (kpr (Am 0) u) (13 + k) v)))) := by
  refine ⟨fun hq => ?_, fun k hkn hp h1 h2 => ?_⟩
  · refine rn_ev am_m_X9_cold rfl rfl ?_
    refine rn_go 80 (by with_unfolding_all rfl) ?_
    refine rn_cl (by with_unfolding_all rfl) (ev_up (by decide) (xm_isMember hn hn4 p)) ?_
    refine rn_go 80 (by with_unfolding_all rfl) ?_
    refine rn_br (by with_unfolding_all rfl) (fun c => ?_) (fun c => ?_)
    · refine rn_go 80 (by with_unfolding_all rfl) ?_
      exact rn_rt (by with_unfolding_all rfl) trivial rfl rfl
    refine rn_go 80 (by with_unfolding_all rfl) ?_
    refine rn_cl (by with_unfolding_all rfl) (ev_up (by decide) (xm_in _ _ _)) ?_
    rw [inn_b (a := 0) (b := 20) (P := 0) (Q := 20) (by decide) (by decide)]
    unfold btw
    refine rn_go 80 (by with_unfolding_all rfl) ?_
    refine rn_br (by with_unfolding_all rfl) (fun c2 => ?_) (fun c2 => ?_)
    · refine rn_go 80 (by with_unfolding_all rfl) ?_
      exact rn_rt (by with_unfolding_all rfl) trivial rfl rfl
    exfalso
    rcases hq with q | q | q
    · exact c q
    · exact c2 (if_pos q)
    · exact c2 (by
        by_cases q1 : v < 0
        · rw [if_pos q1]
        · rw [if_neg q1, if_pos (Int32.not_le.mp q)])
  · subst hp
    refine rn_ev am_m_X9_cold rfl rfl ?_
    refine rn_go 80 (by with_unfolding_all rfl) ?_
    refine rn_cl (by with_unfolding_all rfl) (ev_up (by decide) (xm_isMember hn hn4 _)) ?_
    refine rn_go 80 (by with_unfolding_all rfl) ?_
    refine rn_br (by with_unfolding_all rfl) (fun c => absurd c (hm_in hn hn4 hkn)) (fun c => ?_)
    refine rn_go 80 (by with_unfolding_all rfl) ?_
    refine rn_cl (by with_unfolding_all rfl) (ev_up (by decide) (xm_in _ _ _)) ?_
    rw [inn_b (a := 0) (b := 20) (P := 0) (Q := 20) (by decide) (by decide)]
    refine rn_go 80 (by with_unfolding_all rfl) ?_
    refine rn_br (by with_unfolding_all rfl) (fun c => absurd c (by unfold btw; rw [if_neg h1, if_neg (Int32.not_lt.mpr h2)]; decide)) (fun c => ?_)
    refine rn_go 80 (by with_unfolding_all rfl) ?_
    refine rn_cl (by with_unfolding_all rfl) (ev_up (by decide) (xm_keepPast hu hu24)) ?_
    refine rn_go 80 (by with_unfolding_all rfl) ?_
    refine rn_ld (13 + k) (by with_unfolding_all rfl) (nI_add 13 k) (by omega) (by decide) ?_
    rw [tu_s, kpr_lo hu24 (by omega)]
    refine rn_go 80 (by with_unfolding_all rfl) ?_
    refine rn_st (13 + k) (by with_unfolding_all rfl) (nI_add 13 k) (by omega) (by decide) ?_
    refine rn_hp (by with_unfolding_all exact (wM_0)) ?_
    rw [tu_tu, tu_s]
    refine rn_go 80 (by with_unfolding_all rfl) ?_
    exact rn_rt (by with_unfolding_all rfl) (trivial) (by rw [show tv (Am 0) 0 (13 + k) = Am 0 (13 + k) by unfold tv; rw [Nat.zero_add]]) (rfl)
set_option maxRecDepth 10000 in
theorem x8_needs {n nx kp : Nat} (hn : T 0 0 = nI n) (hn4 : n ≤ 4) (hx : g 6 = nI nx) (hx24 : nx < 24) (hk : g 5 = nI kp) (hk24 : kp ≤ 24) (p v : Int32) :
    ((hmo (T 0) p = 0 ∨ v < 0 ∨ ¬ v ≤ 99) → am_ev 12 103 [.ref 0, .int p, .int v] (wd g T A gm Am) (some (.int (-1000001))) (wd g T A gm Am)) ∧ (∀ k, k < n → p = nI k → ¬ v < 0 → v ≤ 99 → am_ev 12 103 [.ref 0, .int p, .int v] (wd g T A gm Am) (some (.int (T 0 (5 + k)))) (wd (gk g nx kp) (tu T 0 (upd (T 0) (5 + k) v)) (tu A 4 (ekn (A 4) (10 * nx) (T 0) 10)) gm Am)) := by
  refine ⟨fun hq => ?_, fun k hkn hp h1 h2 => ?_⟩
  · refine rn_ev am_m_X8_needs rfl rfl ?_
    refine rn_go 80 (by with_unfolding_all rfl) ?_
    refine rn_cl (by with_unfolding_all rfl) (ev_up (by decide) (xh_hasMotion p)) ?_
    refine rn_go 80 (by with_unfolding_all rfl) ?_
    refine rn_br (by with_unfolding_all rfl) (fun c => ?_) (fun c => ?_)
    · refine rn_go 80 (by with_unfolding_all rfl) ?_
      exact rn_rt (by with_unfolding_all rfl) trivial rfl rfl
    refine rn_go 80 (by with_unfolding_all rfl) ?_
    refine rn_br (by with_unfolding_all rfl) (fun c2 => ?_) (fun c2 => ?_)
    · refine rn_go 80 (by with_unfolding_all rfl) ?_
      exact rn_rt (by with_unfolding_all rfl) trivial rfl rfl
    refine rn_go 80 (by with_unfolding_all rfl) ?_
    refine rn_br (by with_unfolding_all rfl) (fun c3 => ?_) (fun c3 => ?_)
    · rcases hq with q | q | q
      · exact absurd q c
      · exact absurd q c2
      · exact absurd c3 q
    refine rn_go 80 (by with_unfolding_all rfl) ?_
    exact rn_rt (by with_unfolding_all rfl) trivial rfl rfl
  · subst hp
    refine rn_ev am_m_X8_needs rfl rfl ?_
    refine rn_go 80 (by with_unfolding_all rfl) ?_
    refine rn_cl (by with_unfolding_all rfl) (ev_up (by decide) (xh_hasMotion _)) ?_
    refine rn_go 80 (by with_unfolding_all rfl) ?_
    refine rn_br (by with_unfolding_all rfl) (fun c => absurd c (hmo_in hn hn4 hkn)) (fun c => ?_)
    refine rn_go 80 (by with_unfolding_all rfl) ?_
    refine rn_br (by with_unfolding_all rfl) (fun c => absurd c h1) (fun c => ?_)
    refine rn_go 80 (by with_unfolding_all rfl) ?_
    refine rn_br (by with_unfolding_all rfl) (fun c => ?_) (fun c => absurd h2 c)
    refine rn_go 80 (by with_unfolding_all rfl) ?_
    refine rn_cl (by with_unfolding_all rfl) (ev_up (by decide) (x0_keep hx hx24 hk hk24)) ?_
    refine rn_go 80 (by with_unfolding_all rfl) ?_
    refine rn_ld (k) (by with_unfolding_all rfl) rfl (by omega) (by decide) ?_
    rw [wa_at (by omega)]
    refine rn_go 80 (by with_unfolding_all rfl) ?_
    refine rn_st (k) (by with_unfolding_all rfl) rfl (by omega) (by decide) ?_
    refine rn_hp (by with_unfolding_all exact (ww_0_5 (k := k) (by omega))) ?_
    refine rn_go 80 (by with_unfolding_all rfl) ?_
    exact rn_rt (by with_unfolding_all rfl) trivial rfl rfl
set_option maxRecDepth 10000 in
theorem xm_needs {n u : Nat} (hn : tv (Am 0) 0 0 = nI n) (hn4 : n ≤ 4) (hu : gm 1 = nI u) (hu24 : u ≤ 24) (p v : Int32) :
    ((hmo (tv (Am 0) 0) p = 0 ∨ v < 0 ∨ ¬ v ≤ 99) → am_ev 12 183 [.ref 43, .int p, .int v] (wd g T A gm Am) (some (.int (-1000001))) (wd g T A gm Am)) ∧ (∀ k, k < n → p = nI k → ¬ v < 0 → v ≤ 99 → am_ev 12 183 [.ref 43, .int p, .int v] (wd g T A gm Am) (some (.int (tv (Am 0) 0 (5 + k)))) (wd g T A (upd gm 1 (nI (min 24 (u + 1)))) (tu Am 0 (upd (kpr (Am 0) u) (5 + k) v)))) := by
  refine ⟨fun hq => ?_, fun k hkn hp h1 h2 => ?_⟩
  · refine rn_ev am_m_X9_needs rfl rfl ?_
    refine rn_go 80 (by with_unfolding_all rfl) ?_
    refine rn_cl (by with_unfolding_all rfl) (ev_up (by decide) (xm_isMotion hn hn4 p)) ?_
    refine rn_go 80 (by with_unfolding_all rfl) ?_
    refine rn_br (by with_unfolding_all rfl) (fun c => ?_) (fun c => ?_)
    · refine rn_go 80 (by with_unfolding_all rfl) ?_
      exact rn_rt (by with_unfolding_all rfl) trivial rfl rfl
    refine rn_go 80 (by with_unfolding_all rfl) ?_
    refine rn_cl (by with_unfolding_all rfl) (ev_up (by decide) (xm_in _ _ _)) ?_
    rw [inn_b (a := 0) (b := 99) (P := 0) (Q := 99) (by decide) (by decide)]
    unfold btw
    refine rn_go 80 (by with_unfolding_all rfl) ?_
    refine rn_br (by with_unfolding_all rfl) (fun c2 => ?_) (fun c2 => ?_)
    · refine rn_go 80 (by with_unfolding_all rfl) ?_
      exact rn_rt (by with_unfolding_all rfl) trivial rfl rfl
    exfalso
    rcases hq with q | q | q
    · exact c q
    · exact c2 (if_pos q)
    · exact c2 (by
        by_cases q1 : v < 0
        · rw [if_pos q1]
        · rw [if_neg q1, if_pos (Int32.not_le.mp q)])
  · subst hp
    refine rn_ev am_m_X9_needs rfl rfl ?_
    refine rn_go 80 (by with_unfolding_all rfl) ?_
    refine rn_cl (by with_unfolding_all rfl) (ev_up (by decide) (xm_isMotion hn hn4 _)) ?_
    refine rn_go 80 (by with_unfolding_all rfl) ?_
    refine rn_br (by with_unfolding_all rfl) (fun c => absurd c (hmo_in hn hn4 hkn)) (fun c => ?_)
    refine rn_go 80 (by with_unfolding_all rfl) ?_
    refine rn_cl (by with_unfolding_all rfl) (ev_up (by decide) (xm_in _ _ _)) ?_
    rw [inn_b (a := 0) (b := 99) (P := 0) (Q := 99) (by decide) (by decide)]
    refine rn_go 80 (by with_unfolding_all rfl) ?_
    refine rn_br (by with_unfolding_all rfl) (fun c => absurd c (by unfold btw; rw [if_neg h1, if_neg (Int32.not_lt.mpr h2)]; decide)) (fun c => ?_)
    refine rn_go 80 (by with_unfolding_all rfl) ?_
    refine rn_cl (by with_unfolding_all rfl) (ev_up (by decide) (xm_keepPast hu hu24)) ?_
    refine rn_go 80 (by with_unfolding_all rfl) ?_
    refine rn_ld (5 + k) (by with_unfolding_all rfl) (nI_add 5 k) (by omega) (by decide) ?_
    rw [tu_s, kpr_lo hu24 (by omega)]
    refine rn_go 80 (by with_unfolding_all rfl) ?_
    refine rn_st (5 + k) (by with_unfolding_all rfl) (nI_add 5 k) (by omega) (by decide) ?_
    refine rn_hp (by with_unfolding_all exact (wM_0)) ?_
    rw [tu_tu, tu_s]
    refine rn_go 80 (by with_unfolding_all rfl) ?_
    exact rn_rt (by with_unfolding_all rfl) (trivial) (by rw [show tv (Am 0) 0 (5 + k) = Am 0 (5 + k) by unfold tv; rw [Nat.zero_add]]) (rfl)
set_option maxRecDepth 10000 in
theorem x8_bal (b k : Int32) : am_ev 1 133 [.int b, .int k] h (some (.int (mn20 (b + 5 * k)))) h := by
  refine rn_ev am_m_X8_breathAfterLozenges rfl rfl ?_
  refine rn_go 80 (by with_unfolding_all rfl) ?_
  exact rn_rt (by with_unfolding_all rfl) trivial rfl rfl
set_option maxRecDepth 10000 in
theorem x8_lozenge {n nx kp : Nat} (hn : T 0 1 = nI n) (hn4 : n ≤ 4) (hx : g 6 = nI nx) (hx24 : nx < 24) (hk : g 5 = nI kp) (hk24 : kp ≤ 24) (p : Int32) :
    (hm (T 0) p = 0 → am_ev 12 101 [.ref 0, .int p] (wd g T A gm Am) (some (.int (-1000001))) (wd g T A gm Am)) ∧ (∀ k, k < n → p = nI k → am_ev 12 101 [.ref 0, .int p] (wd g T A gm Am) (some (.int (mn20 (T 0 (13 + k) + 5)))) (wd (gk g nx kp) (tu T 0 (upd (T 0) (13 + k) (mn20 (T 0 (13 + k) + 5)))) (tu A 4 (ekn (A 4) (10 * nx) (T 0) 10)) gm Am)) := by
  refine ⟨fun hq => ?_, fun k hkn hp => ?_⟩
  · refine rn_ev am_m_X8_lozenge rfl rfl ?_
    refine rn_go 80 (by with_unfolding_all rfl) ?_
    refine rn_cl (by with_unfolding_all rfl) (ev_up (by decide) (xh_hasMember p)) ?_
    refine rn_go 80 (by with_unfolding_all rfl) ?_
    refine rn_br (by with_unfolding_all rfl) (fun c => ?_) (fun c => absurd hq c)
    refine rn_go 80 (by with_unfolding_all rfl) ?_
    exact rn_rt (by with_unfolding_all rfl) trivial rfl rfl
  · subst hp
    refine rn_ev am_m_X8_lozenge rfl rfl ?_
    refine rn_go 80 (by with_unfolding_all rfl) ?_
    refine rn_cl (by with_unfolding_all rfl) (ev_up (by decide) (xh_hasMember _)) ?_
    refine rn_go 80 (by with_unfolding_all rfl) ?_
    refine rn_br (by with_unfolding_all rfl) (fun c => absurd c (hm_in hn hn4 hkn)) (fun c => ?_)
    refine rn_go 80 (by with_unfolding_all rfl) ?_
    refine rn_cl (by with_unfolding_all rfl) (ev_up (by decide) (x0_keep hx hx24 hk hk24)) ?_
    refine rn_go 80 (by with_unfolding_all rfl) ?_
    refine rn_ld (k) (by with_unfolding_all rfl) rfl (by omega) (by decide) ?_
    rw [wa_at (by omega)]
    refine rn_go 80 (by with_unfolding_all rfl) ?_
    refine rn_cl (by with_unfolding_all rfl) (ev_up (by decide) (x8_bal _ 1)) ?_
    rw [show (5 : Int32) * 1 = 5 from rfl]
    refine rn_go 80 (by with_unfolding_all rfl) ?_
    refine rn_st (k) (by with_unfolding_all rfl) rfl (by omega) (by decide) ?_
    refine rn_hp (by with_unfolding_all exact (ww_0_13 (k := k) (by omega))) ?_
    refine rn_go 80 (by with_unfolding_all rfl) ?_
    refine rn_ld (k) (by with_unfolding_all rfl) rfl (by omega) (by decide) ?_
    rw [wa_at (by omega), tu_s, up_eq]
    refine rn_go 80 (by with_unfolding_all rfl) ?_
    exact rn_rt (by with_unfolding_all rfl) trivial rfl rfl
set_option maxRecDepth 10000 in
theorem xm_lozenge {n u : Nat} (ht : okT (tv (Am 0) 0) n) (hn : tv (Am 0) 0 1 = nI n) (hn4 : n ≤ 4) (hu : gm 1 = nI u) (hu24 : u ≤ 24) (p : Int32) :
    (hm (tv (Am 0) 0) p = 0 → am_ev 12 180 [.ref 43, .int p] (wd g T A gm Am) (some (.int (-1000001))) (wd g T A gm Am)) ∧ (∀ k, k < n → p = nI k → am_ev 12 180 [.ref 43, .int p] (wd g T A gm Am) (some (.int (mn20 (tv (Am 0) 0 (13 + k) + 5)))) (wd g T A (upd gm 1 (nI (min 24 (u + 1)))) (tu Am 0 (upd (kpr (Am 0) u) (13 + k) (mn20 (tv (Am 0) 0 (13 + k) + 5)))))) := by
  refine ⟨fun hq => ?_, fun k hkn hp => ?_⟩
  · refine rn_ev am_m_X9_lozenge rfl rfl ?_
    refine rn_go 80 (by with_unfolding_all rfl) ?_
    refine rn_cl (by with_unfolding_all rfl) (ev_up (by decide) (xm_isMember hn hn4 p)) ?_
    refine rn_go 80 (by with_unfolding_all rfl) ?_
    refine rn_br (by with_unfolding_all rfl) (fun c => ?_) (fun c => absurd hq c)
    refine rn_go 80 (by with_unfolding_all rfl) ?_
    exact rn_rt (by with_unfolding_all rfl) trivial rfl rfl
  · subst hp
    have e : mbt (Am 0 (13 + k) + 5) = mn20 (tv (Am 0) 0 (13 + k) + 5) := by
      obtain ⟨-, ⟨b, hb, e1⟩, -⟩ := ht.1 k hkn
      rw [show Am 0 (13 + k) = tv (Am 0) 0 (13 + k) by unfold tv; rw [Nat.zero_add], e1, show (5 : Int32) = nI 5 from rfl, nI_add]
      exact mbt_mn (by omega)
    refine rn_ev am_m_X9_lozenge rfl rfl ?_
    refine rn_go 80 (by with_unfolding_all rfl) ?_
    refine rn_cl (by with_unfolding_all rfl) (ev_up (by decide) (xm_isMember hn hn4 _)) ?_
    refine rn_go 80 (by with_unfolding_all rfl) ?_
    refine rn_br (by with_unfolding_all rfl) (fun c => absurd c (hm_in hn hn4 hkn)) (fun c => ?_)
    refine rn_go 80 (by with_unfolding_all rfl) ?_
    refine rn_cl (by with_unfolding_all rfl) (ev_up (by decide) (xm_keepPast hu hu24)) ?_
    refine rn_go 80 (by with_unfolding_all rfl) ?_
    refine rn_ld (13 + k) (by with_unfolding_all rfl) (nI_add 13 k) (by omega) (by decide) ?_
    rw [tu_s, kpr_lo hu24 (by omega)]
    refine rn_go 80 (by with_unfolding_all rfl) ?_
    refine rn_cl (by with_unfolding_all rfl) (ev_up (by decide) (xm_between _)) ?_
    rw [e]
    refine rn_go 80 (by with_unfolding_all rfl) ?_
    refine rn_st (13 + k) (by with_unfolding_all rfl) (nI_add 13 k) (by omega) (by decide) ?_
    refine rn_hp (by with_unfolding_all exact (wM_0)) ?_
    rw [tu_tu, tu_s]
    refine rn_go 80 (by with_unfolding_all rfl) ?_
    refine rn_ld (13 + k) (by with_unfolding_all rfl) (nI_add 13 k) (by omega) (by decide) ?_
    rw [tu_s, up_eq]
    refine rn_go 80 (by with_unfolding_all rfl) ?_
    exact rn_rt (by with_unfolding_all rfl) trivial rfl rfl
set_option maxRecDepth 10000 in
theorem x8_imageOf0 : am_ev 1 129 [.ref 0, .int 0] (wd g T A gm Am) (some (.ref 22)) (wd g T A gm Am) := by
  refine rn_ev am_m_X8_imageOf rfl rfl ?_
  refine rn_go 80 (by with_unfolding_all rfl) ?_
  refine rn_br (by with_unfolding_all rfl) (fun c => ?_) (fun c => absurd rfl c)
  refine rn_go 80 (by with_unfolding_all rfl) ?_
  exact rn_rt (by with_unfolding_all rfl) trivial rfl rfl
set_option maxRecDepth 10000 in
theorem x8_image0 (hb : g 11 = 0 ∨ g 11 = 1) : (g 11 = 0 → am_ev 12 119 [.ref 0, .int 0] (wd g T A gm Am) (some (.int (-1000002))) (wd g T A gm Am)) ∧ (¬ g 11 = 0 → am_ev 12 119 [.ref 0, .int 0] (wd g T A gm Am) (some (.int 1)) (wd (upd g 14 (g 11)) (tu T 3 (T 0)) A gm Am)) := by
  refine ⟨fun hz => ?_, fun hz => ?_⟩
  · refine rn_ev am_m_X8_image rfl rfl ?_
    refine rn_go 80 (by with_unfolding_all rfl) ?_
    refine rn_cl (by with_unfolding_all rfl) (ev_up (by decide) (x8_isEither 0)) ?_
    refine rn_go 80 (by with_unfolding_all rfl) ?_
    refine rn_br (by with_unfolding_all rfl) (fun c => absurd c (by decide)) (fun c => ?_)
    refine rn_go 80 (by with_unfolding_all rfl) ?_
    refine rn_br (by with_unfolding_all rfl) (fun c => ?_) (fun c => absurd hz c)
    refine rn_go 80 (by with_unfolding_all rfl) ?_
    exact rn_rt (by with_unfolding_all rfl) trivial rfl rfl
  · refine rn_ev am_m_X8_image rfl rfl ?_
    refine rn_go 80 (by with_unfolding_all rfl) ?_
    refine rn_cl (by with_unfolding_all rfl) (ev_up (by decide) (x8_isEither 0)) ?_
    refine rn_go 80 (by with_unfolding_all rfl) ?_
    refine rn_br (by with_unfolding_all rfl) (fun c => absurd c (by decide)) (fun c => ?_)
    refine rn_go 80 (by with_unfolding_all rfl) ?_
    refine rn_br (by with_unfolding_all rfl) (fun c => absurd c hz) (fun c => ?_)
    refine rn_go 80 (by with_unfolding_all rfl) ?_
    refine rn_cl (by with_unfolding_all rfl) (ev_up (by decide) (x8_imageOf0)) ?_
    refine rn_go 80 (by with_unfolding_all rfl) ?_
    refine rn_cl (by with_unfolding_all rfl) (ev_up (by decide) (xh_become_3_0 hb)) ?_
    refine rn_go 80 (by with_unfolding_all rfl) ?_
    exact rn_rt (by with_unfolding_all rfl) trivial rfl rfl
set_option maxRecDepth 10000 in
theorem x8_restore0 (hb : g 14 = 0 ∨ g 14 = 1) : (g 14 = 0 → am_ev 12 120 [.ref 0, .int 0] (wd g T A gm Am) (some (.int (-1000002))) (wd g T A gm Am)) ∧ (¬ g 14 = 0 → am_ev 12 120 [.ref 0, .int 0] (wd g T A gm Am) (some (.int 1)) (wd (upd (upd (upd g 11 (g 14)) 5 0) 6 0) (tu T 0 (T 3)) A gm Am)) := by
  refine ⟨fun hz => ?_, fun hz => ?_⟩
  · refine rn_ev am_m_X8_restore rfl rfl ?_
    refine rn_go 80 (by with_unfolding_all rfl) ?_
    refine rn_cl (by with_unfolding_all rfl) (ev_up (by decide) (x8_isEither 0)) ?_
    refine rn_go 80 (by with_unfolding_all rfl) ?_
    refine rn_br (by with_unfolding_all rfl) (fun c => absurd c (by decide)) (fun c => ?_)
    refine rn_go 80 (by with_unfolding_all rfl) ?_
    refine rn_cl (by with_unfolding_all rfl) (ev_up (by decide) (x8_imageOf0)) ?_
    refine rn_go 80 (by with_unfolding_all rfl) ?_
    refine rn_br (by with_unfolding_all rfl) (fun c => ?_) (fun c => absurd hz c)
    refine rn_go 80 (by with_unfolding_all rfl) ?_
    exact rn_rt (by with_unfolding_all rfl) trivial rfl rfl
  · refine rn_ev am_m_X8_restore rfl rfl ?_
    refine rn_go 80 (by with_unfolding_all rfl) ?_
    refine rn_cl (by with_unfolding_all rfl) (ev_up (by decide) (x8_isEither 0)) ?_
    refine rn_go 80 (by with_unfolding_all rfl) ?_
    refine rn_br (by with_unfolding_all rfl) (fun c => absurd c (by decide)) (fun c => ?_)
    refine rn_go 80 (by with_unfolding_all rfl) ?_
    refine rn_cl (by with_unfolding_all rfl) (ev_up (by decide) (x8_imageOf0)) ?_
    refine rn_go 80 (by with_unfolding_all rfl) ?_
    refine rn_br (by with_unfolding_all rfl) (fun c => absurd c hz) (fun c => ?_)
    refine rn_go 80 (by with_unfolding_all rfl) ?_
    refine rn_cl (by with_unfolding_all rfl) (ev_up (by decide) (x8_imageOf0)) ?_
    refine rn_go 80 (by with_unfolding_all rfl) ?_
    refine rn_cl (by with_unfolding_all rfl) (ev_up (by decide) (xh_become_0_3 hb)) ?_
    refine rn_go 80 (by with_unfolding_all rfl) ?_
    refine rn_cl (by with_unfolding_all rfl) (ev_up (by decide) (x0_forget)) ?_
    refine rn_go 80 (by with_unfolding_all rfl) ?_
    exact rn_rt (by with_unfolding_all rfl) trivial rfl rfl
set_option maxRecDepth 10000 in
theorem xm_image0 : (gm 0 = 0 → am_ev 12 209 [.ref 43, .int 0] (wd g T A gm Am) (some (.int (-1000002))) (wd g T A gm Am)) ∧ (¬ gm 0 = 0 → am_ev 12 209 [.ref 43, .int 0] (wd g T A gm Am) (some (.int 1)) (wd g T A gm (tu (tu Am 0 (rs (Am 0) 525 (tv (Am 0) 0))) 1 (upd (Am 1) 0 1)))) := by
  refine ⟨fun hz => ?_, fun hz => ?_⟩
  · refine rn_ev am_m_X9_image rfl rfl ?_
    refine rn_go 80 (by with_unfolding_all rfl) ?_
    refine rn_cl (by with_unfolding_all rfl) (ev_up (by decide) (xm_in _ _ _)) ?_
    refine rn_go 80 (by with_unfolding_all rfl) ?_
    refine rn_br (by with_unfolding_all rfl) (fun c => absurd c (by decide)) (fun c => ?_)
    refine rn_go 80 (by with_unfolding_all rfl) ?_
    refine rn_br (by with_unfolding_all rfl) (fun c => ?_) (fun c => absurd hz c)
    refine rn_go 80 (by with_unfolding_all rfl) ?_
    exact rn_rt (by with_unfolding_all rfl) trivial rfl rfl
  · refine rn_ev am_m_X9_image rfl rfl ?_
    refine rn_go 80 (by with_unfolding_all rfl) ?_
    refine rn_cl (by with_unfolding_all rfl) (ev_up (by decide) (xm_in _ _ _)) ?_
    refine rn_go 80 (by with_unfolding_all rfl) ?_
    refine rn_br (by with_unfolding_all rfl) (fun c => absurd c (by decide)) (fun c => ?_)
    refine rn_go 80 (by with_unfolding_all rfl) ?_
    refine rn_br (by with_unfolding_all rfl) (fun c => absurd c hz) (fun c => ?_)
    refine rn_go 80 (by with_unfolding_all rfl) ?_
    refine rn_cl (by with_unfolding_all rfl) (ev_up (by decide) (xm_copyTown (a := 0) (b := 525) (by omega) (by omega) (by omega))) ?_
    refine rn_go 80 (by with_unfolding_all rfl) ?_
    refine rn_st (0) (by with_unfolding_all rfl) (by decide) (by decide) (by decide) ?_
    refine rn_hp (by with_unfolding_all exact (wM_1)) ?_
    refine rn_go 80 (by with_unfolding_all rfl) ?_
    exact rn_rt (by with_unfolding_all rfl) trivial rfl rfl
set_option maxRecDepth 10000 in
theorem xm_restore0 : (Am 1 0 = 0 → am_ev 12 210 [.ref 43, .int 0] (wd g T A gm Am) (some (.int (-1000002))) (wd g T A gm Am)) ∧ (¬ Am 1 0 = 0 → am_ev 12 210 [.ref 43, .int 0] (wd g T A gm Am) (some (.int 1)) (wd g T A (upd gm 1 0) (tu Am 0 (rs (Am 0) 0 (tv (Am 0) 525))))) := by
  refine ⟨fun hz => ?_, fun hz => ?_⟩
  · refine rn_ev am_m_X9_restore rfl rfl ?_
    refine rn_go 80 (by with_unfolding_all rfl) ?_
    refine rn_cl (by with_unfolding_all rfl) (ev_up (by decide) (xm_in _ _ _)) ?_
    refine rn_go 80 (by with_unfolding_all rfl) ?_
    refine rn_br (by with_unfolding_all rfl) (fun c => absurd c (by decide)) (fun c => ?_)
    refine rn_go 80 (by with_unfolding_all rfl) ?_
    refine rn_ld (0) (by with_unfolding_all rfl) (by decide) (by decide) (by decide) ?_
    refine rn_go 80 (by with_unfolding_all rfl) ?_
    refine rn_br (by with_unfolding_all rfl) (fun c => ?_) (fun c => absurd hz c)
    refine rn_go 80 (by with_unfolding_all rfl) ?_
    exact rn_rt (by with_unfolding_all rfl) trivial rfl rfl
  · refine rn_ev am_m_X9_restore rfl rfl ?_
    refine rn_go 80 (by with_unfolding_all rfl) ?_
    refine rn_cl (by with_unfolding_all rfl) (ev_up (by decide) (xm_in _ _ _)) ?_
    refine rn_go 80 (by with_unfolding_all rfl) ?_
    refine rn_br (by with_unfolding_all rfl) (fun c => absurd c (by decide)) (fun c => ?_)
    refine rn_go 80 (by with_unfolding_all rfl) ?_
    refine rn_ld (0) (by with_unfolding_all rfl) (by decide) (by decide) (by decide) ?_
    refine rn_go 80 (by with_unfolding_all rfl) ?_
    refine rn_br (by with_unfolding_all rfl) (fun c => absurd c hz) (fun c => ?_)
    refine rn_go 80 (by with_unfolding_all rfl) ?_
    refine rn_cl (by with_unfolding_all rfl) (ev_up (by decide) (xm_copyTown (a := 525) (b := 0) (by omega) (by omega) (by omega))) ?_
    refine rn_to 43 80 (by with_unfolding_all rfl) ?_
    refine rn_hp (by with_unfolding_all exact (wN_1)) ?_
    refine rn_go 80 (by with_unfolding_all rfl) ?_
    exact rn_rt (by with_unfolding_all rfl) trivial rfl rfl
set_option maxRecDepth 10000 in
theorem x8_imageOf1 : am_ev 1 129 [.ref 0, .int 1] (wd g T A gm Am) (some (.ref 27)) (wd g T A gm Am) := by
  refine rn_ev am_m_X8_imageOf rfl rfl ?_
  refine rn_go 80 (by with_unfolding_all rfl) ?_
  refine rn_br (by with_unfolding_all rfl) (fun c => absurd c (by decide)) (fun c => ?_)
  refine rn_go 80 (by with_unfolding_all rfl) ?_
  exact rn_rt (by with_unfolding_all rfl) trivial rfl rfl
set_option maxRecDepth 10000 in
theorem x8_image1 (hb : g 11 = 0 ∨ g 11 = 1) : (g 11 = 0 → am_ev 12 119 [.ref 0, .int 1] (wd g T A gm Am) (some (.int (-1000002))) (wd g T A gm Am)) ∧ (¬ g 11 = 0 → am_ev 12 119 [.ref 0, .int 1] (wd g T A gm Am) (some (.int 1)) (wd (upd g 15 (g 11)) (tu T 4 (T 0)) A gm Am)) := by
  refine ⟨fun hz => ?_, fun hz => ?_⟩
  · refine rn_ev am_m_X8_image rfl rfl ?_
    refine rn_go 80 (by with_unfolding_all rfl) ?_
    refine rn_cl (by with_unfolding_all rfl) (ev_up (by decide) (x8_isEither 1)) ?_
    refine rn_go 80 (by with_unfolding_all rfl) ?_
    refine rn_br (by with_unfolding_all rfl) (fun c => absurd c (by decide)) (fun c => ?_)
    refine rn_go 80 (by with_unfolding_all rfl) ?_
    refine rn_br (by with_unfolding_all rfl) (fun c => ?_) (fun c => absurd hz c)
    refine rn_go 80 (by with_unfolding_all rfl) ?_
    exact rn_rt (by with_unfolding_all rfl) trivial rfl rfl
  · refine rn_ev am_m_X8_image rfl rfl ?_
    refine rn_go 80 (by with_unfolding_all rfl) ?_
    refine rn_cl (by with_unfolding_all rfl) (ev_up (by decide) (x8_isEither 1)) ?_
    refine rn_go 80 (by with_unfolding_all rfl) ?_
    refine rn_br (by with_unfolding_all rfl) (fun c => absurd c (by decide)) (fun c => ?_)
    refine rn_go 80 (by with_unfolding_all rfl) ?_
    refine rn_br (by with_unfolding_all rfl) (fun c => absurd c hz) (fun c => ?_)
    refine rn_go 80 (by with_unfolding_all rfl) ?_
    refine rn_cl (by with_unfolding_all rfl) (ev_up (by decide) (x8_imageOf1)) ?_
    refine rn_go 80 (by with_unfolding_all rfl) ?_
    refine rn_cl (by with_unfolding_all rfl) (ev_up (by decide) (xh_become_4_0 hb)) ?_
    refine rn_go 80 (by with_unfolding_all rfl) ?_
    exact rn_rt (by with_unfolding_all rfl) trivial rfl rfl
set_option maxRecDepth 10000 in
theorem x8_restore1 (hb : g 15 = 0 ∨ g 15 = 1) : (g 15 = 0 → am_ev 12 120 [.ref 0, .int 1] (wd g T A gm Am) (some (.int (-1000002))) (wd g T A gm Am)) ∧ (¬ g 15 = 0 → am_ev 12 120 [.ref 0, .int 1] (wd g T A gm Am) (some (.int 1)) (wd (upd (upd (upd g 11 (g 15)) 5 0) 6 0) (tu T 0 (T 4)) A gm Am)) := by
  refine ⟨fun hz => ?_, fun hz => ?_⟩
  · refine rn_ev am_m_X8_restore rfl rfl ?_
    refine rn_go 80 (by with_unfolding_all rfl) ?_
    refine rn_cl (by with_unfolding_all rfl) (ev_up (by decide) (x8_isEither 1)) ?_
    refine rn_go 80 (by with_unfolding_all rfl) ?_
    refine rn_br (by with_unfolding_all rfl) (fun c => absurd c (by decide)) (fun c => ?_)
    refine rn_go 80 (by with_unfolding_all rfl) ?_
    refine rn_cl (by with_unfolding_all rfl) (ev_up (by decide) (x8_imageOf1)) ?_
    refine rn_go 80 (by with_unfolding_all rfl) ?_
    refine rn_br (by with_unfolding_all rfl) (fun c => ?_) (fun c => absurd hz c)
    refine rn_go 80 (by with_unfolding_all rfl) ?_
    exact rn_rt (by with_unfolding_all rfl) trivial rfl rfl
  · refine rn_ev am_m_X8_restore rfl rfl ?_
    refine rn_go 80 (by with_unfolding_all rfl) ?_
    refine rn_cl (by with_unfolding_all rfl) (ev_up (by decide) (x8_isEither 1)) ?_
    refine rn_go 80 (by with_unfolding_all rfl) ?_
    refine rn_br (by with_unfolding_all rfl) (fun c => absurd c (by decide)) (fun c => ?_)
    refine rn_go 80 (by with_unfolding_all rfl) ?_
    refine rn_cl (by with_unfolding_all rfl) (ev_up (by decide) (x8_imageOf1)) ?_
    refine rn_go 80 (by with_unfolding_all rfl) ?_
    refine rn_br (by with_unfolding_all rfl) (fun c => absurd c hz) (fun c => ?_)
    refine rn_go 80 (by with_unfolding_all rfl) ?_
    refine rn_cl (by with_unfolding_all rfl) (ev_up (by decide) (x8_imageOf1)) ?_
    refine rn_go 80 (by with_unfolding_all rfl) ?_
    refine rn_cl (by with_unfolding_all rfl) (ev_up (by decide) (xh_become_0_4 hb)) ?_
    refine rn_go 80 (by with_unfolding_all rfl) ?_
    refine rn_cl (by with_unfolding_all rfl) (ev_up (by decide) (x0_forget)) ?_
    refine rn_go 80 (by with_unfolding_all rfl) ?_
    exact rn_rt (by with_unfolding_all rfl) trivial rfl rfl
set_option maxRecDepth 10000 in
theorem xm_image1 : (gm 0 = 0 → am_ev 12 209 [.ref 43, .int 1] (wd g T A gm Am) (some (.int (-1000002))) (wd g T A gm Am)) ∧ (¬ gm 0 = 0 → am_ev 12 209 [.ref 43, .int 1] (wd g T A gm Am) (some (.int 1)) (wd g T A gm (tu (tu Am 0 (rs (Am 0) 546 (tv (Am 0) 0))) 1 (upd (Am 1) 1 1)))) := by
  refine ⟨fun hz => ?_, fun hz => ?_⟩
  · refine rn_ev am_m_X9_image rfl rfl ?_
    refine rn_go 80 (by with_unfolding_all rfl) ?_
    refine rn_cl (by with_unfolding_all rfl) (ev_up (by decide) (xm_in _ _ _)) ?_
    refine rn_go 80 (by with_unfolding_all rfl) ?_
    refine rn_br (by with_unfolding_all rfl) (fun c => absurd c (by decide)) (fun c => ?_)
    refine rn_go 80 (by with_unfolding_all rfl) ?_
    refine rn_br (by with_unfolding_all rfl) (fun c => ?_) (fun c => absurd hz c)
    refine rn_go 80 (by with_unfolding_all rfl) ?_
    exact rn_rt (by with_unfolding_all rfl) trivial rfl rfl
  · refine rn_ev am_m_X9_image rfl rfl ?_
    refine rn_go 80 (by with_unfolding_all rfl) ?_
    refine rn_cl (by with_unfolding_all rfl) (ev_up (by decide) (xm_in _ _ _)) ?_
    refine rn_go 80 (by with_unfolding_all rfl) ?_
    refine rn_br (by with_unfolding_all rfl) (fun c => absurd c (by decide)) (fun c => ?_)
    refine rn_go 80 (by with_unfolding_all rfl) ?_
    refine rn_br (by with_unfolding_all rfl) (fun c => absurd c hz) (fun c => ?_)
    refine rn_go 80 (by with_unfolding_all rfl) ?_
    refine rn_cl (by with_unfolding_all rfl) (ev_up (by decide) (xm_copyTown (a := 0) (b := 546) (by omega) (by omega) (by omega))) ?_
    refine rn_go 80 (by with_unfolding_all rfl) ?_
    refine rn_st (1) (by with_unfolding_all rfl) (by decide) (by decide) (by decide) ?_
    refine rn_hp (by with_unfolding_all exact (wM_1)) ?_
    refine rn_go 80 (by with_unfolding_all rfl) ?_
    exact rn_rt (by with_unfolding_all rfl) trivial rfl rfl
set_option maxRecDepth 10000 in
theorem xm_restore1 : (Am 1 1 = 0 → am_ev 12 210 [.ref 43, .int 1] (wd g T A gm Am) (some (.int (-1000002))) (wd g T A gm Am)) ∧ (¬ Am 1 1 = 0 → am_ev 12 210 [.ref 43, .int 1] (wd g T A gm Am) (some (.int 1)) (wd g T A (upd gm 1 0) (tu Am 0 (rs (Am 0) 0 (tv (Am 0) 546))))) := by
  refine ⟨fun hz => ?_, fun hz => ?_⟩
  · refine rn_ev am_m_X9_restore rfl rfl ?_
    refine rn_go 80 (by with_unfolding_all rfl) ?_
    refine rn_cl (by with_unfolding_all rfl) (ev_up (by decide) (xm_in _ _ _)) ?_
    refine rn_go 80 (by with_unfolding_all rfl) ?_
    refine rn_br (by with_unfolding_all rfl) (fun c => absurd c (by decide)) (fun c => ?_)
    refine rn_go 80 (by with_unfolding_all rfl) ?_
    refine rn_ld (1) (by with_unfolding_all rfl) (by decide) (by decide) (by decide) ?_
    refine rn_go 80 (by with_unfolding_all rfl) ?_
    refine rn_br (by with_unfolding_all rfl) (fun c => ?_) (fun c => absurd hz c)
    refine rn_go 80 (by with_unfolding_all rfl) ?_
    exact rn_rt (by with_unfolding_all rfl) trivial rfl rfl
  · refine rn_ev am_m_X9_restore rfl rfl ?_
    refine rn_go 80 (by with_unfolding_all rfl) ?_
    refine rn_cl (by with_unfolding_all rfl) (ev_up (by decide) (xm_in _ _ _)) ?_
    refine rn_go 80 (by with_unfolding_all rfl) ?_
    refine rn_br (by with_unfolding_all rfl) (fun c => absurd c (by decide)) (fun c => ?_)
    refine rn_go 80 (by with_unfolding_all rfl) ?_
    refine rn_ld (1) (by with_unfolding_all rfl) (by decide) (by decide) (by decide) ?_
    refine rn_go 80 (by with_unfolding_all rfl) ?_
    refine rn_br (by with_unfolding_all rfl) (fun c => absurd c hz) (fun c => ?_)
    refine rn_go 80 (by with_unfolding_all rfl) ?_
    refine rn_cl (by with_unfolding_all rfl) (ev_up (by decide) (xm_copyTown (a := 546) (b := 0) (by omega) (by omega) (by omega))) ?_
    refine rn_to 43 80 (by with_unfolding_all rfl) ?_
    refine rn_hp (by with_unfolding_all exact (wN_1)) ?_
    refine rn_go 80 (by with_unfolding_all rfl) ?_
    exact rn_rt (by with_unfolding_all rfl) trivial rfl rfl
set_option maxRecDepth 10000 in
theorem x8_imageB {k : Int32} (hk : ie k = 0) : am_ev 12 119 [.ref 0, .int k] (wd g T A gm Am) (some (.int (-1000001))) (wd g T A gm Am) := by
  refine rn_ev am_m_X8_image rfl rfl ?_
  refine rn_go 80 (by with_unfolding_all rfl) ?_
  refine rn_cl (by with_unfolding_all rfl) (ev_up (by decide) (x8_isEither k)) ?_
  refine rn_go 80 (by with_unfolding_all rfl) ?_
  refine rn_br (by with_unfolding_all rfl) (fun c => ?_) (fun c => absurd hk c)
  refine rn_go 80 (by with_unfolding_all rfl) ?_
  exact rn_rt (by with_unfolding_all rfl) trivial rfl rfl
set_option maxRecDepth 10000 in
theorem xm_imageB {k : Int32} (hk : ie k = 0) : am_ev 12 209 [.ref 43, .int k] (wd g T A gm Am) (some (.int (-1000001))) (wd g T A gm Am) := by
  refine rn_ev am_m_X9_image rfl rfl ?_
  refine rn_go 80 (by with_unfolding_all rfl) ?_
  refine rn_cl (by with_unfolding_all rfl) (ev_up (by decide) (xm_in _ _ _)) ?_
  rw [inn_b (a := 0) (b := 1) (P := 0) (Q := 1) (by decide) (by decide), ie_btw]
  refine rn_go 80 (by with_unfolding_all rfl) ?_
  refine rn_br (by with_unfolding_all rfl) (fun c => ?_) (fun c => absurd hk c)
  refine rn_go 80 (by with_unfolding_all rfl) ?_
  exact rn_rt (by with_unfolding_all rfl) trivial rfl rfl
set_option maxRecDepth 10000 in
theorem x8_restoreB {k : Int32} (hk : ie k = 0) : am_ev 12 120 [.ref 0, .int k] (wd g T A gm Am) (some (.int (-1000001))) (wd g T A gm Am) := by
  refine rn_ev am_m_X8_restore rfl rfl ?_
  refine rn_go 80 (by with_unfolding_all rfl) ?_
  refine rn_cl (by with_unfolding_all rfl) (ev_up (by decide) (x8_isEither k)) ?_
  refine rn_go 80 (by with_unfolding_all rfl) ?_
  refine rn_br (by with_unfolding_all rfl) (fun c => ?_) (fun c => absurd hk c)
  refine rn_go 80 (by with_unfolding_all rfl) ?_
  exact rn_rt (by with_unfolding_all rfl) trivial rfl rfl
set_option maxRecDepth 10000 in
theorem xm_restoreB {k : Int32} (hk : ie k = 0) : am_ev 12 210 [.ref 43, .int k] (wd g T A gm Am) (some (.int (-1000001))) (wd g T A gm Am) := by
  refine rn_ev am_m_X9_restore rfl rfl ?_
  refine rn_go 80 (by with_unfolding_all rfl) ?_
  refine rn_cl (by with_unfolding_all rfl) (ev_up (by decide) (xm_in _ _ _)) ?_
  rw [inn_b (a := 0) (b := 1) (P := 0) (Q := 1) (by decide) (by decide), ie_btw]
  refine rn_go 80 (by with_unfolding_all rfl) ?_
  refine rn_br (by with_unfolding_all rfl) (fun c => ?_) (fun c => absurd hk c)
  refine rn_go 80 (by with_unfolding_all rfl) ?_
  exact rn_rt (by with_unfolding_all rfl) trivial rfl rfl
end

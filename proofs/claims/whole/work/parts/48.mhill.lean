/-! the reference's reading: law, motions, members -/
set_option maxRecDepth 10000 in
theorem tv_up {r : Nat → Int32} {B j : Nat} {x : Int32} : tv (upd r (B + j) x) B = upd (tv r B) j x := by
  funext k
  unfold tv upd
  by_cases h : k = j
  · rw [if_pos h, if_pos (by omega)]
  · rw [if_neg h, if_neg (by omega)]
set_option maxRecDepth 10000 in
theorem up2 {t t' : Nat → Int32} {j k : Nat} {v : Int32} (h : t k = t' k) : upd t j v k = upd t' j v k := by
  unfold upd
  by_cases q : k = j
  · rw [if_pos q, if_pos q]
  · rw [if_neg q, if_neg q, h]
set_option maxRecDepth 10000 in
theorem up3 {t t' : Nat → Int32} {j k : Nat} {v : Int32} (h : ¬ k = j → t k = t' k) : upd t j v k = upd t' j v k := by
  unfold upd
  by_cases q : k = j
  · rw [if_pos q, if_pos q]
  · rw [if_neg q, if_neg q, h q]
set_option maxRecDepth 10000 in
theorem eqv_addM {c : Nat} {y t : Nat → Int32} {v : Int32} (hc : c < 4) (h : Eqv 0 c y t) : Eqv 0 (c + 1) (addM y c v) (addM t c v) := by
  unfold addM
  exact ⟨fun k hk => up2 (up2 (h.1 k hk)), fun m hm => up2 (up3 (fun q => h.2.1 m (by omega))), fun p hp => absurd hp (Nat.not_lt_zero _)⟩
set_option maxRecDepth 10000 in
theorem eqv_addB {c mo : Nat} {y t : Nat → Int32} {k b m : Int32} (hc : c < 4) (hmo : mo ≤ 4) (h : Eqv c mo y t) : Eqv (c + 1) mo (addB y c k b m) (addB t c k b m) := by
  unfold addB
  refine ⟨fun j hj => up2 (up2 (up2 (up2 (h.1 j hj)))), fun j hj => up2 (up2 (up2 (up2 (h.2.1 j hj)))), fun p hp => ⟨?_, ?_, ?_⟩⟩
  · exact up2 (up2 (up2 (up3 (fun q => (h.2.2 p (by omega)).1))))
  · exact up2 (up2 (up3 (fun q => up2 (h.2.2 p (by omega)).2.1)))
  · exact up2 (up3 (fun q => up2 (up2 (h.2.2 p (by omega)).2.2)))
set_option maxRecDepth 10000 in
theorem lo_up {r0 r : Nat → Int32} {k : Nat} {x : Int32} (h : Lo r0 r) (hk : 567 ≤ k) : Lo r0 (upd r k x) := fun j hj => by rw [up_ne (by omega), h j hj]
set_option maxRecDepth 10000 in
theorem lo_rf {r : Nat → Int32} : Lo r r := fun _ _ => rfl
/-! what is left of a reading once it has failed -/
section
variable {f : Nat → Int32} {len : Nat} {S : Nat × Nat × Nat × (Nat → Int32)}
set_option maxRecDepth 10000 in
theorem moS_e (h : ¬ S.1 = 0) : moS f len S = S := by
  have h1 : mo1 f len S.1 S.2.1 S.2.2.1 = S.1 := by unfold mo1; rw [if_neg (fun q => h q.1)]
  have h3 : mo3 f len S.1 S.2.1 S.2.2.1 = (S.1, S.2.1, 0) := by unfold mo3; rw [h1, (tk_e h).1, (tk_e h).2, nm_er h]
  have h4 : mo4E f len S.1 S.2.1 S.2.2.1 = S.1 := by unfold mo4E; rw [h3]; exact (tk_e h).1
  have h5 : mo4P f len S.1 S.2.1 S.2.2.1 = S.2.1 := by unfold mo4P; rw [h3]; exact (tk_e h).2
  unfold moS
  rw [h4, h5, if_neg h]
set_option maxRecDepth 10000 in
theorem moS_n (h : S.1 = 0) (hn : ¬ ltr f len S.2.1 = 109) : moS f len S = (1, S.2.1, S.2.2.1, S.2.2.2) := by
  have h1 : mo1 f len S.1 S.2.1 S.2.2.1 = 0 := by unfold mo1; rw [if_neg (fun q => hn q.2.1)]; exact h
  have h3 : mo3 f len S.1 S.2.1 S.2.2.1 = (1, S.2.1, 0) := by unfold mo3; rw [h1, (tk_n hn).1, (tk_n hn).2, nm_er (by decide)]
  have h4 : mo4E f len S.1 S.2.1 S.2.2.1 = 1 := by unfold mo4E; rw [h3]; exact (tk_e (Nat.succ_ne_zero _)).1
  have h5 : mo4P f len S.1 S.2.1 S.2.2.1 = S.2.1 := by unfold mo4P; rw [h3]; exact (tk_e (Nat.succ_ne_zero _)).2
  unfold moS
  rw [h4, h5, if_neg (by decide)]
set_option maxRecDepth 10000 in
theorem moS_4 (h : S.1 = 0) (hn : ltr f len S.2.1 = 109) (h4 : S.2.2.1 = 4) : moS f len S = (3, S.2.1, S.2.2.1, S.2.2.2) := by
  have h1 : mo1 f len S.1 S.2.1 S.2.2.1 = 3 := by unfold mo1; rw [if_pos ⟨h, hn, h4⟩]
  have h3 : mo3 f len S.1 S.2.1 S.2.2.1 = (3, S.2.1, 0) := by unfold mo3; rw [h1, (tk_e (by decide)).1, (tk_e (by decide)).2, nm_er (by decide)]
  have h4 : mo4E f len S.1 S.2.1 S.2.2.1 = 3 := by unfold mo4E; rw [h3]; exact (tk_e (Nat.succ_ne_zero _)).1
  have h5 : mo4P f len S.1 S.2.1 S.2.2.1 = S.2.1 := by unfold mo4P; rw [h3]; exact (tk_e (Nat.succ_ne_zero _)).2
  unfold moS
  rw [h4, h5, if_neg (by decide)]
set_option maxRecDepth 10000 in
theorem mo3_y (h : S.1 = 0) (hn : ltr f len S.2.1 = 109) (h4 : ¬ S.2.2.1 = 4) : mo3 f len S.1 S.2.1 S.2.2.1 = nm f len 0 99 0 (S.2.1 + 1) := by
  have h1 : mo1 f len S.1 S.2.1 S.2.2.1 = 0 := by unfold mo1; rw [if_neg (fun q => h4 q.2.2)]; exact h
  unfold mo3
  rw [h1, (tk_y hn).1, (tk_y hn).2]
set_option maxRecDepth 10000 in
theorem moL_e (h : ¬ S.1 = 0) : ∀ q, moL f len q S = S
  | 0 => rfl
  | q + 1 => by
    unfold moL
    rw [if_neg (fun c => h c.1)]
set_option maxRecDepth 10000 in
theorem meL_e (h : ¬ S.1 = 0) : ∀ q, meL f len q S = S
  | 0 => rfl
  | q + 1 => by
    unfold meL
    rw [if_neg (fun c => h c.1)]
set_option maxRecDepth 10000 in
theorem me5_e {p c e p' : Nat} (h1 : me1E f len p c = e) (h2 : me1P f len p c = p') (he : ¬ e = 0) : me5E f len p c = e ∧ me5P f len p c = p' := by
  have g2 : me2 f len p c = (e, p', 0) := by unfold me2; rw [h1, h2, nm_er he]
  have g3 : me3E f len p c = e := by unfold me3E; rw [g2]; exact (tk_e he).1
  have g4 : me3P f len p c = p' := by unfold me3P; rw [g2]; exact (tk_e he).2
  have g5 : me4 f len p c = (e, p', 0) := by unfold me4; rw [g3, g4, nm_er he]
  refine ⟨?_, ?_⟩
  · unfold me5E
    rw [g5]
    exact (tk_e he).1
  · unfold me5P
    rw [g5]
    exact (tk_e he).2
set_option maxRecDepth 10000 in
theorem me1_0 {p c : Nat} (h : kd (ltr f len p) = 0) : me1E f len p c = 1 ∧ me1P f len p c = p := by
  unfold me1E me1P
  rw [if_pos h, if_pos h]
  exact ⟨rfl, rfl⟩
set_option maxRecDepth 10000 in
theorem me1_4 {p c : Nat} (h : ¬ kd (ltr f len p) = 0) (hc : c = 4) : me1E f len p c = 3 ∧ me1P f len p c = p := by
  unfold me1E me1P
  rw [if_neg h, if_neg h, if_pos hc, if_pos hc]
  exact ⟨rfl, rfl⟩
set_option maxRecDepth 10000 in
theorem me1_y {p c : Nat} (h : ¬ kd (ltr f len p) = 0) (hc : ¬ c = 4) : me1E f len p c = 0 ∧ me1P f len p c = p + 1 := by
  unfold me1E me1P
  rw [if_neg h, if_neg h, if_neg hc, if_neg hc]
  exact ⟨rfl, rfl⟩
set_option maxRecDepth 10000 in
theorem meS_bad {e p' : Nat} (h1 : me5E f len S.2.1 S.2.2.1 = e) (h2 : me5P f len S.2.1 S.2.2.1 = p') (he : ¬ e = 0) : meS f len S = (e, p', S.2.2.1, S.2.2.2) := by
  unfold meS
  rw [h1, h2, if_neg he]
set_option maxRecDepth 10000 in
theorem meS_0 (h : kd (ltr f len S.2.1) = 0) : meS f len S = (1, S.2.1, S.2.2.1, S.2.2.2) := by
  obtain ⟨a, b⟩ := me5_e (me1_0 (c := S.2.2.1) h).1 (me1_0 h).2 (by decide)
  exact meS_bad a b (by decide)
set_option maxRecDepth 10000 in
theorem meS_4 (h : ¬ kd (ltr f len S.2.1) = 0) (hc : S.2.2.1 = 4) : meS f len S = (3, S.2.1, S.2.2.1, S.2.2.2) := by
  obtain ⟨a, b⟩ := me5_e (me1_4 h hc).1 (me1_4 h hc).2 (by decide)
  exact meS_bad a b (by decide)
end
section
variable {g gm : Nat → Int32} {T A Am : Nat → Nat → Int32} {len p : Nat} {w x : Int32} {r0 : Nat → Int32}
set_option maxRecDepth 10000 in
theorem xm_readsLaw {r : Nat → Int32} (hl : gm 2 = nI len) (h100 : len ≤ 100) (hlo : Lo r0 r) : ∃ w' x' r', Lo r0 r' ∧ (¬ laE (Am 5) len = 0 → w' = nI (laE (Am 5) len)) ∧ (laE (Am 5) len = 0 → r' = upd r (567 + 2) (la2 (Am 5) len).2.2) ∧ am_ev 4 156 [.ref 43] (wd g T A (rd gm 0 w x) (tu Am 0 r)) (some (.int (if laE (Am 5) len = 0 then 1 else 0))) (wd g T A (rd gm (laP (Am 5) len) w' x') (tu Am 0 r')) := by
  have t5 : tu Am 0 r 5 = Am 5 := tu_n (by decide)
  unfold laE laP
  by_cases h1 : ltr (Am 5) len 0 = 104
  · have e2 : la2 (Am 5) len = nm (Am 5) len 1 9 0 1 := by unfold la2; rw [(tk_y h1).1, (tk_y h1).2]
    have hp1 : 1 ≤ len := by
      rcases Nat.lt_or_ge 0 len with q | q
      · exact q
      · rw [ltr_out q] at h1
        exact absurd h1 (by decide)
    have hn := xm_number (g := g) (T := T) (A := A) (Am := tu Am 0 r) (w := w) (x := x) hl h100 hp1 1 9
    rw [t5, ← e2] at hn
    by_cases h2 : (la2 (Am 5) len).1 = 0
    · rw [h2]
      have hp2 : (la2 (Am 5) len).2.1 ≤ len := by rw [e2]; exact nm_len hp1
      by_cases h3 : ltr (Am 5) len (la2 (Am 5) len).2.1 = 59
      · refine ⟨w, (la2 (Am 5) len).2.2, _, lo_up (k := 567 + 2) hlo (by decide), fun h => absurd (tk_y h3).1 h, fun _ => rfl, ?_⟩
        rw [(tk_y h3).1, (tk_y h3).2, if_pos rfl]
        refine rn_ev am_m_X9_readsLaw rfl rfl ?_
        refine rn_go 80 (by with_unfolding_all rfl) ?_
        refine rn_cl (by with_unfolding_all rfl) (ev_up (by decide) (xm_signY hl h100 (Nat.zero_le _) (by decide) (by rw [t5]; exact h1))) ?_
        refine rn_go 80 (by with_unfolding_all rfl) ?_
        refine rn_br (by with_unfolding_all rfl) (fun c_ => absurd c_ ((by decide))) (fun _ => ?_)
        refine rn_go 80 (by with_unfolding_all rfl) ?_
        refine rn_cl (by with_unfolding_all rfl) (ev_up (by decide) (hn.1 h2)) ?_
        refine rn_go 80 (by with_unfolding_all rfl) ?_
        refine rn_br (by with_unfolding_all rfl) (fun c_ => absurd c_ ((by decide))) (fun _ => ?_)
        refine rn_go 80 (by with_unfolding_all rfl) ?_
        refine rn_st (569) (by with_unfolding_all rfl) (by decide) (by decide) (by decide) ?_
        refine rn_hp (by with_unfolding_all exact (wM_0)) ?_
        rw [tu_tu, tu_s, rd_8]
        refine rn_go 80 (by with_unfolding_all rfl) ?_
        refine rn_cl (by with_unfolding_all rfl) (ev_up (by decide) (xm_signY hl h100 hp2 (by decide) (by rw [tu_n (by decide)]; exact h3))) ?_
        refine rn_go 80 (by with_unfolding_all rfl) ?_
        exact rn_rt (by with_unfolding_all rfl) (Or.inr rfl) (rfl) (rfl)
      · refine ⟨nI 1, (la2 (Am 5) len).2.2, _, lo_up (k := 567 + 2) (x := (la2 (Am 5) len).2.2) hlo (by decide), fun h => by rw [(tk_n h3).1], fun h => absurd h (by rw [(tk_n h3).1]; decide), ?_⟩
        rw [(tk_n h3).1, (tk_n h3).2, if_neg (by decide)]
        refine rn_ev am_m_X9_readsLaw rfl rfl ?_
        refine rn_go 80 (by with_unfolding_all rfl) ?_
        refine rn_cl (by with_unfolding_all rfl) (ev_up (by decide) (xm_signY hl h100 (Nat.zero_le _) (by decide) (by rw [t5]; exact h1))) ?_
        refine rn_go 80 (by with_unfolding_all rfl) ?_
        refine rn_br (by with_unfolding_all rfl) (fun c_ => absurd c_ ((by decide))) (fun _ => ?_)
        refine rn_go 80 (by with_unfolding_all rfl) ?_
        refine rn_cl (by with_unfolding_all rfl) (ev_up (by decide) (hn.1 h2)) ?_
        refine rn_go 80 (by with_unfolding_all rfl) ?_
        refine rn_br (by with_unfolding_all rfl) (fun c_ => absurd c_ ((by decide))) (fun _ => ?_)
        refine rn_go 80 (by with_unfolding_all rfl) ?_
        refine rn_st (569) (by with_unfolding_all rfl) (by decide) (by decide) (by decide) ?_
        refine rn_hp (by with_unfolding_all exact (wM_0)) ?_
        rw [tu_tu, tu_s, rd_8]
        refine rn_go 80 (by with_unfolding_all rfl) ?_
        refine rn_cl (by with_unfolding_all rfl) (ev_up (by decide) (xm_signN hl h100 hp2 (by decide) (by rw [tu_n (by decide)]; exact h3))) ?_
        refine rn_go 80 (by with_unfolding_all rfl) ?_
        exact rn_rt (by with_unfolding_all rfl) (Or.inl rfl) (rfl) (rfl)
    · obtain ⟨x', hx⟩ := hn.2 h2
      refine ⟨nI (la2 (Am 5) len).1, x', r, hlo, fun h => by rw [(tk_e h2).1], fun h => absurd h (by rw [(tk_e h2).1]; exact h2), ?_⟩
      rw [(tk_e h2).1, (tk_e h2).2, if_neg h2]
      refine rn_ev am_m_X9_readsLaw rfl rfl ?_
      refine rn_go 80 (by with_unfolding_all rfl) ?_
      refine rn_cl (by with_unfolding_all rfl) (ev_up (by decide) (xm_signY hl h100 (Nat.zero_le _) (by decide) (by rw [t5]; exact h1))) ?_
      refine rn_go 80 (by with_unfolding_all rfl) ?_
      refine rn_br (by with_unfolding_all rfl) (fun c_ => absurd c_ ((by decide))) (fun _ => ?_)
      refine rn_go 80 (by with_unfolding_all rfl) ?_
      refine rn_cl (by with_unfolding_all rfl) (ev_up (by decide) (hx)) ?_
      refine rn_go 80 (by with_unfolding_all rfl) ?_
      refine rn_br (by with_unfolding_all rfl) (fun _ => ?_) (fun c_ => absurd (rfl) c_)
      refine rn_go 80 (by with_unfolding_all rfl) ?_
      exact rn_rt (by with_unfolding_all rfl) (Or.inl rfl) (rfl) (rfl)
  · have e2 : la2 (Am 5) len = (1, 0, 0) := by unfold la2; rw [(tk_n h1).1, (tk_n h1).2, nm_er (by decide)]
    have h2 : ¬ (la2 (Am 5) len).1 = 0 := by rw [e2]; decide
    refine ⟨nI 1, x, r, hlo, fun h => by rw [(tk_e h2).1, e2], fun h => absurd h (by rw [(tk_e h2).1]; exact h2), ?_⟩
    rw [(tk_e h2).1, (tk_e h2).2, if_neg h2, e2]
    refine rn_ev am_m_X9_readsLaw rfl rfl ?_
    refine rn_go 80 (by with_unfolding_all rfl) ?_
    refine rn_cl (by with_unfolding_all rfl) (ev_up (by decide) (xm_signN hl h100 (Nat.zero_le _) (by decide) (by rw [t5]; exact h1))) ?_
    refine rn_go 80 (by with_unfolding_all rfl) ?_
    refine rn_br (by with_unfolding_all rfl) (fun _ => ?_) (fun c_ => absurd (rfl) c_)
    refine rn_go 80 (by with_unfolding_all rfl) ?_
    exact rn_rt (by with_unfolding_all rfl) (Or.inl rfl) (rfl) (rfl)
end

/-! the reference's motions, members -/
section
variable {g gm : Nat → Int32} {T A Am : Nat → Nat → Int32} {len : Nat} {w x : Int32} {r0 : Nat → Int32}
set_option maxRecDepth 10000 in
theorem mo_last {S : Nat × Nat × Nat × (Nat → Int32)} {r : Nat → Int32} (hl : gm 2 = nI len) (h100 : len ≤ 100) (hlo : Lo r0 r) (c4 : S.2.2.1 < 4) (hS : mo3 (Am 5) len S.1 S.2.1 S.2.2.1 = nm (Am 5) len 0 99 0 (S.2.1 + 1)) (hp1 : S.2.1 + 1 ≤ len) (h2 : (nm (Am 5) len 0 99 0 (S.2.1 + 1)).1 = 0) (he : Eqv 0 S.2.2.1 S.2.2.2 (tv r 567)) : ∃ w' x', (¬ (moS (Am 5) len S).1 = 0 → w' = nI (moS (Am 5) len S).1) ∧ ((moS (Am 5) len S).1 = 0 → Eqv 0 (moS (Am 5) len S).2.2.1 (moS (Am 5) len S).2.2.2 (tv (upd (upd r (572 + S.2.2.1) (nm (Am 5) len 0 99 0 (S.2.1 + 1)).2.2) 567 (nI (S.2.2.1 + 1))) 567)) ∧ am_ev 2 154 [.ref 43, .int 59] (wd g T A (rd gm (nm (Am 5) len 0 99 0 (S.2.1 + 1)).2.1 w x) (tu Am 0 (upd (upd r (572 + S.2.2.1) (nm (Am 5) len 0 99 0 (S.2.1 + 1)).2.2) 567 (nI (S.2.2.1 + 1))))) (some (.int (if (moS (Am 5) len S).1 = 0 then 1 else 0))) (wd g T A (rd gm (moS (Am 5) len S).2.1 w' x') (tu Am 0 (upd (upd r (572 + S.2.2.1) (nm (Am 5) len 0 99 0 (S.2.1 + 1)).2.2) 567 (nI (S.2.2.1 + 1))))) := by
  have hp2 : (nm (Am 5) len 0 99 0 (S.2.1 + 1)).2.1 ≤ len := nm_len hp1
  have e4 : mo4E (Am 5) len S.1 S.2.1 S.2.2.1 = tkE (Am 5) len 59 0 (nm (Am 5) len 0 99 0 (S.2.1 + 1)).2.1 := by unfold mo4E; rw [hS, h2]
  have e5 : mo4P (Am 5) len S.1 S.2.1 S.2.2.1 = tkP (Am 5) len 59 0 (nm (Am 5) len 0 99 0 (S.2.1 + 1)).2.1 := by unfold mo4P; rw [hS, h2]
  have e6 : (mo3 (Am 5) len S.1 S.2.1 S.2.2.1).2.2 = (nm (Am 5) len 0 99 0 (S.2.1 + 1)).2.2 := by rw [hS]
  unfold moS
  rw [e4, e5, e6]
  generalize nm (Am 5) len 0 99 0 (S.2.1 + 1) = N at hp2 ⊢
  by_cases h3 : ltr (Am 5) len N.2.1 = 59
  · rw [(tk_y h3).1, (tk_y h3).2, if_pos rfl]
    refine ⟨w, x, fun h => absurd rfl h, fun _ => ?_, ?_⟩
    · show Eqv 0 (S.2.2.1 + 1) (addM S.2.2.2 S.2.2.1 N.2.2) _
      rw [show 572 + S.2.2.1 = 567 + (5 + S.2.2.1) by omega, show upd (upd r (567 + (5 + S.2.2.1)) N.2.2) 567 (nI (S.2.2.1 + 1)) = upd (upd r (567 + (5 + S.2.2.1)) N.2.2) (567 + 0) (nI (S.2.2.1 + 1)) from rfl, tv_up, tv_up]
      exact eqv_addM c4 he
    · exact xm_signY hl h100 hp2 (by decide) (by rw [tu_n (by decide)]; exact h3)
  · rw [(tk_n h3).1, (tk_n h3).2, if_neg (Nat.succ_ne_zero _)]
    refine ⟨nI 1, x, fun _ => rfl, fun h => absurd h (Nat.succ_ne_zero _), ?_⟩
    exact xm_signN hl h100 hp2 (by decide) (by rw [tu_n (by decide)]; exact h3)
set_option maxRecDepth 10000 in
theorem xm_readsMotion {S : Nat × Nat × Nat × (Nat → Int32)} {r : Nat → Int32} (hl : gm 2 = nI len) (h100 : len ≤ 100) (hlo : Lo r0 r) (hS : IM 0 len S) (h0 : S.1 = 0) (hm : ltr (Am 5) len S.2.1 = 109) (he : Eqv 0 S.2.2.1 S.2.2.2 (tv r 567)) : ∃ w' x' r', Lo r0 r' ∧ (¬ (moS (Am 5) len S).1 = 0 → w' = nI (moS (Am 5) len S).1) ∧ ((moS (Am 5) len S).1 = 0 → Eqv 0 (moS (Am 5) len S).2.2.1 (moS (Am 5) len S).2.2.2 (tv r' 567)) ∧ am_ev 4 157 [.ref 43] (wd g T A (rd gm S.2.1 w x) (tu Am 0 r)) (some (.int (if (moS (Am 5) len S).1 = 0 then 1 else 0))) (wd g T A (rd gm (moS (Am 5) len S).2.1 w' x') (tu Am 0 r')) := by
  obtain ⟨i1, i2, i3, i4⟩ := hS
  have t5 : tu Am 0 r 5 = Am 5 := tu_n (by decide)
  have hr0 : r 567 = nI S.2.2.1 := by rw [← i4, he.1 0 (by decide)]; rfl
  have hp1 : S.2.1 + 1 ≤ len := by
    rcases Nat.lt_or_ge S.2.1 len with q | q
    · exact q
    · rw [ltr_out q] at hm
      exact absurd hm (by decide)
  by_cases c4 : S.2.2.1 = 4
  · rw [moS_4 h0 hm c4]
    refine ⟨nI 3, x, r, hlo, fun _ => rfl, fun h => absurd h (Nat.succ_ne_zero _), ?_⟩
    rw [if_neg (Nat.succ_ne_zero _)]
    refine rn_ev am_m_X9_readsMotion rfl rfl ?_
    refine rn_go 80 (by with_unfolding_all rfl) ?_
    refine rn_ld (567) (by with_unfolding_all rfl) rfl (by decide) (by decide) ?_
    rw [tu_s, hr0, c4]
    refine rn_go 80 (by with_unfolding_all rfl) ?_
    refine rn_br (by with_unfolding_all rfl) (fun _ => ?_) (fun c_ => absurd (rfl) c_)
    refine rn_go 80 (by with_unfolding_all rfl) ?_
    refine rn_cl (by with_unfolding_all rfl) (ev_up (by decide) (xm_refuse 3)) ?_
    rw [show (3 : Int32) = nI 3 from rfl, rd_u7]
    refine rn_go 80 (by with_unfolding_all rfl) ?_
    exact rn_rt (by with_unfolding_all rfl) (Or.inl rfl) (rfl) (rfl)
  have c4' : S.2.2.1 < 4 := by omega
  have e3 := mo3_y (f := Am 5) (len := len) h0 hm c4
  have hn := xm_number (g := g) (T := T) (A := A) (Am := tu Am 0 r) (w := w) (x := x) hl h100 hp1 0 99
  rw [t5] at hn
  by_cases h2 : (nm (Am 5) len 0 99 0 (S.2.1 + 1)).1 = 0
  · obtain ⟨w', x', k1, k2, k3⟩ := mo_last (g := g) (T := T) (A := A) (w := w) (x := (nm (Am 5) len 0 99 0 (S.2.1 + 1)).2.2) hl h100 hlo c4' e3 hp1 h2 he
    refine ⟨w', x', _, lo_up (lo_up hlo (show 567 ≤ 572 + S.2.2.1 by omega)) (Nat.le_refl _), k1, k2, ?_⟩
    refine rn_ev am_m_X9_readsMotion rfl rfl ?_
    refine rn_go 80 (by with_unfolding_all rfl) ?_
    refine rn_ld (567) (by with_unfolding_all rfl) rfl (by decide) (by decide) ?_
    rw [tu_s, hr0]
    refine rn_go 80 (by with_unfolding_all rfl) ?_
    refine rn_br (by with_unfolding_all rfl) (fun c_ => absurd c_ ((by exact fun q => c4 ((nI_eq (b := 4) (by omega) (by omega)).mp q)))) (fun _ => ?_)
    refine rn_to 30 80 (by with_unfolding_all rfl) ?_
    refine rn_hp (by with_unfolding_all exact (wN_6)) ?_
    rw [rd_6, nI_1, rd_u6]
    refine rn_go 80 (by with_unfolding_all rfl) ?_
    refine rn_cl (by with_unfolding_all rfl) (ev_up (by decide) (hn.1 h2)) ?_
    refine rn_go 80 (by with_unfolding_all rfl) ?_
    refine rn_br (by with_unfolding_all rfl) (fun c_ => absurd c_ ((by decide))) (fun _ => ?_)
    refine rn_go 80 (by with_unfolding_all rfl) ?_
    refine rn_st (572 + S.2.2.1) (by with_unfolding_all rfl) (nI_add 572 _) (by omega) (by decide) ?_
    refine rn_hp (by with_unfolding_all exact (wM_0)) ?_
    rw [tu_tu, tu_s, rd_8]
    refine rn_go 80 (by with_unfolding_all rfl) ?_
    refine rn_ld (567) (by with_unfolding_all rfl) rfl (by decide) (by decide) ?_
    rw [tu_s, up_ne (by omega), hr0]
    refine rn_go 80 (by with_unfolding_all rfl) ?_
    refine rn_st (567) (by with_unfolding_all rfl) rfl (by decide) (by decide) ?_
    refine rn_hp (by with_unfolding_all exact (wM_0)) ?_
    rw [tu_tu, tu_s, nI_1]
    refine rn_go 80 (by with_unfolding_all rfl) ?_
    refine rn_cl (by with_unfolding_all rfl) (ev_up (by decide) (k3)) ?_
    refine rn_go 80 (by with_unfolding_all rfl) ?_
    refine rn_rt (by with_unfolding_all rfl) ?_ rfl rfl
    split
    · exact Or.inr rfl
    · exact Or.inl rfl
  · obtain ⟨x', hx⟩ := hn.2 h2
    have e4 : mo4E (Am 5) len S.1 S.2.1 S.2.2.1 = (nm (Am 5) len 0 99 0 (S.2.1 + 1)).1 := by unfold mo4E; rw [e3]; exact (tk_e h2).1
    have e5 : mo4P (Am 5) len S.1 S.2.1 S.2.2.1 = (nm (Am 5) len 0 99 0 (S.2.1 + 1)).2.1 := by unfold mo4P; rw [e3]; exact (tk_e h2).2
    have eS : moS (Am 5) len S = ((nm (Am 5) len 0 99 0 (S.2.1 + 1)).1, (nm (Am 5) len 0 99 0 (S.2.1 + 1)).2.1, S.2.2.1, S.2.2.2) := by unfold moS; rw [e4, e5, if_neg h2]
    rw [eS]
    refine ⟨nI (nm (Am 5) len 0 99 0 (S.2.1 + 1)).1, x', r, hlo, fun _ => rfl, fun h => absurd h h2, ?_⟩
    rw [if_neg h2]
    refine rn_ev am_m_X9_readsMotion rfl rfl ?_
    refine rn_go 80 (by with_unfolding_all rfl) ?_
    refine rn_ld (567) (by with_unfolding_all rfl) rfl (by decide) (by decide) ?_
    rw [tu_s, hr0]
    refine rn_go 80 (by with_unfolding_all rfl) ?_
    refine rn_br (by with_unfolding_all rfl) (fun c_ => absurd c_ ((by exact fun q => c4 ((nI_eq (b := 4) (by omega) (by omega)).mp q)))) (fun _ => ?_)
    refine rn_to 30 80 (by with_unfolding_all rfl) ?_
    refine rn_hp (by with_unfolding_all exact (wN_6)) ?_
    rw [rd_6, nI_1, rd_u6]
    refine rn_go 80 (by with_unfolding_all rfl) ?_
    refine rn_cl (by with_unfolding_all rfl) (ev_up (by decide) (hx)) ?_
    refine rn_go 80 (by with_unfolding_all rfl) ?_
    refine rn_br (by with_unfolding_all rfl) (fun _ => ?_) (fun c_ => absurd (rfl) c_)
    refine rn_go 80 (by with_unfolding_all rfl) ?_
    exact rn_rt (by with_unfolding_all rfl) (Or.inl rfl) (rfl) (rfl)
set_option maxRecDepth 10000 in
theorem xm_kindOf (c : Int32) {h : am_H} : am_ev 1 158 [.int c] h (some (.int (kd c))) h := by
  unfold kd
  refine rn_ev am_m_X9_kindOfLetter rfl rfl ?_
  refine rn_go 80 (by with_unfolding_all rfl) ?_
  refine rn_br (by with_unfolding_all rfl) (fun h1 => ?_) (fun h1 => ?_)
  · rw [if_pos h1]
    refine rn_go 80 (by with_unfolding_all rfl) ?_
    exact rn_rt (by with_unfolding_all rfl) trivial rfl rfl
  rw [if_neg h1]
  refine rn_go 80 (by with_unfolding_all rfl) ?_
  refine rn_br (by with_unfolding_all rfl) (fun h2 => ?_) (fun h2 => ?_)
  · rw [if_pos h2]
    refine rn_go 80 (by with_unfolding_all rfl) ?_
    exact rn_rt (by with_unfolding_all rfl) trivial rfl rfl
  rw [if_neg h2]
  refine rn_go 80 (by with_unfolding_all rfl) ?_
  refine rn_br (by with_unfolding_all rfl) (fun h3 => ?_) (fun h3 => ?_)
  · rw [if_pos h3]
    refine rn_go 80 (by with_unfolding_all rfl) ?_
    exact rn_rt (by with_unfolding_all rfl) trivial rfl rfl
  rw [if_neg h3]
  refine rn_go 80 (by with_unfolding_all rfl) ?_
  refine rn_br (by with_unfolding_all rfl) (fun h4 => ?_) (fun h4 => ?_)
  · rw [if_pos h4]
    refine rn_go 80 (by with_unfolding_all rfl) ?_
    exact rn_rt (by with_unfolding_all rfl) trivial rfl rfl
  rw [if_neg h4]
  refine rn_go 80 (by with_unfolding_all rfl) ?_
  refine rn_br (by with_unfolding_all rfl) (fun h5 => ?_) (fun h5 => ?_)
  · rw [if_pos h5]
    refine rn_go 80 (by with_unfolding_all rfl) ?_
    exact rn_rt (by with_unfolding_all rfl) trivial rfl rfl
  rw [if_neg h5]
  refine rn_go 80 (by with_unfolding_all rfl) ?_
  exact rn_rt (by with_unfolding_all rfl) trivial rfl rfl
set_option maxRecDepth 10000 in
theorem kd_15 (c : Int32) : kd c = 0 ∨ kd c = 1 ∨ kd c = 2 ∨ kd c = 3 ∨ kd c = 4 ∨ kd c = 5 := by
  unfold kd
  split
  · exact Or.inr (Or.inl rfl)
  split
  · exact Or.inr (Or.inr (Or.inl rfl))
  split
  · exact Or.inr (Or.inr (Or.inr (Or.inl rfl)))
  split
  · exact Or.inr (Or.inr (Or.inr (Or.inr (Or.inl rfl))))
  split
  · exact Or.inr (Or.inr (Or.inr (Or.inr (Or.inr rfl))))
  · exact Or.inl rfl
set_option maxRecDepth 10000 in
theorem xm_isSort {p : Nat} (hl : gm 2 = nI len) (h100 : len ≤ 100) (hp : p ≤ len) : am_ev 2 160 [.ref 43] (wd g T A (rd gm p w x) Am) (some (.int (if kd (ltr (Am 5) len p) = 0 then 0 else 1))) (wd g T A (rd gm p w x) Am) := by
  have hl' : rd gm p w x 2 = nI len := by rw [rd_ne (by decide) (by decide) (by decide)]; exact hl
  refine rn_ev am_m_X9_isSort rfl rfl ?_
  refine rn_go 80 (by with_unfolding_all rfl) ?_
  by_cases q : p < len
  · refine rn_br (by with_unfolding_all rfl) (fun c_ => absurd c_ ((by rw [rd_6, hl']; exact nI_ge q (by omega)))) (fun _ => ?_)
    refine rn_go 80 (by with_unfolding_all rfl) ?_
    refine rn_ld (p) (by with_unfolding_all rfl) rd_6 (by omega) (by decide) ?_
    refine rn_go 80 (by with_unfolding_all rfl) ?_
    refine rn_cl (by with_unfolding_all rfl) (ev_up (by decide) (xm_kindOf _)) ?_
    rw [ltr_in q]
    refine rn_go 80 (by with_unfolding_all rfl) ?_
    by_cases h : kd (Am 5 p) = 0
    · rw [if_pos h]
      refine rn_br (by with_unfolding_all rfl) (fun _ => ?_) (fun c_ => absurd ((by rw [h]; decide)) c_)
      refine rn_go 80 (by with_unfolding_all rfl) ?_
      exact rn_rt (by with_unfolding_all rfl) (Or.inl rfl) (rfl) (rfl)
    · rw [if_neg h]
      refine rn_br (by with_unfolding_all rfl) (fun c_ => absurd c_ ((by rcases kd_15 (Am 5 p) with k | k | k | k | k | k <;> rw [k] <;> first | decide | exact absurd k h))) (fun _ => ?_)
      refine rn_go 80 (by with_unfolding_all rfl) ?_
      exact rn_rt (by with_unfolding_all rfl) (Or.inr rfl) (rfl) (rfl)
  · refine rn_br (by with_unfolding_all rfl) (fun _ => ?_) (fun c_ => absurd ((by rw [rd_6, hl']; exact nI_le (by omega) (by omega))) c_)
    refine rn_go 80 (by with_unfolding_all rfl) ?_
    exact rn_rt (by with_unfolding_all rfl) (Or.inl rfl) (by rw [kd_out p (by omega)]; rfl) (rfl)
end

/-! the reference's members; its reading whole -/
section
variable {f : Nat → Int32} {len p c : Nat}
set_option maxRecDepth 10000 in
theorem me5_b4 (h : ¬ (me4 f len p c).1 = 0) : me5E f len p c = (me4 f len p c).1 ∧ me5P f len p c = (me4 f len p c).2.1 := by
  unfold me5E me5P
  exact tk_e h
set_option maxRecDepth 10000 in
theorem me5_b3 (h : ¬ me3E f len p c = 0) : me5E f len p c = me3E f len p c ∧ me5P f len p c = me3P f len p c := by
  have h4 : me4 f len p c = (me3E f len p c, me3P f len p c, 0) := by unfold me4; rw [nm_er h]
  have := me5_b4 (f := f) (len := len) (p := p) (c := c) (by rw [h4]; exact h)
  rw [h4] at this
  exact this
set_option maxRecDepth 10000 in
theorem me5_b2 (h : ¬ (me2 f len p c).1 = 0) : me5E f len p c = (me2 f len p c).1 ∧ me5P f len p c = (me2 f len p c).2.1 := by
  have h3 : me3E f len p c = (me2 f len p c).1 := by unfold me3E; exact (tk_e h).1
  have h4 : me3P f len p c = (me2 f len p c).2.1 := by unfold me3P; exact (tk_e h).2
  have := me5_b3 (f := f) (len := len) (p := p) (c := c) (by rw [h3]; exact h)
  rw [h3, h4] at this
  exact this
end
section
variable {g gm : Nat → Int32} {T A Am : Nat → Nat → Int32} {len : Nat} {w x : Int32} {r0 : Nat → Int32}
set_option maxRecDepth 10000 in
theorem xm_meH {c p : Nat} {r : Nat → Int32} (hr0 : r 568 = nI c) (c4 : c < 4) (hp : p < len) (h100 : len ≤ 100) {v : Option Value} {h' : am_H} (hr : rn none 3 am_t_X9_readsMember (52, [some (.ref 43), some (.int (nI c))], [], wd g T A (rd gm (p + 1) w x) (tu Am 0 (upd r (576 + c) (kd (Am 5 p))))) v h') : am_ev 4 159 [.ref 43] (wd g T A (rd gm p w x) (tu Am 0 r)) v h' := by
  refine rn_ev am_m_X9_readsMember rfl rfl ?_
  refine rn_go 80 (by with_unfolding_all rfl) ?_
  refine rn_ld (568) (by with_unfolding_all rfl) rfl (by decide) (by decide) ?_
  rw [tu_s, hr0]
  refine rn_go 80 (by with_unfolding_all rfl) ?_
  refine rn_br (by with_unfolding_all rfl) (fun c_ => absurd c_ ((by exact fun q => absurd ((nI_eq (b := 4) (by omega) (by omega)).mp q) (by omega)))) (fun _ => ?_)
  refine rn_go 80 (by with_unfolding_all rfl) ?_
  refine rn_ld (p) (by with_unfolding_all rfl) rd_6 (by omega) (by decide) ?_
  rw [tu_n (show 5 ≠ 0 by decide)]
  refine rn_go 80 (by with_unfolding_all rfl) ?_
  refine rn_cl (by with_unfolding_all rfl) (ev_up (by decide) (xm_kindOf _)) ?_
  refine rn_go 80 (by with_unfolding_all rfl) ?_
  refine rn_st (576 + c) (by with_unfolding_all rfl) (nI_add 576 _) (by omega) (by decide) ?_
  refine rn_hp (by with_unfolding_all exact (wM_0)) ?_
  rw [tu_tu, tu_s]
  refine rn_to 52 80 (by with_unfolding_all rfl) ?_
  refine rn_hp (by with_unfolding_all exact (wN_6)) ?_
  rw [rd_6, nI_1, rd_u6]
  with_unfolding_all exact hr
set_option maxRecDepth 10000 in
theorem xm_me2 {c p : Nat} {r : Nat → Int32} (c4 : c < 4) (hl : gm 2 = nI len) (h100 : len ≤ 100) (hp : p ≤ len) (hN : (nm (Am 5) len 0 20 0 p).1 = 0) {v : Option Value} {h' : am_H} (hr : rn none 3 am_t_X9_readsMember (78, [some (.ref 43), some (.int (nI c))], [], wd g T A (rd gm (nm (Am 5) len 0 20 0 p).2.1 w (nm (Am 5) len 0 20 0 p).2.2) (tu Am 0 (upd r (580 + c) (nm (Am 5) len 0 20 0 p).2.2))) v h') : rn none 3 am_t_X9_readsMember (52, [some (.ref 43), some (.int (nI c))], [], wd g T A (rd gm p w x) (tu Am 0 r)) v h' := by
  have t5 : tu Am 0 r 5 = Am 5 := tu_n (by decide)
  have hn := xm_number (g := g) (T := T) (A := A) (Am := tu Am 0 r) (w := w) (x := x) hl h100 hp 0 20
  rw [t5] at hn
  refine rn_go 80 (by with_unfolding_all rfl) ?_
  refine rn_cl (by with_unfolding_all rfl) (ev_up (by decide) (hn.1 hN)) ?_
  refine rn_go 80 (by with_unfolding_all rfl) ?_
  refine rn_br (by with_unfolding_all rfl) (fun c_ => absurd c_ ((by decide))) (fun _ => ?_)
  refine rn_go 80 (by with_unfolding_all rfl) ?_
  refine rn_st (580 + c) (by with_unfolding_all rfl) (nI_add 580 _) (by omega) (by decide) ?_
  refine rn_hp (by with_unfolding_all exact (wM_0)) ?_
  rw [tu_tu, tu_s, rd_8]
  with_unfolding_all exact hr
set_option maxRecDepth 10000 in
theorem xm_me4 {c p : Nat} {r : Nat → Int32} (hr0 : r 568 = nI c) (c4 : c < 4) (hl : gm 2 = nI len) (h100 : len ≤ 100) (hp : p < len) (hs : ltr (Am 5) len p = 44) (hN : (nm (Am 5) len 0 9 0 (p + 1)).1 = 0) {v : Option Value} {h' : am_H} (hr : rn none 3 am_t_X9_readsMember (125, [some (.ref 43), some (.int (nI c))], [], wd g T A (rd gm (nm (Am 5) len 0 9 0 (p + 1)).2.1 w (nm (Am 5) len 0 9 0 (p + 1)).2.2) (tu Am 0 (upd (upd r (584 + c) (nm (Am 5) len 0 9 0 (p + 1)).2.2) 568 (nI (c + 1))))) v h') : rn none 3 am_t_X9_readsMember (78, [some (.ref 43), some (.int (nI c))], [], wd g T A (rd gm p w x) (tu Am 0 r)) v h' := by
  have t5 : tu Am 0 r 5 = Am 5 := tu_n (by decide)
  have hn := xm_number (g := g) (T := T) (A := A) (Am := tu Am 0 r) (w := w) (x := x) hl h100 (show p + 1 ≤ len by omega) 0 9
  rw [t5] at hn
  refine rn_go 80 (by with_unfolding_all rfl) ?_
  refine rn_cl (by with_unfolding_all rfl) (ev_up (by decide) (xm_signY hl h100 (Nat.le_of_lt hp) (by decide) (by rw [t5]; exact hs))) ?_
  refine rn_go 80 (by with_unfolding_all rfl) ?_
  refine rn_br (by with_unfolding_all rfl) (fun c_ => absurd c_ ((by decide))) (fun _ => ?_)
  refine rn_go 80 (by with_unfolding_all rfl) ?_
  refine rn_cl (by with_unfolding_all rfl) (ev_up (by decide) (hn.1 hN)) ?_
  refine rn_go 80 (by with_unfolding_all rfl) ?_
  refine rn_br (by with_unfolding_all rfl) (fun c_ => absurd c_ ((by decide))) (fun _ => ?_)
  refine rn_go 80 (by with_unfolding_all rfl) ?_
  refine rn_st (584 + c) (by with_unfolding_all rfl) (nI_add 584 _) (by omega) (by decide) ?_
  refine rn_hp (by with_unfolding_all exact (wM_0)) ?_
  rw [tu_tu, tu_s, rd_8]
  refine rn_go 80 (by with_unfolding_all rfl) ?_
  refine rn_ld (568) (by with_unfolding_all rfl) rfl (by decide) (by decide) ?_
  rw [tu_s, up_ne (by omega), hr0]
  refine rn_go 80 (by with_unfolding_all rfl) ?_
  refine rn_st (568) (by with_unfolding_all rfl) rfl (by decide) (by decide) ?_
  refine rn_hp (by with_unfolding_all exact (wM_0)) ?_
  rw [tu_tu, tu_s, nI_1]
  with_unfolding_all exact hr
set_option maxRecDepth 10000 in
theorem xm_readsMember {S : Nat × Nat × Nat × (Nat → Int32)} {r : Nat → Int32} {mo : Nat} (hmo : mo ≤ 4) (hl : gm 2 = nI len) (h100 : len ≤ 100) (hlo : Lo r0 r) (hS : IM 1 len S) (h0 : S.1 = 0) (hk : ¬ kd (ltr (Am 5) len S.2.1) = 0) (he : Eqv S.2.2.1 mo S.2.2.2 (tv r 567)) : ∃ w' x' r', Lo r0 r' ∧ (¬ (meS (Am 5) len S).1 = 0 → w' = nI (meS (Am 5) len S).1) ∧ ((meS (Am 5) len S).1 = 0 → Eqv (meS (Am 5) len S).2.2.1 mo (meS (Am 5) len S).2.2.2 (tv r' 567)) ∧ am_ev 4 159 [.ref 43] (wd g T A (rd gm S.2.1 w x) (tu Am 0 r)) (some (.int (if (meS (Am 5) len S).1 = 0 then 1 else 0))) (wd g T A (rd gm (meS (Am 5) len S).2.1 w' x') (tu Am 0 r')) := by
  obtain ⟨i1, i2, i3, i4⟩ := hS
  have hr0 : r 568 = nI S.2.2.1 := by rw [← i4, he.1 1 (by decide)]; rfl
  have hp : S.2.1 < len := by
    rcases Nat.lt_or_ge S.2.1 len with q | q
    · exact q
    · exact absurd (kd_out _ q) hk
  by_cases c4 : S.2.2.1 = 4
  · rw [meS_4 hk c4]
    refine ⟨nI 3, x, r, hlo, fun _ => rfl, fun h => absurd h (Nat.succ_ne_zero _), ?_⟩
    rw [if_neg (Nat.succ_ne_zero _)]
    refine rn_ev am_m_X9_readsMember rfl rfl ?_
    refine rn_go 80 (by with_unfolding_all rfl) ?_
    refine rn_ld (568) (by with_unfolding_all rfl) rfl (by decide) (by decide) ?_
    rw [tu_s, hr0, c4]
    refine rn_go 80 (by with_unfolding_all rfl) ?_
    refine rn_br (by with_unfolding_all rfl) (fun _ => ?_) (fun c_ => absurd (rfl) c_)
    refine rn_go 80 (by with_unfolding_all rfl) ?_
    refine rn_cl (by with_unfolding_all rfl) (ev_up (by decide) (xm_refuse 3)) ?_
    rw [show (3 : Int32) = nI 3 from rfl, rd_u7]
    refine rn_go 80 (by with_unfolding_all rfl) ?_
    exact rn_rt (by with_unfolding_all rfl) (Or.inl rfl) (rfl) (rfl)
  have c4' : S.2.2.1 < 4 := by omega
  obtain ⟨m1, m2⟩ := me1_y (f := Am 5) (len := len) hk c4
  have g2 : me2 (Am 5) len S.2.1 S.2.2.1 = nm (Am 5) len 0 20 0 (S.2.1 + 1) := by unfold me2; rw [m1, m2]
  have l1 : Lo r0 (upd r (576 + S.2.2.1) (kd (Am 5 S.2.1))) := lo_up hlo (by omega)
  have k1 : kd (ltr (Am 5) len S.2.1) = kd (Am 5 S.2.1) := by rw [ltr_in hp]
  by_cases h2 : (me2 (Am 5) len S.2.1 S.2.2.1).1 = 0
  · have h2' := h2
    rw [g2] at h2'
    have p2 : (me2 (Am 5) len S.2.1 S.2.2.1).2.1 ≤ len := me2_p i2
    have l2 : Lo r0 (upd (upd r (576 + S.2.2.1) (kd (Am 5 S.2.1))) (580 + S.2.2.1) (nm (Am 5) len 0 20 0 (S.2.1 + 1)).2.2) := lo_up l1 (by omega)
    by_cases h3 : ltr (Am 5) len (me2 (Am 5) len S.2.1 S.2.2.1).2.1 = 44
    · have g3 : me3E (Am 5) len S.2.1 S.2.2.1 = 0 := by unfold me3E; rw [h2]; exact (tk_y h3).1
      have g3' : me3P (Am 5) len S.2.1 S.2.2.1 = (me2 (Am 5) len S.2.1 S.2.2.1).2.1 + 1 := by unfold me3P; rw [h2]; exact (tk_y h3).2
      have p2' : (me2 (Am 5) len S.2.1 S.2.2.1).2.1 < len := by
        rcases Nat.lt_or_ge (me2 (Am 5) len S.2.1 S.2.2.1).2.1 len with q | q
        · exact q
        · rw [ltr_out q] at h3
          exact absurd h3 (by decide)
      have g4 : me4 (Am 5) len S.2.1 S.2.2.1 = nm (Am 5) len 0 9 0 ((me2 (Am 5) len S.2.1 S.2.2.1).2.1 + 1) := by unfold me4; rw [g3, g3']
      by_cases h4 : (me4 (Am 5) len S.2.1 S.2.2.1).1 = 0
      · have p4 : (me4 (Am 5) len S.2.1 S.2.2.1).2.1 ≤ len := me4_p i2
        have h4' := h4
        rw [g4] at h4'
        have l4 : Lo r0 (upd (upd (upd (upd r (576 + S.2.2.1) (kd (Am 5 S.2.1))) (580 + S.2.2.1) (me2 (Am 5) len S.2.1 S.2.2.1).2.2) (584 + S.2.2.1) (me4 (Am 5) len S.2.1 S.2.2.1).2.2) 568 (nI (S.2.2.1 + 1))) := lo_up (lo_up (lo_up l1 (by omega)) (by omega)) (by omega)
        have hd : ∀ {v : Option Value} {h' : am_H}, rn none 3 am_t_X9_readsMember (125, [some (.ref 43), some (.int (nI S.2.2.1))], [], wd g T A (rd gm (me4 (Am 5) len S.2.1 S.2.2.1).2.1 w (me4 (Am 5) len S.2.1 S.2.2.1).2.2) (tu Am 0 (upd (upd (upd (upd r (576 + S.2.2.1) (kd (Am 5 S.2.1))) (580 + S.2.2.1) (me2 (Am 5) len S.2.1 S.2.2.1).2.2) (584 + S.2.2.1) (me4 (Am 5) len S.2.1 S.2.2.1).2.2) 568 (nI (S.2.2.1 + 1))))) v h' → am_ev 4 159 [.ref 43] (wd g T A (rd gm S.2.1 w x) (tu Am 0 r)) v h' := by
          intro v h' hr
          refine xm_meH hr0 c4' hp h100 (xm_me2 c4' hl h100 (by omega) h2' (xm_me4 (by rw [up_ne (by omega), up_ne (by omega)]; exact hr0) c4' hl h100 (by rw [← g2]; exact p2') (by rw [← g2]; exact h3) (by rw [← g2]; exact h4') ?_))
          rw [← g2, ← g4]
          exact hr
        by_cases h5 : ltr (Am 5) len (me4 (Am 5) len S.2.1 S.2.2.1).2.1 = 59
        · have g5 : me5E (Am 5) len S.2.1 S.2.2.1 = 0 := by unfold me5E; rw [h4]; exact (tk_y h5).1
          have g5' : me5P (Am 5) len S.2.1 S.2.2.1 = (me4 (Am 5) len S.2.1 S.2.2.1).2.1 + 1 := by unfold me5P; rw [h4]; exact (tk_y h5).2
          unfold meS
          rw [g5, g5', if_pos rfl]
          refine ⟨w, (me4 (Am 5) len S.2.1 S.2.2.1).2.2, _, l4, fun h => absurd rfl h, fun _ => ?_, hd ?_⟩
          · show Eqv (S.2.2.1 + 1) mo (addB S.2.2.2 S.2.2.1 (kd (ltr (Am 5) len S.2.1)) (me2 (Am 5) len S.2.1 S.2.2.1).2.2 (me4 (Am 5) len S.2.1 S.2.2.1).2.2) _
            rw [k1, show 576 + S.2.2.1 = 567 + (9 + S.2.2.1) by omega, show 580 + S.2.2.1 = 567 + (13 + S.2.2.1) by omega, show 584 + S.2.2.1 = 567 + (17 + S.2.2.1) by omega, show 568 = 567 + 1 from rfl, tv_up, tv_up, tv_up, tv_up]
            exact eqv_addB c4' hmo he
          · refine rn_go 80 (by with_unfolding_all rfl) ?_
            refine rn_cl (by with_unfolding_all rfl) (ev_up (by decide) (xm_signY hl h100 p4 (by decide) (by rw [tu_n (by decide)]; exact h5))) ?_
            refine rn_go 80 (by with_unfolding_all rfl) ?_
            exact rn_rt (by with_unfolding_all rfl) (Or.inr rfl) (rfl) (rfl)
        · have g5 : me5E (Am 5) len S.2.1 S.2.2.1 = 1 := by unfold me5E; rw [h4]; exact (tk_n h5).1
          have g5' : me5P (Am 5) len S.2.1 S.2.2.1 = (me4 (Am 5) len S.2.1 S.2.2.1).2.1 := by unfold me5P; rw [h4]; exact (tk_n h5).2
          rw [meS_bad g5 g5' (by decide)]
          refine ⟨nI 1, (me4 (Am 5) len S.2.1 S.2.2.1).2.2, _, l4, fun _ => rfl, fun h => absurd h (Nat.succ_ne_zero _), hd ?_⟩
          refine rn_go 80 (by with_unfolding_all rfl) ?_
          refine rn_cl (by with_unfolding_all rfl) (ev_up (by decide) (xm_signN hl h100 p4 (by decide) (by rw [tu_n (by decide)]; exact h5))) ?_
          refine rn_go 80 (by with_unfolding_all rfl) ?_
          exact rn_rt (by with_unfolding_all rfl) (Or.inl rfl) (rfl) (rfl)
      · obtain ⟨g5, g5'⟩ := me5_b4 h4
        rw [meS_bad g5 g5' h4]
        have hn := xm_number (g := g) (T := T) (A := A) (Am := tu Am 0 (upd (upd r (576 + S.2.2.1) (kd (Am 5 S.2.1))) (580 + S.2.2.1) (nm (Am 5) len 0 20 0 (S.2.1 + 1)).2.2)) (w := w) (x := (nm (Am 5) len 0 20 0 (S.2.1 + 1)).2.2) hl h100 (show (me2 (Am 5) len S.2.1 S.2.2.1).2.1 + 1 ≤ len by omega) 0 9
        rw [tu_n (show 5 ≠ 0 by decide), ← g4] at hn
        obtain ⟨x', hx⟩ := hn.2 h4
        refine ⟨nI (me4 (Am 5) len S.2.1 S.2.2.1).1, x', _, l2, fun _ => rfl, fun h => absurd h h4, ?_⟩
        rw [if_neg h4]
        refine xm_meH hr0 c4' hp h100 (xm_me2 c4' hl h100 (by omega) h2' ?_)
        rw [g2] at hx p2' h3
        refine rn_go 80 (by with_unfolding_all rfl) ?_
        refine rn_cl (by with_unfolding_all rfl) (ev_up (by decide) (xm_signY hl h100 (Nat.le_of_lt p2') (by decide) (by rw [tu_n (by decide)]; exact h3))) ?_
        refine rn_go 80 (by with_unfolding_all rfl) ?_
        refine rn_br (by with_unfolding_all rfl) (fun c_ => absurd c_ ((by decide))) (fun _ => ?_)
        refine rn_go 80 (by with_unfolding_all rfl) ?_
        refine rn_cl (by with_unfolding_all rfl) (ev_up (by decide) (hx)) ?_
        refine rn_go 80 (by with_unfolding_all rfl) ?_
        refine rn_br (by with_unfolding_all rfl) (fun _ => ?_) (fun c_ => absurd (rfl) c_)
        refine rn_go 80 (by with_unfolding_all rfl) ?_
        exact rn_rt (by with_unfolding_all rfl) (Or.inl rfl) (rfl) (rfl)
    · have g3 : me3E (Am 5) len S.2.1 S.2.2.1 = 1 := by unfold me3E; rw [h2]; exact (tk_n h3).1
      have g3' : me3P (Am 5) len S.2.1 S.2.2.1 = (me2 (Am 5) len S.2.1 S.2.2.1).2.1 := by unfold me3P; rw [h2]; exact (tk_n h3).2
      obtain ⟨g5, g5'⟩ := me5_b3 (f := Am 5) (len := len) (p := S.2.1) (c := S.2.2.1) (by rw [g3]; decide)
      rw [g3] at g5
      rw [g3'] at g5'
      rw [meS_bad g5 g5' (by decide)]
      refine ⟨nI 1, (nm (Am 5) len 0 20 0 (S.2.1 + 1)).2.2, _, l2, fun _ => rfl, fun h => absurd h (Nat.succ_ne_zero _), ?_⟩
      refine xm_meH hr0 c4' hp h100 (xm_me2 c4' hl h100 (by omega) h2' ?_)
      rw [g2] at p2 h3 ⊢
      refine rn_go 80 (by with_unfolding_all rfl) ?_
      refine rn_cl (by with_unfolding_all rfl) (ev_up (by decide) (xm_signN hl h100 p2 (by decide) (by rw [tu_n (by decide)]; exact h3))) ?_
      refine rn_go 80 (by with_unfolding_all rfl) ?_
      refine rn_br (by with_unfolding_all rfl) (fun _ => ?_) (fun c_ => absurd (rfl) c_)
      refine rn_go 80 (by with_unfolding_all rfl) ?_
      exact rn_rt (by with_unfolding_all rfl) (Or.inl rfl) (rfl) (rfl)
  · obtain ⟨g5, g5'⟩ := me5_b2 h2
    rw [meS_bad g5 g5' h2]
    have hn := xm_number (g := g) (T := T) (A := A) (Am := tu Am 0 (upd r (576 + S.2.2.1) (kd (Am 5 S.2.1)))) (w := w) (x := x) hl h100 (show S.2.1 + 1 ≤ len by omega) 0 20
    rw [tu_n (show 5 ≠ 0 by decide), ← g2] at hn
    obtain ⟨x', hx⟩ := hn.2 h2
    refine ⟨nI (me2 (Am 5) len S.2.1 S.2.2.1).1, x', _, l1, fun _ => rfl, fun h => absurd h h2, ?_⟩
    rw [if_neg h2]
    refine xm_meH hr0 c4' hp h100 ?_
    refine rn_go 80 (by with_unfolding_all rfl) ?_
    refine rn_cl (by with_unfolding_all rfl) (ev_up (by decide) (hx)) ?_
    refine rn_go 80 (by with_unfolding_all rfl) ?_
    refine rn_br (by with_unfolding_all rfl) (fun _ => ?_) (fun c_ => absurd (rfl) c_)
    refine rn_go 80 (by with_unfolding_all rfl) ?_
    exact rn_rt (by with_unfolding_all rfl) (Or.inl rfl) (rfl) (rfl)
/-! the loops, up to what stands behind them -/
def Ok3 (e : Nat) (w : Int32) : Prop := ¬ e = 0 → w = nI e
set_option maxRecDepth 10000 in
theorem xm_moLoop (hl : gm 2 = nI len) (h100 : len ≤ 100) : ∀ (q : Nat) (S : Nat × Nat × Nat × (Nat → Int32)), IM 0 len S → (S.1 = 0 → 5 ≤ S.2.2.1 + q) → ∀ (w x : Int32) (r : Nat → Int32), Lo r0 r → Ok3 S.1 w → (S.1 = 0 → Eqv 0 S.2.2.1 S.2.2.2 (tv r 567)) → ∃ w' x' r', Lo r0 r' ∧ Ok3 (moL (Am 5) len q S).1 w' ∧ ((moL (Am 5) len q S).1 = 0 → Eqv 0 (moL (Am 5) len q S).2.2.1 (moL (Am 5) len q S).2.2.2 (tv r' 567)) ∧ ∀ v h', rn none 4 am_t_X9_reads (77, [some (.ref 43), some (.int (if (moL (Am 5) len q S).1 = 0 then 1 else 0))], [], wd g T A (rd gm (moL (Am 5) len q S).2.1 w' x') (tu Am 0 r')) v h' → rn none 4 am_t_X9_reads (56, [some (.ref 43), some (.int (if S.1 = 0 then 1 else 0))], [], wd g T A (rd gm S.2.1 w x) (tu Am 0 r)) v h' := by
  intro q
  induction q with
  | zero =>
    intro S hS h5 w x r hlo hw he
    have h0 : ¬ S.1 = 0 := fun h => by have := h5 h; have := hS.2.2.1; omega
    refine ⟨w, x, r, hlo, hw, he, fun v h' hr => ?_⟩
    rw [show moL (Am 5) len 0 S = S from rfl, if_neg h0] at hr
    rw [if_neg h0]
    refine rn_go 80 (by with_unfolding_all rfl) ?_
    refine rn_br (by with_unfolding_all rfl) (fun _ => ?_) (fun c_ => absurd (rfl) c_)
    with_unfolding_all exact hr
  | succ q ih =>
    intro S hS h5 w x r hlo hw he
    by_cases h0 : S.1 = 0
    · by_cases hm : ltr (Am 5) len S.2.1 = 109
      · obtain ⟨w1, x1, r1, a1, a2, a3, a4⟩ := xm_readsMotion (g := g) (T := T) (A := A) (w := w) (x := x) hl h100 hlo hS h0 hm (he h0)
        have h5' : (moS (Am 5) len S).1 = 0 → 5 ≤ (moS (Am 5) len S).2.2.1 + q := by
          intro hz
          have := h5 h0
          have e : (moS (Am 5) len S).2.2.1 = S.2.2.1 + 1 := by
            unfold moS at hz ⊢
            by_cases c : mo4E (Am 5) len S.1 S.2.1 S.2.2.1 = 0
            · rw [if_pos c]
            · rw [if_neg c] at hz
              exact absurd hz c
          omega
        obtain ⟨w', x', r', b1, b2, b3, b4⟩ := ih (moS (Am 5) len S) (moS_I hS) h5' w1 x1 r1 a1 a2 a3
        have eL : moL (Am 5) len (q + 1) S = moL (Am 5) len q (moS (Am 5) len S) := by show (if _ then _ else _) = _; rw [if_pos ⟨h0, hm⟩]
        rw [eL]
        refine ⟨w', x', r', b1, b2, b3, fun v h' hr => ?_⟩
        have b5 := b4 v h' hr
        rw [if_pos h0]
        refine rn_go 80 (by with_unfolding_all rfl) ?_
        refine rn_br (by with_unfolding_all rfl) (fun c_ => absurd c_ ((by decide))) (fun _ => ?_)
        refine rn_go 80 (by with_unfolding_all rfl) ?_
        refine rn_cl (by with_unfolding_all rfl) (ev_up (by decide) (xm_isLetter hl h100 hS.2.1 109 (by decide))) ?_
        rw [if_pos (by rw [tu_n (by decide)]; exact hm)]
        refine rn_go 80 (by with_unfolding_all rfl) ?_
        refine rn_br (by with_unfolding_all rfl) (fun c_ => absurd c_ ((by decide))) (fun _ => ?_)
        refine rn_go 80 (by with_unfolding_all rfl) ?_
        refine rn_cl (by with_unfolding_all rfl) (ev_up (by decide) (a4)) ?_
        refine rn_to 56 80 (by with_unfolding_all rfl) ?_
        with_unfolding_all exact b5
      · have eL : moL (Am 5) len (q + 1) S = S := by show (if _ then _ else _) = _; rw [if_neg (fun c => hm c.2)]
        rw [eL]
        refine ⟨w, x, r, hlo, hw, he, fun v h' hr => ?_⟩
        rw [if_pos h0] at hr ⊢
        refine rn_go 80 (by with_unfolding_all rfl) ?_
        refine rn_br (by with_unfolding_all rfl) (fun c_ => absurd c_ ((by decide))) (fun _ => ?_)
        refine rn_go 80 (by with_unfolding_all rfl) ?_
        refine rn_cl (by with_unfolding_all rfl) (ev_up (by decide) (xm_isLetter hl h100 hS.2.1 109 (by decide))) ?_
        rw [if_neg (by rw [tu_n (by decide)]; exact hm)]
        refine rn_go 80 (by with_unfolding_all rfl) ?_
        refine rn_br (by with_unfolding_all rfl) (fun _ => ?_) (fun c_ => absurd (rfl) c_)
        with_unfolding_all exact hr
    · rw [moL_e h0]
      refine ⟨w, x, r, hlo, hw, he, fun v h' hr => ?_⟩
      rw [if_neg h0] at hr ⊢
      refine rn_go 80 (by with_unfolding_all rfl) ?_
      refine rn_br (by with_unfolding_all rfl) (fun _ => ?_) (fun c_ => absurd (rfl) c_)
      with_unfolding_all exact hr
/-! what the loop of members ends with: a fault, or the tape's end -/
set_option maxRecDepth 10000 in
theorem xm_meLoop {mo : Nat} (hmo : mo ≤ 4) (hl : gm 2 = nI len) (h100 : len ≤ 100) : ∀ (q : Nat) (S : Nat × Nat × Nat × (Nat → Int32)), IM 1 len S → (S.1 = 0 → 5 ≤ S.2.2.1 + q) → ∀ (w x : Int32) (r : Nat → Int32), Lo r0 r → Ok3 S.1 w → (S.1 = 0 → Eqv S.2.2.1 mo S.2.2.2 (tv r 567)) → ∃ w' x' r', Lo r0 r' ∧ Ok3 (meL (Am 5) len q S).1 w' ∧ ((meL (Am 5) len q S).1 = 0 → Eqv (meL (Am 5) len q S).2.2.1 mo (meL (Am 5) len q S).2.2.2 (tv r' 567)) ∧ rn none 4 am_t_X9_reads (77, [some (.ref 43), some (.int (if S.1 = 0 then 1 else 0))], [], wd g T A (rd gm S.2.1 w x) (tu Am 0 r)) (some (.int (if (meL (Am 5) len q S).1 = 0 then 1 else 0))) (wd g T A (rd gm (meL (Am 5) len q S).2.1 w' x') (tu Am 0 r')) := by
  intro q
  have hl' : ∀ p w x, rd gm p w x 2 = nI len := fun p w x => by rw [rd_ne (by decide) (by decide) (by decide)]; exact hl
  have hbad : ∀ (S : Nat × Nat × Nat × (Nat → Int32)) (w x : Int32) (r : Nat → Int32), ¬ S.1 = 0 → rn none 4 am_t_X9_reads (77, [some (.ref 43), some (.int (if S.1 = 0 then 1 else 0))], [], wd g T A (rd gm S.2.1 w x) (tu Am 0 r)) (some (.int (if S.1 = 0 then 1 else 0))) (wd g T A (rd gm S.2.1 w x) (tu Am 0 r)) := by
    intro S w x r h0
    rw [if_neg h0]
    refine rn_go 80 (by with_unfolding_all rfl) ?_
    refine rn_br (by with_unfolding_all rfl) (fun _ => ?_) (fun c_ => absurd (rfl) c_)
    refine rn_go 80 (by with_unfolding_all rfl) ?_
    refine rn_br (by with_unfolding_all rfl) (fun _ => ?_) (fun c_ => absurd (rfl) c_)
    refine rn_go 80 (by with_unfolding_all rfl) ?_
    exact rn_rt (by with_unfolding_all rfl) (Or.inl rfl) (rfl) (rfl)
  induction q with
  | zero =>
    intro S hS h5 w x r hlo hw he
    have h0 : ¬ S.1 = 0 := fun h => by have := h5 h; have := hS.2.2.1; omega
    exact ⟨w, x, r, hlo, hw, he, hbad S w x r h0⟩
  | succ q ih =>
    intro S hS h5 w x r hlo hw he
    by_cases h0 : S.1 = 0
    · by_cases hp : S.2.1 < len
      · have eL : meL (Am 5) len (q + 1) S = meL (Am 5) len q (meS (Am 5) len S) := by show (if _ then _ else _) = _; rw [if_pos ⟨h0, hp⟩]
        by_cases hk : kd (ltr (Am 5) len S.2.1) = 0
        · rw [eL, meS_0 hk, meL_e (Nat.succ_ne_zero _)]
          refine ⟨nI 1, x, r, hlo, fun _ => rfl, fun h => absurd h (Nat.succ_ne_zero _), ?_⟩
          rw [if_pos h0, if_neg (Nat.succ_ne_zero _)]
          refine rn_go 80 (by with_unfolding_all rfl) ?_
          refine rn_br (by with_unfolding_all rfl) (fun c_ => absurd c_ ((by decide))) (fun _ => ?_)
          refine rn_go 80 (by with_unfolding_all rfl) ?_
          refine rn_cl (by with_unfolding_all rfl) (ev_up (by decide) (xm_isSort hl h100 hS.2.1)) ?_
          rw [if_pos (by rw [tu_n (by decide)]; exact hk)]
          refine rn_go 80 (by with_unfolding_all rfl) ?_
          refine rn_br (by with_unfolding_all rfl) (fun _ => ?_) (fun c_ => absurd (rfl) c_)
          refine rn_go 80 (by with_unfolding_all rfl) ?_
          refine rn_br (by with_unfolding_all rfl) (fun c_ => absurd c_ ((by decide))) (fun _ => ?_)
          refine rn_go 80 (by with_unfolding_all rfl) ?_
          refine rn_br (by with_unfolding_all rfl) (fun c_ => absurd c_ ((by rw [rd_6, hl']; exact fun c => absurd ((nI_eq (by omega) (by omega)).mp c) (by omega)))) (fun _ => ?_)
          refine rn_go 80 (by with_unfolding_all rfl) ?_
          refine rn_cl (by with_unfolding_all rfl) (ev_up (by decide) (xm_refuse 1)) ?_
          rw [show (1 : Int32) = nI 1 from rfl, rd_u7]
          refine rn_go 80 (by with_unfolding_all rfl) ?_
          refine rn_br (by with_unfolding_all rfl) (fun _ => ?_) (fun c_ => absurd (rfl) c_)
          refine rn_go 80 (by with_unfolding_all rfl) ?_
          exact rn_rt (by with_unfolding_all rfl) (Or.inl rfl) (rfl) (rfl)
        · obtain ⟨w1, x1, r1, a1, a2, a3, a4⟩ := xm_readsMember (g := g) (T := T) (A := A) (w := w) (x := x) hmo hl h100 hlo hS h0 hk (he h0)
          have h5' : (meS (Am 5) len S).1 = 0 → 5 ≤ (meS (Am 5) len S).2.2.1 + q := by
            intro hz
            have := h5 h0
            have e : (meS (Am 5) len S).2.2.1 = S.2.2.1 + 1 := by
              unfold meS at hz ⊢
              by_cases c : me5E (Am 5) len S.2.1 S.2.2.1 = 0
              · rw [if_pos c]
              · rw [if_neg c] at hz
                exact absurd hz c
            omega
          obtain ⟨w', x', r', b1, b2, b3, b4⟩ := ih (meS (Am 5) len S) (meS_I hS) h5' w1 x1 r1 a1 a2 a3
          rw [eL]
          refine ⟨w', x', r', b1, b2, b3, ?_⟩
          rw [if_pos h0]
          refine rn_go 80 (by with_unfolding_all rfl) ?_
          refine rn_br (by with_unfolding_all rfl) (fun c_ => absurd c_ ((by decide))) (fun _ => ?_)
          refine rn_go 80 (by with_unfolding_all rfl) ?_
          refine rn_cl (by with_unfolding_all rfl) (ev_up (by decide) (xm_isSort hl h100 hS.2.1)) ?_
          rw [if_neg (by rw [tu_n (by decide)]; exact hk)]
          refine rn_go 80 (by with_unfolding_all rfl) ?_
          refine rn_br (by with_unfolding_all rfl) (fun c_ => absurd c_ ((by decide))) (fun _ => ?_)
          refine rn_go 80 (by with_unfolding_all rfl) ?_
          refine rn_cl (by with_unfolding_all rfl) (ev_up (by decide) (a4)) ?_
          refine rn_to 77 80 (by with_unfolding_all rfl) ?_
          with_unfolding_all exact b4
      · have eL : meL (Am 5) len (q + 1) S = S := by show (if _ then _ else _) = _; rw [if_neg (fun c => hp c.2)]
        have hpe : S.2.1 = len := by have := hS.2.1; omega
        rw [eL]
        refine ⟨w, x, r, hlo, hw, he, ?_⟩
        rw [if_pos h0]
        refine rn_go 80 (by with_unfolding_all rfl) ?_
        refine rn_br (by with_unfolding_all rfl) (fun c_ => absurd c_ ((by decide))) (fun _ => ?_)
        refine rn_go 80 (by with_unfolding_all rfl) ?_
        refine rn_cl (by with_unfolding_all rfl) (ev_up (by decide) (xm_isSort hl h100 hS.2.1)) ?_
        rw [if_pos (kd_out _ (by omega))]
        refine rn_go 80 (by with_unfolding_all rfl) ?_
        refine rn_br (by with_unfolding_all rfl) (fun _ => ?_) (fun c_ => absurd (rfl) c_)
        refine rn_go 80 (by with_unfolding_all rfl) ?_
        refine rn_br (by with_unfolding_all rfl) (fun c_ => absurd c_ ((by decide))) (fun _ => ?_)
        refine rn_go 80 (by with_unfolding_all rfl) ?_
        refine rn_br (by with_unfolding_all rfl) (fun _ => ?_) (fun c_ => absurd ((by rw [rd_6, hl', hpe])) c_)
        refine rn_go 80 (by with_unfolding_all rfl) ?_
        exact rn_rt (by with_unfolding_all rfl) (Or.inr rfl) (rfl) (rfl)
    · rw [meL_e h0]
      exact ⟨w, x, r, hlo, hw, he, hbad S w x r h0⟩
end

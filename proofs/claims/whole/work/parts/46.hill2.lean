/-! the tape is read, a hill stands: the class's -/
section
variable {f : Nat → Int32} {len : Nat}
set_option maxRecDepth 10000 in
theorem hM_eq {x : Nat → Int32} : hM f len x = moL f len 4 (moS f len (laS f len x)) := by
  unfold hM
  rfl
set_option maxRecDepth 10000 in
theorem hB_eq {x : Nat → Int32} : hB f len x = meL f len 5 ((hM f len x).1, (hM f len x).2.1, 0, (hM f len x).2.2.2) := by
  unfold hB
  rfl
set_option maxRecDepth 10000 in
theorem hB_I {x : Nat → Int32} : IM 1 len (hB f len x) := by
  rw [hB_eq]
  exact meL_I 5 _ hM_B
end
section
variable {g gm : Nat → Int32} {T A Am : Nat → Nat → Int32} {len : Nat}
set_option maxRecDepth 10000 in
theorem x7_readMembers {S : Nat × Nat × Nat × (Nat → Int32)} (hl : g 2 = nI len) (h100 : len ≤ 100) (hS : IM 1 len S) : am_ev 5 84 [.ref 15, .ref 17] (wd (st g S.1 S.2.1) (tu T 2 S.2.2.2) A gm Am) none (wd (st g (meL (A 3) len 5 S).1 (meL (A 3) len 5 S).2.1) (tu T 2 (meL (A 3) len 5 S).2.2.2) A gm Am) := by
  refine rn_ev am_m_X7_readMembers rfl rfl ?_
  refine rn_to 2 80 (by with_unfolding_all rfl) ?_
  with_unfolding_all exact x7_memL hl h100 5 0 _ (by omega) hS
set_option maxRecDepth 10000 in
theorem x7_rm2 {M : Nat × Nat × Nat × (Nat → Int32)} (hl : g 2 = nI len) (h100 : len ≤ 100) (hS : IM 1 len (M.1, M.2.1, 0, M.2.2.2)) : am_ev 5 84 [.ref 15, .ref 17] (wd (st g M.1 M.2.1) (tu T 2 M.2.2.2) A gm Am) none (wd (st g (meL (A 3) len 5 (M.1, M.2.1, 0, M.2.2.2)).1 (meL (A 3) len 5 (M.1, M.2.1, 0, M.2.2.2)).2.1) (tu T 2 (meL (A 3) len 5 (M.1, M.2.1, 0, M.2.2.2)).2.2.2) A gm Am) := x7_readMembers (S := (M.1, M.2.1, 0, M.2.2.2)) hl h100 hS
set_option maxRecDepth 10000 in
theorem x7_empty : am_ev 1 79 [.ref 15] (wd g T A gm Am) none (wd (upd g 2 0) T A gm Am) := by
  refine rn_ev am_m_X7_empty rfl rfl ?_
  refine rn_to 5 80 (by with_unfolding_all rfl) ?_
  refine rn_hp (by with_unfolding_all exact (wG_2)) ?_
  refine rn_go 80 (by with_unfolding_all rfl) ?_
  exact rn_rt (by with_unfolding_all rfl) trivial rfl rfl
set_option maxRecDepth 10000 in
theorem x7_readInto (hl : g 2 = nI len) (h100 : len ≤ 100) : am_ev 6 80 [.ref 15, .ref 17] (wd g T A gm Am) none (wd (upd (st (upd g 13 0) (hB (A 3) len (T 2)).1 (hB (A 3) len (T 2)).2.1) 13 (if (hB (A 3) len (T 2)).1 = 0 then 1 else 0)) (tu T 2 (hB (A 3) len (T 2)).2.2.2) A gm Am) := by
  have hl' : upd g 13 0 2 = nI len := by rw [up_ne (by decide)]; exact hl
  have hI : (hB (A 3) len (T 2)).1 ≤ 3 := by
    have h := hB_I (f := A 3) (len := len) (x := T 2)
    unfold IM at h
    exact h.1
  have s1 : am_ev 4 81 [.ref 15, .ref 17] (wd (st (upd g 13 0) 0 0) (tu T 2 (clr (T 2))) A gm Am) none (wd (st (upd g 13 0) (laS (A 3) len (T 2)).1 (laS (A 3) len (T 2)).2.1) (tu T 2 (laS (A 3) len (T 2)).2.2.2) A gm Am) := x7_readLaw hl' h100 (T 2)
  have s2 : am_ev 5 82 [.ref 15, .ref 17] (wd (st (upd g 13 0) (laS (A 3) len (T 2)).1 (laS (A 3) len (T 2)).2.1) (tu T 2 (laS (A 3) len (T 2)).2.2.2) A gm Am) none (wd (st (upd g 13 0) (hM (A 3) len (T 2)).1 (hM (A 3) len (T 2)).2.1) (tu T 2 (hM (A 3) len (T 2)).2.2.2) A gm Am) := by
    rw [hM_eq]
    exact x7_readMotions hl' h100 (laS_I (f := A 3) (x := T 2))
  have s3 : am_ev 5 84 [.ref 15, .ref 17] (wd (st (upd g 13 0) (hM (A 3) len (T 2)).1 (hM (A 3) len (T 2)).2.1) (tu T 2 (hM (A 3) len (T 2)).2.2.2) A gm Am) none (wd (st (upd g 13 0) (hB (A 3) len (T 2)).1 (hB (A 3) len (T 2)).2.1) (tu T 2 (hB (A 3) len (T 2)).2.2.2) A gm Am) := by
    rw [hB_eq]
    exact x7_rm2 (M := hM (A 3) len (T 2)) hl' h100 (hM_B (f := A 3) (x := T 2))
  generalize hB (A 3) len (T 2) = S3 at s3 hI ⊢
  generalize hM (A 3) len (T 2) = S2 at s2 s3
  generalize laS (A 3) len (T 2) = S1 at s1 s2
  refine rn_ev am_m_X7_readInto rfl rfl ?_
  refine rn_to 5 80 (by with_unfolding_all rfl) ?_
  refine rn_hp (by with_unfolding_all exact (wG_3)) ?_
  refine rn_to 10 80 (by with_unfolding_all rfl) ?_
  refine rn_hp (by with_unfolding_all exact (wG_4)) ?_
  rw [show upd (upd g 3 0) 4 0 = st g 0 0 from rfl]
  refine rn_go 80 (by with_unfolding_all rfl) ?_
  refine rn_cl (by with_unfolding_all rfl) (ev_up (by decide) (x3_clear2)) ?_
  rw [show upd (st g 0 0) 13 0 = st (upd g 13 0) 0 0 by unfold st; rw [up_comm (show 4 ≠ 13 by decide), up_comm (show 3 ≠ 13 by decide)]]
  refine rn_go 80 (by with_unfolding_all rfl) ?_
  refine rn_cl (by with_unfolding_all rfl) (ev_up (by decide) (s1)) ?_
  refine rn_go 80 (by with_unfolding_all rfl) ?_
  refine rn_cl (by with_unfolding_all rfl) (ev_up (by decide) (s2)) ?_
  refine rn_go 80 (by with_unfolding_all rfl) ?_
  refine rn_cl (by with_unfolding_all rfl) (ev_up (by decide) (s3)) ?_
  refine rn_go 80 (by with_unfolding_all rfl) ?_
  by_cases c : S3.1 = 0
  · rw [if_pos c]
    refine rn_br (by with_unfolding_all rfl) (fun _ => ?_) (fun c_ => absurd ((by rw [st_r4]; exact congrArg nI c)) c_)
    refine rn_go 80 (by with_unfolding_all rfl) ?_
    refine rn_ck (by with_unfolding_all rfl) (Or.inr rfl) ?_
    refine rn_hp (by with_unfolding_all exact ((rfl : _ = wd (upd (st (upd g 13 0) S3.1 S3.2.1) 13 1) (tu T 2 S3.2.2.2) A gm Am))) ?_
    refine rn_go 80 (by with_unfolding_all rfl) ?_
    exact rn_rt (by with_unfolding_all rfl) trivial rfl rfl
  · rw [if_neg c]
    refine rn_br (by with_unfolding_all rfl) (fun c_ => absurd c_ ((by rw [st_r4]; exact nI_ne0 (Nat.pos_of_ne_zero c) (Nat.lt_of_le_of_lt hI (by decide))))) (fun _ => ?_)
    refine rn_go 80 (by with_unfolding_all rfl) ?_
    refine rn_ck (by with_unfolding_all rfl) (Or.inl rfl) ?_
    refine rn_hp (by with_unfolding_all exact ((rfl : _ = wd (upd (st (upd g 13 0) S3.1 S3.2.1) 13 0) (tu T 2 S3.2.2.2) A gm Am))) ?_
    refine rn_go 80 (by with_unfolding_all rfl) ?_
    exact rn_rt (by with_unfolding_all rfl) trivial rfl rfl
set_option maxRecDepth 10000 in
theorem x8_hillF (hl : g 2 = nI len) (h100 : len ≤ 100) (he : ¬ (hB (A 3) len (T 2)).1 = 0) : am_ev 12 98 [.ref 0] (wd g T A gm Am) (some (.int (-1000100 - nI (hB (A 3) len (T 2)).2.1))) (wd (upd (upd (upd (st (upd g 13 0) (hB (A 3) len (T 2)).1 (hB (A 3) len (T 2)).2.1) 13 0) 2 0) 0 (nI (hB (A 3) len (T 2)).1)) (tu T 2 (hB (A 3) len (T 2)).2.2.2) A gm Am) := by
  have hI : (hB (A 3) len (T 2)).1 ≤ 3 := by
    have h := hB_I (f := A 3) (len := len) (x := T 2)
    unfold IM at h
    exact h.1
  have key := x7_readInto (T := T) (A := A) (gm := gm) (Am := Am) hl h100
  rw [if_neg he] at key
  generalize hB (A 3) len (T 2) = S at key he hI ⊢
  refine rn_ev am_m_X8_hill rfl rfl ?_
  refine rn_go 80 (by with_unfolding_all rfl) ?_
  refine rn_cl (by with_unfolding_all rfl) (ev_up (by decide) (key)) ?_
  refine rn_go 80 (by with_unfolding_all rfl) ?_
  refine rn_cl (by with_unfolding_all rfl) (ev_up (by decide) (x7_empty)) ?_
  refine rn_go 80 (by with_unfolding_all rfl) ?_
  refine rn_br (by with_unfolding_all rfl) (fun c_ => absurd c_ ((by rw [up_ne (by decide), up_ne (by decide), st_r4]; exact nI_ne0 (by omega) (by omega)))) (fun _ => ?_)
  refine rn_to 39 80 (by with_unfolding_all rfl) ?_
  refine rn_hp (by with_unfolding_all exact (wG_0)) ?_
  rw [show upd (upd (st (upd g 13 0) S.1 S.2.1) 13 0) 2 0 4 = nI S.1 by rw [up_ne (by decide), up_ne (by decide), st_r4]]
  refine rn_go 80 (by with_unfolding_all rfl) ?_
  exact rn_rt (by with_unfolding_all rfl) (trivial) (by rw [up_ne (by decide), up_ne (by decide), up_ne (by decide), st_r3]) (rfl)
set_option maxRecDepth 10000 in
theorem x8_hillS (hl : g 2 = nI len) (h100 : len ≤ 100) (he : (hB (A 3) len (T 2)).1 = 0) : am_ev 12 98 [.ref 0] (wd g T A gm Am) (some (.int ((hB (A 3) len (T 2)).2.2.2 1))) (wd (upd (upd (upd (upd (upd (st (upd g 13 0) (hB (A 3) len (T 2)).1 (hB (A 3) len (T 2)).2.1) 13 1) 2 0) 11 1) 5 0) 6 0) (tu (tu T 2 (hB (A 3) len (T 2)).2.2.2) 0 (hB (A 3) len (T 2)).2.2.2) A gm Am) := by
  have key := x7_readInto (T := T) (A := A) (gm := gm) (Am := Am) hl h100
  rw [if_pos he] at key
  generalize hB (A 3) len (T 2) = S at key he ⊢
  have h13 : upd (upd (st (upd g 13 0) S.1 S.2.1) 13 1) 2 0 13 = 1 := by rw [up_ne (by decide), up_eq]
  refine rn_ev am_m_X8_hill rfl rfl ?_
  refine rn_go 80 (by with_unfolding_all rfl) ?_
  refine rn_cl (by with_unfolding_all rfl) (ev_up (by decide) (key)) ?_
  refine rn_go 80 (by with_unfolding_all rfl) ?_
  refine rn_cl (by with_unfolding_all rfl) (ev_up (by decide) (x7_empty)) ?_
  refine rn_go 80 (by with_unfolding_all rfl) ?_
  refine rn_br (by with_unfolding_all rfl) (fun _ => ?_) (fun c_ => absurd ((by rw [up_ne (by decide), up_ne (by decide), st_r4, he]; rfl)) c_)
  refine rn_go 80 (by with_unfolding_all rfl) ?_
  refine rn_cl (by with_unfolding_all rfl) (ev_up (by decide) (xh_become_0_2 (Or.inr h13))) ?_
  rw [h13, tu_s]
  refine rn_go 80 (by with_unfolding_all rfl) ?_
  refine rn_cl (by with_unfolding_all rfl) (ev_up (by decide) (x0_forget)) ?_
  refine rn_go 80 (by with_unfolding_all rfl) ?_
  exact rn_rt (by with_unfolding_all rfl) trivial rfl rfl
end

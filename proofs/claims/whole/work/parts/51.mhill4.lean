/-! the reference's reading whole; what is read is a hill as it must be -/
def zt (r : Nat → Int32) (i : Nat) : Nat → Int32 := fun k => if 567 ≤ k ∧ k < 567 + i then 0 else r k
set_option maxRecDepth 10000 in
theorem zt_0 {r : Nat → Int32} : zt r 0 = r := by
  funext k
  unfold zt
  rw [if_neg (by omega)]
set_option maxRecDepth 10000 in
theorem zt_s {r : Nat → Int32} {i : Nat} : upd (zt r i) (567 + i) 0 = zt r (i + 1) := by
  funext k
  by_cases h : k = 567 + i
  · subst h
    rw [up_eq]
    unfold zt
    rw [if_pos (by omega)]
  · rw [up_ne h]
    unfold zt
    by_cases h2 : 567 ≤ k ∧ k < 567 + i
    · rw [if_pos h2, if_pos (by omega)]
    · rw [if_neg h2, if_neg (by omega)]
set_option maxRecDepth 10000 in
theorem lo_zt {r : Nat → Int32} {i : Nat} : Lo r (zt r i) := fun k hk => by
  unfold zt
  rw [if_neg (by omega)]
set_option maxRecDepth 10000 in
theorem zt_in {r : Nat → Int32} {k : Nat} (h : k < 21) : tv (zt r 21) 567 k = 0 := by
  unfold tv zt
  rw [if_pos (by omega)]
set_option maxRecDepth 10000 in
theorem clr_0 {x : Nat → Int32} : ∀ k, k < 5 → clr x k = 0
  | 0, _ => by unfold clr; rw [up_ne (by decide), up_ne (by decide), up_ne (by decide), up_eq]
  | 1, _ => by unfold clr; rw [up_ne (by decide), up_ne (by decide), up_eq]
  | 2, _ => by unfold clr; rw [up_ne (by decide), up_ne (by decide), up_ne (by decide), up_ne (by decide), up_eq]
  | 3, _ => by unfold clr; rw [up_ne (by decide), up_eq]
  | 4, _ => by unfold clr; rw [up_eq]
  | k + 5, h => absurd h (by omega)
set_option maxRecDepth 10000 in
theorem eqv_la {r x : Nat → Int32} {v : Int32} : Eqv 0 0 (upd (clr x) 2 v) (tv (upd (zt r 21) (567 + 2) v) 567) := by
  rw [tv_up]
  refine ⟨fun k hk => ?_, fun m hm => absurd hm (Nat.not_lt_zero _), fun p hp => absurd hp (Nat.not_lt_zero _)⟩
  by_cases h : k = 2
  · subst h
    rw [up_eq, up_eq]
  · rw [up_ne h, up_ne h, clr_0 k hk, zt_in (by omega)]
section
variable {f : Nat → Int32} {len : Nat}
set_option maxRecDepth 10000 in
theorem hM_bad {x : Nat → Int32} (h : ¬ (laS f len x).1 = 0) : hM f len x = laS f len x := by
  unfold hM
  rw [moS_e h, moL_e h]
set_option maxRecDepth 10000 in
theorem hM_n {x : Nat → Int32} (h : (laS f len x).1 = 0) (hn : ¬ ltr f len (laS f len x).2.1 = 109) : hM f len x = (1, (laS f len x).2.1, (laS f len x).2.2.1, (laS f len x).2.2.2) := by
  unfold hM
  rw [moS_n h hn]
  exact moL_e (Nat.succ_ne_zero _) 4
set_option maxRecDepth 10000 in
theorem hM_y {x : Nat → Int32} (h : (laS f len x).1 = 0) (hn : ltr f len (laS f len x).2.1 = 109) : moL f len 5 (laS f len x) = hM f len x := by
  show (if _ then _ else _) = _
  rw [if_pos ⟨h, hn⟩]
  rfl
set_option maxRecDepth 10000 in
theorem meL_b (M : Nat × Nat × Nat × (Nat → Int32)) (h : ¬ M.1 = 0) : meL f len 5 (M.1, M.2.1, 0, M.2.2.2) = (M.1, M.2.1, 0, M.2.2.2) := meL_e (S := (M.1, M.2.1, 0, M.2.2.2)) h 5
set_option maxRecDepth 10000 in
theorem hB_bad {x : Nat → Int32} (h : ¬ (hM f len x).1 = 0) : hB f len x = ((hM f len x).1, (hM f len x).2.1, 0, (hM f len x).2.2.2) := by
  rw [hB_eq]
  exact meL_b (hM f len x) h
set_option maxRecDepth 10000 in
theorem moS_c {S : Nat × Nat × Nat × (Nat → Int32)} : S.2.2.1 ≤ (moS f len S).2.2.1 ∧ ((moS f len S).1 = 0 → S.1 = 0 ∧ 1 ≤ (moS f len S).2.2.1) := by
  unfold moS
  by_cases c : mo4E f len S.1 S.2.1 S.2.2.1 = 0
  · rw [if_pos c]
    have h1 := nm0 (tk0 c).1
    have h2 := (tk0 h1).1
    unfold mo1 at h2
    refine ⟨Nat.le_succ _, fun _ => ⟨?_, Nat.succ_le_succ (Nat.zero_le _)⟩⟩
    by_cases hq : S.1 = 0 ∧ ltr f len S.2.1 = 109 ∧ S.2.2.1 = 4
    · exact hq.1
    · rw [if_neg hq] at h2
      exact h2
  · rw [if_neg c]
    exact ⟨Nat.le_refl _, fun h => absurd h c⟩
set_option maxRecDepth 10000 in
theorem moL_0 : ∀ q S, S.2.2.1 ≤ (moL f len q S).2.2.1 ∧ ((moL f len q S).1 = 0 → S.1 = 0)
  | 0, S => ⟨Nat.le_refl _, fun h => h⟩
  | q + 1, S => by
    unfold moL
    by_cases c : S.1 = 0 ∧ ltr f len S.2.1 = 109
    · rw [if_pos c]
      exact ⟨Nat.le_trans moS_c.1 (moL_0 q _).1, fun _ => c.1⟩
    · rw [if_neg c]
      exact ⟨Nat.le_refl _, fun h => h⟩
set_option maxRecDepth 10000 in
theorem meL_0 : ∀ q S, (meL f len q S).1 = 0 → S.1 = 0
  | 0, S, h => h
  | q + 1, S, h => by
    unfold meL at h
    by_cases c : S.1 = 0 ∧ S.2.1 < len
    · exact c.1
    · rw [if_neg c] at h
      exact h
set_option maxRecDepth 10000 in
theorem meS_k {S : Nat × Nat × Nat × (Nat → Int32)} {k : Nat} (h1 : k ≠ 1) (h9 : k < 9) : (meS f len S).2.2.2 k = S.2.2.2 k := by
  unfold meS
  by_cases c : me5E f len S.2.1 S.2.2.1 = 0
  · rw [if_pos c]
    unfold addB
    show upd (upd (upd (upd S.2.2.2 (9 + S.2.2.1) _) (13 + S.2.2.1) _) (17 + S.2.2.1) _) 1 _ k = _
    rw [up_ne h1, up_ne (Nat.ne_of_lt (Nat.lt_of_lt_of_le h9 (Nat.le_trans (by decide) (Nat.le_add_right 17 _)))), up_ne (Nat.ne_of_lt (Nat.lt_of_lt_of_le h9 (Nat.le_trans (by decide) (Nat.le_add_right 13 _)))), up_ne (Nat.ne_of_lt (Nat.lt_of_lt_of_le h9 (Nat.le_add_right 9 _)))]
  · rw [if_neg c]
set_option maxRecDepth 10000 in
theorem meL_k {k : Nat} (h1 : k ≠ 1) (h9 : k < 9) : ∀ q S, (meL f len q S).2.2.2 k = S.2.2.2 k
  | 0, S => rfl
  | q + 1, S => by
    unfold meL
    by_cases c : S.1 = 0 ∧ S.2.1 < len
    · rw [if_pos c, meL_k h1 h9 q _, meS_k h1 h9]
    · rw [if_neg c]
set_option maxRecDepth 10000 in
theorem okT_add {y : Nat → Int32} {c : Nat} {k b m : Int32} (hc : c < 4) (ho : okT y c) (hk : k = 1 ∨ k = 2 ∨ k = 3 ∨ k = 4 ∨ k = 5) (hb : ∃ j : Nat, j ≤ 20 ∧ b = nI j) (hm : ∃ j : Nat, j ≤ 9 ∧ m = nI j) : okT (addB y c k b m) (c + 1) := by
  unfold addB
  refine ⟨fun p hp => ?_, ?_⟩
  · have e9 : upd (upd (upd (upd y (9 + c) k) (13 + c) b) (17 + c) m) 1 (nI (c + 1)) (9 + p) = upd y (9 + c) k (9 + p) := by rw [up_ne (by omega), up_ne (by omega), up_ne (by omega)]
    have e13 : upd (upd (upd (upd y (9 + c) k) (13 + c) b) (17 + c) m) 1 (nI (c + 1)) (13 + p) = upd (upd y (9 + c) k) (13 + c) b (13 + p) := by rw [up_ne (by omega), up_ne (by omega)]
    have e17 : upd (upd (upd (upd y (9 + c) k) (13 + c) b) (17 + c) m) 1 (nI (c + 1)) (17 + p) = upd (upd (upd y (9 + c) k) (13 + c) b) (17 + c) m (17 + p) := by rw [up_ne (by omega)]
    rw [e9, e13, e17]
    by_cases hq : p = c
    · subst hq
      rw [up_eq, up_eq, up_eq]
      exact ⟨hk, hb, hm⟩
    · rw [up_ne (show 9 + p ≠ 9 + c by omega), up_ne (show 13 + p ≠ 13 + c by omega), up_ne (show 13 + p ≠ 9 + c by omega), up_ne (show 17 + p ≠ 17 + c by omega), up_ne (show 17 + p ≠ 13 + c by omega), up_ne (show 17 + p ≠ 9 + c by omega)]
      exact ho.1 p (by omega)
  · rw [up_ne (by omega), up_ne (by omega), up_ne (by omega), up_ne (by omega)]
    exact ho.2
set_option maxRecDepth 10000 in
theorem meS_ok {S : Nat × Nat × Nat × (Nat → Int32)} (hS : IM 1 len S) (ho : okT S.2.2.2 S.2.2.1) : okT (meS f len S).2.2.2 (meS f len S).2.2.1 := by
  have h3 := hS.2.2.1
  unfold meS
  by_cases c : me5E f len S.2.1 S.2.2.1 = 0
  · rw [if_pos c]
    have e4 : (me4 f len S.2.1 S.2.2.1).1 = 0 := (tk0 c).1
    have e3 : me3E f len S.2.1 S.2.2.1 = 0 := nm0 e4
    have e2 : (me2 f len S.2.1 S.2.2.1).1 = 0 := (tk0 e3).1
    have q2 := nm_rg (f := f) (len := len) (lo := 0) (hi := 20) e2
    have q4 := nm_rg (f := f) (len := len) (lo := 0) (hi := 9) e4
    obtain ⟨hc, hk⟩ := me5_c h3 c
    refine okT_add hc ho ?_ (le_of40 (m := 20) (by decide) q2.1 q2.2) (le_of40 (m := 9) (by decide) q4.1 q4.2)
    rcases kd_15 (ltr f len S.2.1) with k | k | k | k | k | k
    · exact absurd k hk
    · exact Or.inl k
    · exact Or.inr (Or.inl k)
    · exact Or.inr (Or.inr (Or.inl k))
    · exact Or.inr (Or.inr (Or.inr (Or.inl k)))
    · exact Or.inr (Or.inr (Or.inr (Or.inr k)))
  · rw [if_neg c]
    exact ho
set_option maxRecDepth 10000 in
theorem meL_ok : ∀ q S, IM 1 len S → okT S.2.2.2 S.2.2.1 → okT (meL f len q S).2.2.2 (meL f len q S).2.2.1
  | 0, S, _, h => h
  | q + 1, S, hS, h => by
    unfold meL
    by_cases c : S.1 = 0 ∧ S.2.1 < len
    · rw [if_pos c]
      exact meL_ok q _ (meS_I hS) (meS_ok hS h)
    · rw [if_neg c]
      exact h
set_option maxRecDepth 10000 in
theorem hM_0 {x : Nat → Int32} (h : (hM f len x).1 = 0) : laE f len = 0 ∧ 1 ≤ (hM f len x).2.2.1 := by
  unfold hM at h ⊢
  have h1 := moL_0 (f := f) (len := len) 4 (moS f len (laS f len x))
  have h2 := (moS_c (f := f) (len := len) (S := laS f len x)).2 (h1.2 h)
  exact ⟨h2.1, Nat.le_trans h2.2 h1.1⟩
set_option maxRecDepth 10000 in
theorem hM_ok {x : Nat → Int32} (h : laE f len = 0) : okT (hM f len x).2.2.2 0 := by
  refine ⟨fun p hp => absurd hp (Nat.not_lt_zero _), ?_⟩
  rw [hM_k (by decide) (Or.inl (by decide)), laS_k, up_eq]
  have q := nm_rg (f := f) (len := len) (lo := 1) (hi := 9) (tk0 h).1
  exact le_of40 (m := 9) (by decide) (fun c => q.1 (Int32.lt_trans c (by decide))) q.2
set_option maxRecDepth 10000 in
theorem hB_ok {x : Nat → Int32} (h : (hB f len x).1 = 0) : okX (hB f len x).2.2.2 (hB f len x).2.2.1 (hM f len x).2.2.1 0 := by
  have hI := hB_I (f := f) (len := len) (x := x)
  have hJ := hM_I (f := f) (len := len) (x := x)
  have hMB := hM_B (f := f) (len := len) (x := x)
  have hE := hB_eq (f := f) (len := len) (x := x)
  have h0 : (hM f len x).1 = 0 → laE f len = 0 ∧ 1 ≤ (hM f len x).2.2.1 := fun q => hM_0 q
  have hK : laE f len = 0 → okT (hM f len x).2.2.2 0 := fun q => hM_ok q
  have h3 : (hM f len x).2.2.2 3 = 0 := by rw [hM_k (by decide) (Or.inl (by decide)), laS_k, up_ne (by decide), clr_0 3 (by decide)]
  rw [hE] at h hI ⊢
  clear hE
  generalize hM f len x = M at h hI hJ hMB h0 hK h3 ⊢
  have hm : M.1 = 0 := meL_0 5 (M.1, M.2.1, 0, M.2.2.2) h
  obtain ⟨h1, h2⟩ := h0 hm
  have kk : ∀ k, k ≠ 1 → k < 9 → (meL f len 5 (M.1, M.2.1, 0, M.2.2.2)).2.2.2 k = M.2.2.2 k := fun k a b => meL_k a b 5 (M.1, M.2.1, 0, M.2.2.2)
  refine ⟨meL_ok 5 (M.1, M.2.1, 0, M.2.2.2) hMB (hK h1), hI.2.2.2, hI.2.2.1, ?_, h2, hJ.2.2.1, ?_, by decide⟩
  · rw [kk 0 (by decide) (by decide)]
    exact hJ.2.2.2
  · rw [kk 3 (by decide) (by decide)]
    exact h3
end
section
variable {g gm : Nat → Int32} {T A Am : Nat → Nat → Int32} {len : Nat}
set_option maxRecDepth 10000 in
theorem xm_zL {r : Nat → Int32} {v : Option Value} {h' : am_H} : ∀ m i, i + m = 21 → rn none 4 am_t_X9_reads (25, [some (.ref 43), some (.int (nI 21))], [], wd g T A gm (tu Am 0 (zt r 21))) v h' → rn none 4 am_t_X9_reads (2, [some (.ref 43), some (.int (nI i))], [], wd g T A gm (tu Am 0 (zt r i))) v h'
  | 0, i, hi, hr => by
    have hin : i = 21 := by omega
    subst hin
    refine rn_go 80 (by with_unfolding_all rfl) ?_
    refine rn_br (by with_unfolding_all rfl) (fun _ => ?_) (fun c_ => absurd ((by decide)) c_)
    with_unfolding_all exact hr
  | m + 1, i, hi, hr => by
    refine rn_go 80 (by with_unfolding_all rfl) ?_
    refine rn_br (by with_unfolding_all rfl) (fun c_ => absurd c_ ((show ¬ nI 21 ≤ nI i from nI_ge (by omega) (by omega)))) (fun _ => ?_)
    refine rn_go 80 (by with_unfolding_all rfl) ?_
    refine rn_st (567 + i) (by with_unfolding_all rfl) (nI_add 567 _) (by omega) (by decide) ?_
    refine rn_hp (by with_unfolding_all exact (wM_0)) ?_
    rw [tu_tu, tu_s, zt_s]
    refine rn_to 2 80 (by with_unfolding_all rfl) ?_
    have ih := xm_zL m (i + 1) (by omega) hr
    rw [← nI_1] at ih
    with_unfolding_all exact ih
set_option maxRecDepth 10000 in
theorem xm_rdh {v : Option Value} {h' : am_H} (hr : rn none 4 am_t_X9_reads (30, [some (.ref 43), some (.int (nI 21))], [], wd g T A (rd gm 0 (gm 7) (gm 8)) (tu Am 0 (zt (Am 0) 21))) v h') : am_ev 5 161 [.ref 43] (wd g T A gm Am) v h' := by
  refine rn_ev am_m_X9_reads rfl rfl ?_
  refine rn_to 2 80 (by with_unfolding_all rfl) ?_
  refine rn_hp (by with_unfolding_all exact ((show _ = wd g T A gm (tu Am 0 (zt (Am 0) 0)) by rw [zt_0, tu_id]))) ?_
  with_unfolding_all refine xm_zL 21 0 (by omega) ?_
  refine rn_to 30 80 (by with_unfolding_all rfl) ?_
  refine rn_hp (by with_unfolding_all exact ((show _ = wd g T A (rd gm 0 (gm 7) (gm 8)) (tu Am 0 (zt (Am 0) 21)) by rw [← rd_ini]; rfl))) ?_
  with_unfolding_all exact hr
set_option maxRecDepth 10000 in
theorem xm_rd1 {p : Nat} {w1 x1 : Int32} {r1 : Nat → Int32} (hl : gm 2 = nI len) (h100 : len ≤ 100) (hp : p ≤ len) (hm : ltr (Am 5) len p = 109) (a4 : am_ev 4 156 [.ref 43] (wd g T A (rd gm 0 (gm 7) (gm 8)) (tu Am 0 (zt (Am 0) 21))) (some (.int 1)) (wd g T A (rd gm p w1 x1) (tu Am 0 r1))) {v : Option Value} {h' : am_H} (hr : rn none 4 am_t_X9_reads (56, [some (.ref 43), some (.int 1)], [], wd g T A (rd gm p w1 x1) (tu Am 0 r1)) v h') : am_ev 5 161 [.ref 43] (wd g T A gm Am) v h' := by
  refine xm_rdh ?_
  refine rn_go 80 (by with_unfolding_all rfl) ?_
  refine rn_cl (by with_unfolding_all rfl) (ev_up (by decide) (a4)) ?_
  refine rn_go 80 (by with_unfolding_all rfl) ?_
  refine rn_br (by with_unfolding_all rfl) (fun c_ => absurd c_ ((by decide))) (fun _ => ?_)
  refine rn_go 80 (by with_unfolding_all rfl) ?_
  refine rn_cl (by with_unfolding_all rfl) (ev_up (by decide) (xm_isLetter hl h100 hp 109 (by decide))) ?_
  rw [if_pos (by rw [tu_n (by decide)]; exact hm)]
  refine rn_go 80 (by with_unfolding_all rfl) ?_
  refine rn_br (by with_unfolding_all rfl) (fun c_ => absurd c_ ((by decide))) (fun _ => ?_)
  refine rn_to 56 80 (by with_unfolding_all rfl) ?_
  with_unfolding_all exact hr
set_option maxRecDepth 10000 in
theorem xm_rd2 {p : Nat} {w1 x1 : Int32} {r1 : Nat → Int32} (hl : gm 2 = nI len) (h100 : len ≤ 100) (hp : p ≤ len) (hm : ¬ ltr (Am 5) len p = 109) (a4 : am_ev 4 156 [.ref 43] (wd g T A (rd gm 0 (gm 7) (gm 8)) (tu Am 0 (zt (Am 0) 21))) (some (.int 1)) (wd g T A (rd gm p w1 x1) (tu Am 0 r1))) : am_ev 5 161 [.ref 43] (wd g T A gm Am) (some (.int 0)) (wd g T A (rd gm p (nI 1) x1) (tu Am 0 r1)) := by
  refine xm_rdh ?_
  refine rn_go 80 (by with_unfolding_all rfl) ?_
  refine rn_cl (by with_unfolding_all rfl) (ev_up (by decide) (a4)) ?_
  refine rn_go 80 (by with_unfolding_all rfl) ?_
  refine rn_br (by with_unfolding_all rfl) (fun c_ => absurd c_ ((by decide))) (fun _ => ?_)
  refine rn_go 80 (by with_unfolding_all rfl) ?_
  refine rn_cl (by with_unfolding_all rfl) (ev_up (by decide) (xm_isLetter hl h100 hp 109 (by decide))) ?_
  rw [if_neg (by rw [tu_n (by decide)]; exact hm)]
  refine rn_go 80 (by with_unfolding_all rfl) ?_
  refine rn_br (by with_unfolding_all rfl) (fun _ => ?_) (fun c_ => absurd (rfl) c_)
  refine rn_go 80 (by with_unfolding_all rfl) ?_
  refine rn_cl (by with_unfolding_all rfl) (ev_up (by decide) (xm_refuse 1)) ?_
  rw [show (1 : Int32) = nI 1 from rfl, rd_u7]
  refine rn_go 80 (by with_unfolding_all rfl) ?_
  exact rn_rt (by with_unfolding_all rfl) (Or.inl rfl) (rfl) (rfl)
set_option maxRecDepth 10000 in
theorem xm_rd3 {p : Nat} {w1 x1 : Int32} {r1 : Nat → Int32} (a4 : am_ev 4 156 [.ref 43] (wd g T A (rd gm 0 (gm 7) (gm 8)) (tu Am 0 (zt (Am 0) 21))) (some (.int 0)) (wd g T A (rd gm p w1 x1) (tu Am 0 r1))) : am_ev 5 161 [.ref 43] (wd g T A gm Am) (some (.int 0)) (wd g T A (rd gm p w1 x1) (tu Am 0 r1)) := by
  refine xm_rdh ?_
  refine rn_go 80 (by with_unfolding_all rfl) ?_
  refine rn_cl (by with_unfolding_all rfl) (ev_up (by decide) (a4)) ?_
  refine rn_go 80 (by with_unfolding_all rfl) ?_
  refine rn_br (by with_unfolding_all rfl) (fun _ => ?_) (fun c_ => absurd (rfl) c_)
  refine rn_go 80 (by with_unfolding_all rfl) ?_
  exact rn_rt (by with_unfolding_all rfl) (Or.inl rfl) (rfl) (rfl)
set_option maxRecDepth 10000 in
theorem xm_tail {S M N : Nat × Nat × Nat × (Nat → Int32)} {w1 x1 : Int32} {r0 r1 : Nat → Int32} (hl : gm 2 = nI len) (h100 : len ≤ 100) (hI : IM 0 len S) (h0 : S.1 = 0) (a1 : Lo r0 r1) (a2 : Ok3 S.1 w1) (a3 : S.1 = 0 → Eqv 0 S.2.2.1 S.2.2.2 (tv r1 567)) (hM1 : moL (Am 5) len 5 S = M) (hMI : IM 0 len M) (hMB : IM 1 len (M.1, M.2.1, 0, M.2.2.2)) (hN : meL (Am 5) len 5 (M.1, M.2.1, 0, M.2.2.2) = N) : ∃ w' x' r', Lo r0 r' ∧ Ok3 N.1 w' ∧ (N.1 = 0 → Eqv N.2.2.1 M.2.2.1 N.2.2.2 (tv r' 567)) ∧ rn none 4 am_t_X9_reads (56, [some (.ref 43), some (.int 1)], [], wd g T A (rd gm S.2.1 w1 x1) (tu Am 0 r1)) (some (.int (if N.1 = 0 then 1 else 0))) (wd g T A (rd gm N.2.1 w' x') (tu Am 0 r')) := by
  obtain ⟨w2, x2, r2, b1, b2, b3, b4⟩ := xm_moLoop (g := g) (T := T) (A := A) (Am := Am) hl h100 5 S hI (fun _ => Nat.le_add_left 5 _) w1 x1 r1 a1 a2 a3
  rw [hM1] at b2 b3 b4
  obtain ⟨w', x', r', c1, c2, c3, c4⟩ := xm_meLoop (g := g) (T := T) (A := A) (Am := Am) hMI.2.2.1 hl h100 5 (M.1, M.2.1, 0, M.2.2.2) hMB (fun _ => Nat.le_add_left 5 0) w2 x2 r2 b1 b2 b3
  rw [hN] at c2 c3 c4
  have b5 := b4 _ _ c4
  rw [if_pos h0] at b5
  exact ⟨w', x', r', c1, c2, c3, b5⟩
set_option maxRecDepth 10000 in
theorem laS_1 {f : Nat → Int32} {y : Nat → Int32} : (laS f len y).1 = laE f len := rfl
set_option maxRecDepth 10000 in
theorem laS_2 {f : Nat → Int32} {y : Nat → Int32} : (laS f len y).2.1 = laP f len := rfl
set_option maxRecDepth 10000 in
theorem laS_3 {f : Nat → Int32} {y : Nat → Int32} : (laS f len y).2.2.1 = 0 := rfl
set_option maxRecDepth 10000 in
theorem xm_reads (hl : gm 2 = nI len) (h100 : len ≤ 100) (y : Nat → Int32) : ∃ w' x' r', Lo (Am 0) r' ∧ Ok3 (hB (Am 5) len y).1 w' ∧ ((hB (Am 5) len y).1 = 0 → Eqv (hB (Am 5) len y).2.2.1 (hM (Am 5) len y).2.2.1 (hB (Am 5) len y).2.2.2 (tv r' 567)) ∧ am_ev 5 161 [.ref 43] (wd g T A gm Am) (some (.int (if (hB (Am 5) len y).1 = 0 then 1 else 0))) (wd g T A (rd gm (hB (Am 5) len y).2.1 w' x') (tu Am 0 r')) := by
  have hLI : laP (Am 5) len ≤ len := (laS_I (f := Am 5) (len := len) (x := y)).2.1
  obtain ⟨w1, x1, r1, a1, a2, a3, a4⟩ := xm_readsLaw (g := g) (T := T) (A := A) (Am := Am) (w := gm 7) (x := gm 8) hl h100 (lo_zt (r := Am 0) (i := 21))
  have eL1 := laS_1 (f := Am 5) (len := len) (y := y)
  have eL2 := laS_2 (f := Am 5) (len := len) (y := y)
  have eL3 := laS_3 (f := Am 5) (len := len) (y := y)
  have eK := laS_k (f := Am 5) (len := len) (x := y)
  have hLS := laS_I (f := Am 5) (len := len) (x := y)
  have hMI := hM_I (f := Am 5) (len := len) (x := y)
  have hMB := hM_B (f := Am 5) (len := len) (x := y)
  have eN := hB_eq (f := Am 5) (len := len) (x := y)
  have q1 := hM_bad (f := Am 5) (len := len) (x := y)
  have q2 := hM_n (f := Am 5) (len := len) (x := y)
  have q3 := hM_y (f := Am 5) (len := len) (x := y)
  have q4 := hB_bad (f := Am 5) (len := len) (x := y)
  generalize laS (Am 5) len y = S at eL1 eL2 eL3 eK hLS q1 q2 q3
  generalize hM (Am 5) len y = M at hMI hMB eN q1 q2 q3 q4 ⊢
  generalize hB (Am 5) len y = N at eN q4 ⊢
  rw [eL2] at q2 q3
  by_cases hL : laE (Am 5) len = 0
  · rw [if_pos hL] at a4
    have h0 : S.1 = 0 := eL1.trans hL
    by_cases hm : ltr (Am 5) len (laP (Am 5) len) = 109
    · obtain ⟨w', x', r', c1, c2, c3, c4⟩ := xm_tail (g := g) (T := T) (A := A) (x1 := x1) hl h100 hLS h0 a1 (by rw [eL1]; exact a2) (fun _ => by rw [eL3, eK, a3 hL]; exact eqv_la) (q3 h0 hm) hMI hMB eN.symm
      rw [eL2] at c4
      exact ⟨w', x', r', c1, c2, c3, xm_rd1 hl h100 hLI hm a4 c4⟩
    · have eM := q2 h0 hm
      have eB := q4 (by rw [eM]; exact Nat.succ_ne_zero _)
      rw [eM] at eB
      rw [eB]
      refine ⟨nI 1, x1, r1, a1, fun _ => rfl, fun h => absurd h (Nat.succ_ne_zero _), ?_⟩
      rw [if_neg (Nat.succ_ne_zero _)]
      exact xm_rd2 hl h100 hLI hm a4
  · rw [if_neg hL] at a4
    have hn : ¬ S.1 = 0 := by rw [eL1]; exact hL
    have eM := q1 hn
    have eB := q4 (by rw [eM]; exact hn)
    rw [eM] at eB
    rw [eB]
    refine ⟨w1, x1, r1, a1, ?_, fun h => absurd h hn, ?_⟩
    · show Ok3 S.1 w1
      rw [eL1]
      exact a2
    · show am_ev 5 161 [.ref 43] (wd g T A gm Am) (some (.int (if S.1 = 0 then 1 else 0))) (wd g T A (rd gm S.2.1 w1 x1) (tu Am 0 r1))
      rw [if_neg hn, eL2]
      exact xm_rd3 a4
set_option maxRecDepth 10000 in
theorem xm_hillF (hl : gm 2 = nI len) (h100 : len ≤ 100) {y : Nat → Int32} (he : ¬ (hB (Am 5) len y).1 = 0) : ∃ x' r', Lo (Am 0) r' ∧ am_ev 12 162 [.ref 43] (wd g T A gm Am) (some (.int (-1000100 - nI (hB (Am 5) len y).2.1))) (wd g T A (upd (upd (rd gm (hB (Am 5) len y).2.1 (nI (hB (Am 5) len y).1) x') 2 0) 3 (nI (hB (Am 5) len y).1)) (tu Am 0 r')) := by
  obtain ⟨w', x', r', a1, a2, -, a4⟩ := xm_reads (g := g) (T := T) (A := A) (Am := Am) hl h100 y
  rw [if_neg he, a2 he] at a4
  generalize hB (Am 5) len y = S at a4 ⊢
  refine ⟨x', r', a1, ?_⟩
  refine rn_ev am_m_X9_hill rfl rfl ?_
  refine rn_go 80 (by with_unfolding_all rfl) ?_
  refine rn_cl (by with_unfolding_all rfl) (ev_up (by decide) (a4)) ?_
  refine rn_to 10 80 (by with_unfolding_all rfl) ?_
  refine rn_hp (by with_unfolding_all exact (wN_2)) ?_
  refine rn_go 80 (by with_unfolding_all rfl) ?_
  refine rn_br (by with_unfolding_all rfl) (fun _ => ?_) (fun c_ => absurd (rfl) c_)
  refine rn_to 22 80 (by with_unfolding_all rfl) ?_
  refine rn_hp (by with_unfolding_all exact (wN_3)) ?_
  rw [up_ne (show 7 ≠ 2 by decide), rd_7]
  refine rn_go 80 (by with_unfolding_all rfl) ?_
  exact rn_rt (by with_unfolding_all rfl) (trivial) (by rw [up_ne (by decide), up_ne (by decide), rd_6]) (rfl)
set_option maxRecDepth 10000 in
theorem xm_hillS (hl : gm 2 = nI len) (h100 : len ≤ 100) {y : Nat → Int32} (he : (hB (Am 5) len y).1 = 0) : ∃ w' x' r', Lo (Am 0) r' ∧ Eqv (hB (Am 5) len y).2.2.1 (hM (Am 5) len y).2.2.1 (hB (Am 5) len y).2.2.2 (tv r' 567) ∧ am_ev 12 162 [.ref 43] (wd g T A gm Am) (some (.int (tv r' 567 1))) (wd g T A (upd (upd (upd (rd gm (hB (Am 5) len y).2.1 w' x') 2 0) 0 1) 1 0) (tu Am 0 (rs r' 0 (tv r' 567)))) := by
  obtain ⟨w', x', r', a1, -, a3, a4⟩ := xm_reads (g := g) (T := T) (A := A) (Am := Am) hl h100 y
  have a3 := a3 he
  rw [if_pos he] at a4
  refine ⟨w', x', r', a1, a3, ?_⟩
  generalize hB (Am 5) len y = S at a4 ⊢
  refine rn_ev am_m_X9_hill rfl rfl ?_
  refine rn_go 80 (by with_unfolding_all rfl) ?_
  refine rn_cl (by with_unfolding_all rfl) (ev_up (by decide) (a4)) ?_
  refine rn_to 10 80 (by with_unfolding_all rfl) ?_
  refine rn_hp (by with_unfolding_all exact (wN_2)) ?_
  refine rn_go 80 (by with_unfolding_all rfl) ?_
  refine rn_br (by with_unfolding_all rfl) (fun c_ => absurd c_ ((by decide))) (fun _ => ?_)
  refine rn_go 80 (by with_unfolding_all rfl) ?_
  refine rn_cl (by with_unfolding_all rfl) (ev_up (by decide) (xm_copyTown (a := 567) (b := 0) (by decide) (by decide) (by decide))) ?_
  rw [tu_tu, tu_s]
  refine rn_go 80 (by with_unfolding_all rfl) ?_
  refine rn_ck (by with_unfolding_all rfl) (Or.inr rfl) ?_
  refine rn_hp (by with_unfolding_all exact (wN_0)) ?_
  refine rn_to 48 80 (by with_unfolding_all rfl) ?_
  refine rn_hp (by with_unfolding_all exact (wN_1)) ?_
  refine rn_go 80 (by with_unfolding_all rfl) ?_
  refine rn_ld (1) (by with_unfolding_all rfl) rfl (by decide) (by decide) ?_
  rw [tu_s, show rs r' 0 (tv r' 567) 1 = tv r' 567 1 from rs_at (B := 0) (k := 1) (by decide)]
  refine rn_go 80 (by with_unfolding_all rfl) ?_
  exact rn_rt (by with_unfolding_all rfl) trivial rfl rfl
end

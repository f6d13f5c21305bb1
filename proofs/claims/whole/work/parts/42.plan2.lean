/-! the best plan of days: the class, day by day -/
set_option maxRecDepth 10000 in
theorem bk_eq {x : Nat → Int32} {n mo dy0 depth : Nat} {s c d : Int32} {a6 : Nat → Int32} (hX : okX x n mo (dy0 + depth)) (h6 : ∀ i, i < 4 → a6 (4 * depth + i) = x (13 + i)) : upd (ov (upd (pd x s n c) 4 d) (fun i => a6 (4 * depth + i)) 4) 3 (nI dy0 + nI depth) = upd x 4 d := by
  have h4 := hX.2.2.1
  funext k
  by_cases h3 : k = 3
  · rw [h3, up_eq, up_ne (by decide), hX.2.2.2.2.2.2.1, nI_add]
  rw [up_ne h3]
  by_cases h13 : 13 ≤ k ∧ k < 17
  · have e := h6 (k - 13) (by omega)
    rw [show 13 + (k - 13) = k by omega] at e
    unfold ov
    rw [if_pos (by omega), up_ne (by omega)]
    exact e
  rw [ov_lo (by omega)]
  by_cases h5 : k = 4
  · rw [h5, up_eq, up_eq]
  · rw [up_ne h5, up_ne h5, pd_lo (by omega) h3 h5]
def PT (gm : Nat → Int32) (T A Am : Nat → Nat → Int32) (n mo m dy0 k : Nat) : Prop := ∀ (depth c : Nat) (x p g a6 a7 a8 : Nat → Int32) (d4 : Int32) (s : Nat × (Nat → Int32)), depth + (k + 1) = m + 1 → okX x n mo (dy0 + depth) → dy0 + m + 1 < 2000 → g 7 = nI (m + 1) → g 8 = mI s.1 → s.1 ≤ 5 → c ≤ depth → (∀ i, i < depth → a7 i = p i) → Rb (m + 1) a8 s → ∃ (d4' : Int32) (a6' a7' a8' : Nat → Int32), (∀ i, i < 4 * depth → a6' i = a6 i) ∧ (∀ i, i < depth → a7' i = a7 i) ∧ Rb (m + 1) a8' (vis n mo (m + 1) (k + 1) (dy0 + depth) x c p s) ∧ am_ev (k + 7) 60 [.ref 36, .int (nI depth), .int (nI c)] (wd g (tu T 1 (upd x 4 d4)) (tu (tu (tu A 6 a6) 7 a7) 8 a8) gm Am) none (wd (upd g 8 (mI (vis n mo (m + 1) (k + 1) (dy0 + depth) x c p s).1)) (tu T 1 (upd x 4 d4')) (tu (tu (tu A 6 a6') 7 a7') 8 a8') gm Am)
section
variable {gm : Nat → Int32} {T A Am : Nat → Nat → Int32} {n mo m dy0 : Nat}
set_option maxRecDepth 10000 in
theorem x5_tryL {k depth c : Nat} {x p : Nat → Int32} (hP : PT gm T A Am n mo m dy0 k) (h0 : T 0 3 = nI dy0) (hm : m < 4) (hdep : depth + (k + 1 + 1) = m + 1) (hX : okX x n mo (dy0 + depth)) (hdy : dy0 + m + 1 < 2000) (hc : c ≤ depth) : ∀ q j, j + q = 16 → ∀ (g a6 a7 a8 : Nat → Int32) (d4 : Int32) (s : Nat × (Nat → Int32)) (o : Option Value), g 7 = nI (m + 1) → g 8 = mI s.1 → s.1 ≤ 5 → (∀ i, i < depth → a7 i = p i) → Rb (m + 1) a8 s → (∀ i, i < 4 → a6 (4 * depth + i) = x (13 + i)) → ∃ (d4' : Int32) (a6' a7' a8' : Nat → Int32), (∀ i, i < 4 * depth → a6' i = a6 i) ∧ (∀ i, i < depth → a7' i = a7 i) ∧ Rb (m + 1) a8' (fr (vf n mo (m + 1) (k + 1) (dy0 + depth) x c p) q j s) ∧ rn none (k + 7) am_t_X5_tryDay (57, [some (.ref 36), some (.int (nI depth)), some (.int (nI c)), some (.int (ta x n)), some (.int (nI j)), o], [], wd g (tu T 1 (upd x 4 d4)) (tu (tu (tu A 6 a6) 7 a7) 8 a8) gm Am) none (wd (upd g 8 (mI (fr (vf n mo (m + 1) (k + 1) (dy0 + depth) x c p) q j s).1)) (tu T 1 (upd x 4 d4')) (tu (tu (tu A 6 a6') 7 a7') 8 a8') gm Am)
  | 0, j, hj, g, a6, a7, a8, d4, s, o, h7, h8, hs5, hp, hR, h6 => by
    have hin : j = 16 := by omega
    subst hin
    refine ⟨d4, a6, a7, a8, fun _ _ => rfl, fun _ _ => rfl, hR, ?_⟩
    rw [show fr (vf n mo (m + 1) (k + 1) (dy0 + depth) x c p) 0 16 s = s from rfl, ← h8, up_id]
    refine rn_go 80 (by with_unfolding_all rfl) ?_
    refine rn_br (by with_unfolding_all rfl) (fun _ => ?_) (fun c_ => absurd ((by decide)) c_)
    refine rn_go 80 (by with_unfolding_all rfl) ?_
    exact rn_rt (by with_unfolding_all rfl) trivial rfl rfl
  | q + 1, j, hj, g, a6, a7, a8, d4, s, o, h7, h8, hs5, hp, hR, h6 => by
    rw [show fr (vf n mo (m + 1) (k + 1) (dy0 + depth) x c p) (q + 1) j s = fr (vf n mo (m + 1) (k + 1) (dy0 + depth) x c p) q (j + 1) (vf n mo (m + 1) (k + 1) (dy0 + depth) x c p j s) from rfl]
    by_cases c1 : nI j &&& (ta x n ^^^ -1) = 0
    · have ev : vf n mo (m + 1) (k + 1) (dy0 + depth) x c p j s = vis n mo (m + 1) (k + 1) (dy0 + (depth + 1)) (pd x (nI j) n (cw x (nI j) (ta x n) n (dy0 + depth) mo)) (c + cN x (nI j) (ta x n) n (dy0 + depth) mo) (upd p depth (nI j)) s := by
        unfold vf
        rw [if_pos c1, show m + 1 - (k + 1 + 1) = depth by omega]
        rfl
      have hmay : sMay x n (nI j) := fun i hi hb => tb_sub hX.2.2.1 c1 hi hb
      have hX' := ox_pd hX hmay (by omega) (cw x (nI j) (ta x n) n (dy0 + depth) mo)
      have c01 := cN_1 (x := x) (s := nI j) (a := ta x n) (n := n) (dy := dy0 + depth) (mo := mo)
      have hpass := xk_pass (g := g) (T := T) (A := (tu (tu (tu A 6 a6) 7 (upd a7 depth (nI j))) 8 a8)) (gm := gm) (Am := Am) (nz_ox (c := d4) hX) (nI j) (ta x n)
      rw [cw4 hX.2.2.2.2.1 hX.2.2.2.2.2.1, pd4 (c' := cw x (nI j) (ta x n) n (dy0 + depth) mo)] at hpass
      obtain ⟨d5, b6, b7, b8, hb6, hb7, hRb, hchild⟩ := hP (depth + 1) (c + cN x (nI j) (ta x n) n (dy0 + depth) mo) _ (upd p depth (nI j)) g a6 (upd a7 depth (nI j)) a8 (d4 + cw x (nI j) (ta x n) n (dy0 + depth) mo) s (by omega) hX' hdy h7 h8 hs5 (by omega) (fun i hi => by
        by_cases e : i = depth
        · rw [e, up_eq, up_eq]
        · rw [up_ne e, up_ne e, hp i (by omega)]) hR
      rw [← ev] at hchild hRb
      have hv5 := vf_5 (n := n) (mo := mo) (nd := m + 1) (dy := dy0 + depth) (x := x) (p := p) (j := j) (k := k + 1) (c := c) hs5 (by omega)
      generalize vf n mo (m + 1) (k + 1) (dy0 + depth) x c p j s = s1 at hchild hRb hv5
      rw [← nI_1, ← nI_add, ← cw_cN] at hchild
      have hback := x5_back (g := upd g 8 (mI s1.1)) (T := T) (A := A) (gm := gm) (Am := Am) (depth := depth) (y := upd (pd x (nI j) n (cw x (nI j) (ta x n) n (dy0 + depth) mo)) 4 d5) (a6 := b6) (a7 := b7) (a8 := b8) (by omega)
      have hb6x : ∀ i, i < 4 → b6 (4 * depth + i) = x (13 + i) := fun i hi => by rw [hb6 _ (by omega), h6 i hi]
      rw [h0, bk_eq hX hb6x] at hback
      obtain ⟨d6, e6, e7, e8, he6, he7, hRe, ih⟩ := x5_tryL hP h0 hm hdep hX hdy hc q (j + 1) (by omega) (upd g 8 (mI s1.1)) b6 b7 b8 d5 s1 (some (.int (cw x (nI j) (ta x n) n (dy0 + depth) mo))) (by rw [up_ne (by decide)]; exact h7) up_eq hv5 (fun i hi => by rw [hb7 i (by omega), up_ne (by omega), hp i hi]) hRb hb6x
      rw [up_up, ← nI_1] at ih
      refine ⟨d6, e6, e7, e8, fun i hi => by rw [he6 i hi, hb6 i (by omega)], fun i hi => by rw [he7 i hi, hb7 i (by omega), up_ne (by omega)], hRe, ?_⟩
      refine rn_go 80 (by with_unfolding_all rfl) ?_
      refine rn_br (by with_unfolding_all rfl) (fun c_ => absurd c_ ((show ¬ nI 16 ≤ nI j from nI_ge (by omega) (by omega)))) (fun _ => ?_)
      refine rn_go 80 (by with_unfolding_all rfl) ?_
      refine rn_br (by with_unfolding_all rfl) (fun _ => ?_) (fun c_ => absurd (c1) c_)
      refine rn_go 80 (by with_unfolding_all rfl) ?_
      refine rn_st (depth) (by with_unfolding_all rfl) rfl (by omega) (by decide) ?_
      refine rn_hp (by with_unfolding_all exact (wA_7)) ?_
      rw [r3_7, a3_7]
      refine rn_go 80 (by with_unfolding_all rfl) ?_
      refine rn_cl (by with_unfolding_all rfl) (ev_up (by omega) (hpass)) ?_
      refine rn_go 80 (by with_unfolding_all rfl) ?_
      refine rn_cl (by with_unfolding_all rfl) (ev_up (by omega) (hchild)) ?_
      refine rn_go 80 (by with_unfolding_all rfl) ?_
      refine rn_cl (by with_unfolding_all rfl) (ev_up (by omega) (hback)) ?_
      refine rn_to 57 80 (by with_unfolding_all rfl) ?_
      with_unfolding_all exact ih
    · have ev : vf n mo (m + 1) (k + 1) (dy0 + depth) x c p j s = s := by
        unfold vf
        rw [if_neg c1]
      rw [ev]
      obtain ⟨d6, e6, e7, e8, he6, he7, hRe, ih⟩ := x5_tryL hP h0 hm hdep hX hdy hc q (j + 1) (by omega) g a6 a7 a8 d4 s o h7 h8 hs5 hp hR h6
      rw [← nI_1] at ih
      refine ⟨d6, e6, e7, e8, he6, he7, hRe, ?_⟩
      refine rn_go 80 (by with_unfolding_all rfl) ?_
      refine rn_br (by with_unfolding_all rfl) (fun c_ => absurd c_ ((show ¬ nI 16 ≤ nI j from nI_ge (by omega) (by omega)))) (fun _ => ?_)
      refine rn_go 80 (by with_unfolding_all rfl) ?_
      refine rn_br (by with_unfolding_all rfl) (fun c_ => absurd c_ (c1)) (fun _ => ?_)
      refine rn_to 57 80 (by with_unfolding_all rfl) ?_
      with_unfolding_all exact ih
set_option maxRecDepth 10000 in
theorem x5_try (h0 : T 0 3 = nI dy0) (hm : m < 4) : ∀ k, PT gm T A Am n mo m dy0 k
  | 0 => by
    intro depth c x p g a6 a7 a8 d4 s hdep hX hdy h7 h8 hs5 hc hp hR
    have e : nI c + g 7 - nI depth = nI (c + (0 + 1)) := by rw [h7, nI_add, pk_sub (by omega), show c + (m + 1) - depth = c + (0 + 1) by omega]
    by_cases hpr : c + (0 + 1) + 1 ≤ s.1
    · rw [vis_P (0 + 1) _ _ _ _ _ hpr]
      refine ⟨d4, a6, a7, a8, fun _ _ => rfl, fun _ _ => rfl, hR, ?_⟩
      rw [← h8, up_id]
      refine rn_ev am_m_X5_tryDay rfl rfl ?_
      refine rn_go 80 (by with_unfolding_all rfl) ?_
      refine rn_br (by with_unfolding_all rfl) (fun c_ => absurd c_ ((by rw [h7]; exact nI_ge (show depth < m + 1 by omega) (by omega)))) (fun _ => ?_)
      refine rn_go 80 (by with_unfolding_all rfl) ?_
      refine rn_br (by with_unfolding_all rfl) (fun c_ => absurd c_ ((by rw [h8, e]; exact fun q => (mI_lt (by omega) (by omega)).mp q hpr))) (fun _ => ?_)
      refine rn_go 80 (by with_unfolding_all rfl) ?_
      exact rn_rt (by with_unfolding_all rfl) trivial rfl rfl
    have able := xk_able (g := g) (T := T) (A := (tu (tu (tu A 6 a6) 7 a7) 8 a8)) (gm := gm) (Am := Am) (nz_ox (c := d4) hX)
    rw [ta4] at able
    have hdm : depth = m := by omega
    subst hdm
    obtain ⟨a8', hR', hcl⟩ := x5_close (g := g) (T := T) (A := A) (gm := gm) (Am := Am) (a6 := a6) (a7 := a7) (a8 := a8) (d4 := d4) (c := c) hX h7 h8 hs5 (by omega) hm hp hR (by omega)
    refine ⟨d4, a6, a7, a8', fun _ _ => rfl, fun _ _ => rfl, hR', ?_⟩
    refine rn_ev am_m_X5_tryDay rfl rfl ?_
    refine rn_go 80 (by with_unfolding_all rfl) ?_
    refine rn_br (by with_unfolding_all rfl) (fun c_ => absurd c_ ((by rw [h7]; exact nI_ge (show depth < depth + 1 by omega) (by omega)))) (fun _ => ?_)
    refine rn_go 80 (by with_unfolding_all rfl) ?_
    refine rn_br (by with_unfolding_all rfl) (fun _ => ?_) (fun c_ => absurd ((by rw [h8, e]; exact (mI_lt (by omega) (by omega)).mpr hpr)) c_)
    refine rn_go 80 (by with_unfolding_all rfl) ?_
    refine rn_cl (by with_unfolding_all rfl) (ev_up (by decide) (able)) ?_
    refine rn_go 80 (by with_unfolding_all rfl) ?_
    refine rn_br (by with_unfolding_all rfl) (fun _ => ?_) (fun c_ => absurd ((by rw [h7, nI_pred])) c_)
    refine rn_go 80 (by with_unfolding_all rfl) ?_
    refine rn_cl (by with_unfolding_all rfl) (ev_up (by decide) (hcl)) ?_
    refine rn_go 80 (by with_unfolding_all rfl) ?_
    exact rn_rt (by with_unfolding_all rfl) trivial rfl rfl
  | k + 1 => by
    intro depth c x p g a6 a7 a8 d4 s hdep hX hdy h7 h8 hs5 hc hp hR
    have e : nI c + g 7 - nI depth = nI (c + ((k + 1) + 1)) := by rw [h7, nI_add, pk_sub (by omega), show c + (m + 1) - depth = c + ((k + 1) + 1) by omega]
    by_cases hpr : c + ((k + 1) + 1) + 1 ≤ s.1
    · rw [vis_P ((k + 1) + 1) _ _ _ _ _ hpr]
      refine ⟨d4, a6, a7, a8, fun _ _ => rfl, fun _ _ => rfl, hR, ?_⟩
      rw [← h8, up_id]
      refine rn_ev am_m_X5_tryDay rfl rfl ?_
      refine rn_go 80 (by with_unfolding_all rfl) ?_
      refine rn_br (by with_unfolding_all rfl) (fun c_ => absurd c_ ((by rw [h7]; exact nI_ge (show depth < m + 1 by omega) (by omega)))) (fun _ => ?_)
      refine rn_go 80 (by with_unfolding_all rfl) ?_
      refine rn_br (by with_unfolding_all rfl) (fun c_ => absurd c_ ((by rw [h8, e]; exact fun q => (mI_lt (by omega) (by omega)).mp q hpr))) (fun _ => ?_)
      refine rn_go 80 (by with_unfolding_all rfl) ?_
      exact rn_rt (by with_unfolding_all rfl) trivial rfl rfl
    have able := xk_able (g := g) (T := T) (A := (tu (tu (tu A 6 a6) 7 a7) 8 a8)) (gm := gm) (Am := Am) (nz_ox (c := d4) hX)
    rw [ta4] at able
    have hP := x5_try h0 hm k
    have h4 := hX.2.2.1
    have hk := x5_keep (g := g) (T := T) (A := A) (gm := gm) (Am := Am) (depth := depth) (y := upd x 4 d4) (a6 := a6) (a7 := a7) (a8 := a8) (by omega)
    obtain ⟨d6, e6, e7, e8, he6, he7, hRe, ih⟩ := x5_tryL hP h0 hm hdep hX hdy hc 16 0 (by omega) g (va_cpy (wa (upd x 4 d4) 13) a6 0 (4 * depth) 4) a7 a8 d4 s none h7 h8 hs5 hp hR (fun i hi => by rw [pk_cpy_in (by omega) (by omega), Nat.zero_add, Nat.add_sub_cancel_left, wa_at hi, up_ne (by omega)])
    refine ⟨d6, e6, e7, e8, fun i hi => by rw [he6 i hi, pk_cpy_out (by omega)], he7, hRe, ?_⟩
    refine rn_ev am_m_X5_tryDay rfl rfl ?_
    refine rn_go 80 (by with_unfolding_all rfl) ?_
    refine rn_br (by with_unfolding_all rfl) (fun c_ => absurd c_ ((by rw [h7]; exact nI_ge (show depth < m + 1 by omega) (by omega)))) (fun _ => ?_)
    refine rn_go 80 (by with_unfolding_all rfl) ?_
    refine rn_br (by with_unfolding_all rfl) (fun _ => ?_) (fun c_ => absurd ((by rw [h8, e]; exact (mI_lt (by omega) (by omega)).mpr hpr)) c_)
    refine rn_go 80 (by with_unfolding_all rfl) ?_
    refine rn_cl (by with_unfolding_all rfl) (ev_up (by omega) (able)) ?_
    refine rn_go 80 (by with_unfolding_all rfl) ?_
    refine rn_br (by with_unfolding_all rfl) (fun c_ => absurd c_ ((by rw [h7, nI_pred]; exact fun q => absurd ((nI_eq (by omega) (by omega)).mp q) (by omega)))) (fun _ => ?_)
    refine rn_go 80 (by with_unfolding_all rfl) ?_
    refine rn_cl (by with_unfolding_all rfl) (ev_up (by omega) (hk)) ?_
    refine rn_to 57 80 (by with_unfolding_all rfl) ?_
    with_unfolding_all exact ih
end
def plS (n mo dy : Nat) (x : Nat → Int32) (nd : Nat) : Nat × (Nat → Int32) := vis n mo nd nd dy x 0 (fun _ => 0) (0, fun _ => 0)
def sPlan (z : Int32) (x : Nat → Int32) (n mo dy : Nat) (q k : Int32) : Int32 := if z = 0 then -1000002 else if (q < 1 ∨ ¬ q ≤ 4 ∨ k < -1 ∨ ¬ k ≤ 3) then -1000001 else if q ≤ k then -1000000 else if 0 ≤ k then (plS n mo dy x q.toNatClampNeg).2 k.toNatClampNeg else mI (plS n mo dy x q.toNatClampNeg).1
section
variable {g gm : Nat → Int32} {T A Am : Nat → Nat → Int32} {n mo dy : Nat}
set_option maxRecDepth 10000 in
theorem a3_id : tu (tu (tu A 6 (A 6)) 7 (A 7)) 8 (A 8) = A := by rw [tu_id, tu_id, tu_id]
set_option maxRecDepth 10000 in
theorem x8_plan (hb : g 11 = 0 ∨ g 11 = 1) (hX : g 11 = 0 ∨ okX (T 0) n mo dy) (hdy : dy ≤ 999) (q K : Int32) : ∃ g' t' a6 a7 a8, (∀ k, k ≠ 12 → k ≠ 7 → k ≠ 8 → g' k = g k) ∧ am_ev 12 110 [.ref 0, .int q, .int K] (wd g T A gm Am) (some (.int (sPlan (g 11) (T 0) n mo dy q K))) (wd g' (tu T 1 t') (tu (tu (tu A 6 a6) 7 a7) 8 a8) gm Am) := by
  unfold sPlan
  by_cases q1 : g 11 = 0
  · rw [if_pos q1]
    refine ⟨g, T 1, A 6, A 7, A 8, fun _ _ _ _ => rfl, ?_⟩
    rw [a3_id, tu_id]
    refine rn_ev am_m_X8_plan rfl rfl ?_
    refine rn_go 80 (by with_unfolding_all rfl) ?_
    refine rn_br (by with_unfolding_all rfl) (fun _ => ?_) (fun c_ => absurd (q1) c_)
    refine rn_go 80 (by with_unfolding_all rfl) ?_
    exact rn_rt (by with_unfolding_all rfl) trivial rfl rfl
  rw [if_neg q1]
  have hX := hX.resolve_left q1
  by_cases hq : (q < 1 ∨ ¬ q ≤ 4 ∨ K < -1 ∨ ¬ K ≤ 3)
  · rw [if_pos hq]
    refine ⟨g, T 1, A 6, A 7, A 8, fun _ _ _ _ => rfl, ?_⟩
    rw [a3_id, tu_id]
    refine rn_ev am_m_X8_plan rfl rfl ?_
    refine rn_go 80 (by with_unfolding_all rfl) ?_
    refine rn_br (by with_unfolding_all rfl) (fun c_ => absurd c_ (q1)) (fun _ => ?_)
    refine rn_go 80 (by with_unfolding_all rfl) ?_
    refine rn_br (by with_unfolding_all rfl) (fun c1 => ?_) (fun c1 => ?_)
    · refine rn_go 80 (by with_unfolding_all rfl) ?_
      exact rn_rt (by with_unfolding_all rfl) trivial rfl rfl
    refine rn_go 80 (by with_unfolding_all rfl) ?_
    refine rn_br (by with_unfolding_all rfl) (fun c2 => ?_) (fun c2 => ?_)
    · refine rn_go 80 (by with_unfolding_all rfl) ?_
      exact rn_rt (by with_unfolding_all rfl) trivial rfl rfl
    refine rn_go 80 (by with_unfolding_all rfl) ?_
    refine rn_cl (by with_unfolding_all rfl) (ev_up (by decide) (x8_isPick K)) ?_
    refine rn_go 80 (by with_unfolding_all rfl) ?_
    refine rn_br (by with_unfolding_all rfl) (fun c5 => ?_) (fun c5 => ?_)
    · refine rn_go 80 (by with_unfolding_all rfl) ?_
      exact rn_rt (by with_unfolding_all rfl) trivial rfl rfl
    exfalso
    have c5 := btw_f c5
    rcases hq with e | e | e | e
    · exact c1 e
    · exact c2 (Int32.not_le.mp e)
    · exact c5.1 e
    · exact e c5.2
  rw [if_neg hq]
  have q2 : ¬ q < 1 := fun e => hq (Or.inl e)
  have q3 : q ≤ 4 := Classical.not_not.mp (fun e => hq (Or.inr (Or.inl e)))
  have q4 : ¬ K < -1 := fun e => hq (Or.inr (Or.inr (Or.inl e)))
  have q5 : K ≤ 3 := Classical.not_not.mp (fun e => hq (Or.inr (Or.inr (Or.inr e))))
  obtain ⟨nd, hnd1, hnd4, rfl⟩ := ge1 (m := 4) (by decide) q2 q3
  by_cases q6 : nI nd ≤ K
  · rw [if_pos q6]
    refine ⟨g, T 1, A 6, A 7, A 8, fun _ _ _ _ => rfl, ?_⟩
    rw [a3_id, tu_id]
    have key : am_ev 8 59 [.ref 36, .int (nI nd), .int K] (wd g T A gm Am) (some (.int (-1000000))) (wd g T A gm Am) := by
      refine rn_ev am_m_X5_bestDays rfl rfl ?_
      refine rn_go 80 (by with_unfolding_all rfl) ?_
      refine rn_br (by with_unfolding_all rfl) (fun c_ => absurd c_ (Int32.not_lt.mpr q6)) (fun _ => ?_)
      refine rn_go 80 (by with_unfolding_all rfl) ?_
      exact rn_rt (by with_unfolding_all rfl) trivial rfl rfl
    refine rn_ev am_m_X8_plan rfl rfl ?_
    refine rn_go 80 (by with_unfolding_all rfl) ?_
    refine rn_br (by with_unfolding_all rfl) (fun c_ => absurd c_ (q1)) (fun _ => ?_)
    refine rn_go 80 (by with_unfolding_all rfl) ?_
    refine rn_br (by with_unfolding_all rfl) (fun c_ => absurd c_ (q2)) (fun _ => ?_)
    refine rn_go 80 (by with_unfolding_all rfl) ?_
    refine rn_br (by with_unfolding_all rfl) (fun c_ => absurd c_ (Int32.not_lt.mpr q3)) (fun _ => ?_)
    refine rn_go 80 (by with_unfolding_all rfl) ?_
    refine rn_cl (by with_unfolding_all rfl) (ev_up (by decide) (x8_isPick K)) ?_
    refine rn_go 80 (by with_unfolding_all rfl) ?_
    refine rn_br (by with_unfolding_all rfl) (fun c_ => absurd c_ (btw_t q4 q5)) (fun _ => ?_)
    refine rn_go 80 (by with_unfolding_all rfl) ?_
    refine rn_cl (by with_unfolding_all rfl) (ev_up (by decide) (key)) ?_
    refine rn_go 80 (by with_unfolding_all rfl) ?_
    exact rn_rt (by with_unfolding_all rfl) trivial rfl rfl
  rw [if_neg q6, nI_clamp (show nd < 2 ^ 31 by omega)]
  obtain ⟨m, rfl⟩ : ∃ m, nd = m + 1 := ⟨nd - 1, by omega⟩
  have hm : m < 4 := by omega
  obtain ⟨d4, a6, a7, a8, -, -, hR, htry⟩ := x5_try (gm := gm) (T := T) (A := A) (Am := Am) (n := n) (mo := mo) (m := m) (dy0 := dy) hX.2.2.2.2.2.2.1 hm m 0 0 (T 0) (fun _ => 0) (upd (upd (upd g 12 (g 11)) 7 (nI (m + 1))) 8 (-1)) (A 6) (A 7) (A 8) (T 0 4) (0, fun _ => 0) (by omega) hX (by omega) (by rw [up_ne (by decide), up_eq]) up_eq (by decide) (by omega) (fun i hi => absurd hi (by omega)) (Or.inl rfl)
  rw [up_id, a3_id, up_up] at htry
  have hpl : vis n mo (m + 1) (m + 1) (dy + 0) (T 0) 0 (fun _ => 0) (0, fun _ => 0) = plS n mo dy (T 0) (m + 1) := rfl
  rw [hpl] at htry hR
  have hge := vis_1 (n := n) (mo := mo) (nd := m + 1) (m + 1) (dy + 0) (T 0) 0 (fun _ => 0) (0, fun _ => 0)
  rw [hpl] at hge
  have hR := hR.resolve_left (by omega)
  refine ⟨upd (upd (upd g 12 (g 11)) 7 (nI (m + 1))) 8 (mI (plS n mo dy (T 0) (m + 1)).1), upd (T 0) 4 d4, a6, a7, a8, fun k h1 h2 h3 => by rw [up_ne h3, up_ne h2, up_ne h1], ?_⟩
  have key : am_ev 11 59 [.ref 36, .int (nI (m + 1)), .int K] (wd g T A gm Am) (some (.int (if 0 ≤ K then (plS n mo dy (T 0) (m + 1)).2 K.toNatClampNeg else mI (plS n mo dy (T 0) (m + 1)).1))) (wd (upd (upd (upd g 12 (g 11)) 7 (nI (m + 1))) 8 (mI (plS n mo dy (T 0) (m + 1)).1)) (tu T 1 (upd (T 0) 4 d4)) (tu (tu (tu A 6 a6) 7 a7) 8 a8) gm Am) := by
    refine rn_ev am_m_X5_bestDays rfl rfl ?_
    refine rn_go 80 (by with_unfolding_all rfl) ?_
    refine rn_br (by with_unfolding_all rfl) (fun _ => ?_) (fun c_ => absurd (Int32.not_le.mp q6) c_)
    refine rn_go 80 (by with_unfolding_all rfl) ?_
    refine rn_cl (by with_unfolding_all rfl) (ev_up (by decide) (xh_become_1_0 hb)) ?_
    refine rn_to 24 80 (by with_unfolding_all rfl) ?_
    refine rn_hp (by with_unfolding_all exact (wG_7)) ?_
    refine rn_to 29 80 (by with_unfolding_all rfl) ?_
    refine rn_hp (by with_unfolding_all exact (wG_8)) ?_
    refine rn_go 80 (by with_unfolding_all rfl) ?_
    refine rn_cl (by with_unfolding_all rfl) (ev_up (by omega) (htry)) ?_
    refine rn_go 80 (by with_unfolding_all rfl) ?_
    refine rn_br (by with_unfolding_all rfl) (fun c => ?_) (fun c => ?_)
    · rw [if_pos c]
      obtain ⟨j, hj, rfl⟩ := le_of40 (m := 3) (by decide) (Int32.not_lt.mpr c) q5
      have hjm : j < m + 1 := Nat.lt_of_not_le (fun e => q6 (nI_le e (by omega)))
      rw [nI_clamp (show j < 2 ^ 31 by omega)]
      refine rn_go 80 (by with_unfolding_all rfl) ?_
      refine rn_ld (j) (by with_unfolding_all rfl) rfl (by omega) (by decide) ?_
      rw [tu_s, hR j hjm]
      refine rn_go 80 (by with_unfolding_all rfl) ?_
      exact rn_rt (by with_unfolding_all rfl) trivial rfl rfl
    · rw [if_neg c]
      refine rn_go 80 (by with_unfolding_all rfl) ?_
      exact rn_rt (by with_unfolding_all rfl) trivial rfl rfl
  refine rn_ev am_m_X8_plan rfl rfl ?_
  refine rn_go 80 (by with_unfolding_all rfl) ?_
  refine rn_br (by with_unfolding_all rfl) (fun c_ => absurd c_ (q1)) (fun _ => ?_)
  refine rn_go 80 (by with_unfolding_all rfl) ?_
  refine rn_br (by with_unfolding_all rfl) (fun c_ => absurd c_ (q2)) (fun _ => ?_)
  refine rn_go 80 (by with_unfolding_all rfl) ?_
  refine rn_br (by with_unfolding_all rfl) (fun c_ => absurd c_ (Int32.not_lt.mpr q3)) (fun _ => ?_)
  refine rn_go 80 (by with_unfolding_all rfl) ?_
  refine rn_cl (by with_unfolding_all rfl) (ev_up (by decide) (x8_isPick K)) ?_
  refine rn_go 80 (by with_unfolding_all rfl) ?_
  refine rn_br (by with_unfolding_all rfl) (fun c_ => absurd c_ (btw_t q4 q5)) (fun _ => ?_)
  refine rn_go 80 (by with_unfolding_all rfl) ?_
  refine rn_cl (by with_unfolding_all rfl) (ev_up (by decide) (key)) ?_
  refine rn_go 80 (by with_unfolding_all rfl) ?_
  exact rn_rt (by with_unfolding_all rfl) trivial rfl rfl
end

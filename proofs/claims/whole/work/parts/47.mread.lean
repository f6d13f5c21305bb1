/-! the reference's reading: letters, numbers -/
def rd (gm : Nat → Int32) (p : Nat) (w x : Int32) : Nat → Int32 := upd (upd (upd gm 6 (nI p)) 7 w) 8 x
section
variable {gm : Nat → Int32} {p p' : Nat} {w x w' x' : Int32}
set_option maxRecDepth 10000 in
theorem rd_6 : rd gm p w x 6 = nI p := by
  unfold rd
  rw [up_ne (by decide), up_ne (by decide), up_eq]
set_option maxRecDepth 10000 in
theorem rd_7 : rd gm p w x 7 = w := by
  unfold rd
  rw [up_ne (by decide), up_eq]
set_option maxRecDepth 10000 in
theorem rd_8 : rd gm p w x 8 = x := up_eq
set_option maxRecDepth 10000 in
theorem rd_ne {k : Nat} (h6 : k ≠ 6) (h7 : k ≠ 7) (h8 : k ≠ 8) : rd gm p w x k = gm k := by
  unfold rd
  rw [up_ne h8, up_ne h7, up_ne h6]
set_option maxRecDepth 10000 in
theorem rd_u6 : upd (rd gm p w x) 6 (nI p') = rd gm p' w x := by
  unfold rd
  rw [up_comm (show 8 ≠ 6 by decide), up_comm (show 7 ≠ 6 by decide), up_up]
set_option maxRecDepth 10000 in
theorem rd_u7 : upd (rd gm p w x) 7 w' = rd gm p w' x := by
  unfold rd
  rw [up_comm (show 8 ≠ 7 by decide), up_up]
set_option maxRecDepth 10000 in
theorem rd_u8 : upd (rd gm p w x) 8 x' = rd gm p w x' := by
  unfold rd
  rw [up_up]
set_option maxRecDepth 10000 in
theorem rd_ini : upd gm 6 (nI p) = rd gm p (gm 7) (gm 8) := by
  funext k
  by_cases h6 : k = 6
  · subst h6
    rw [rd_6, up_eq]
  by_cases h7 : k = 7
  · subst h7
    rw [rd_7, up_ne (by decide)]
  by_cases h8 : k = 8
  · subst h8
    rw [rd_8, up_ne (by decide)]
  rw [rd_ne h6 h7 h8, up_ne h6]
end
section
variable {f : Nat → Int32} {len : Nat} {e p : Nat} {c lo hi : Int32}
set_option maxRecDepth 10000 in
theorem tk_y (h : ltr f len p = c) : tkE f len c 0 p = 0 ∧ tkP f len c 0 p = p + 1 := by
  unfold tkE tkP
  rw [if_pos rfl, if_pos rfl, if_pos h, if_pos h]
  exact ⟨rfl, rfl⟩
set_option maxRecDepth 10000 in
theorem tk_n (h : ¬ ltr f len p = c) : tkE f len c 0 p = 1 ∧ tkP f len c 0 p = p := by
  unfold tkE tkP
  rw [if_pos rfl, if_pos rfl, if_neg h, if_neg h]
  exact ⟨rfl, rfl⟩
set_option maxRecDepth 10000 in
theorem tk_e (h : ¬ e = 0) : tkE f len c e p = e ∧ tkP f len c e p = p := by
  unfold tkE tkP
  rw [if_neg h, if_neg h]
  exact ⟨rfl, rfl⟩
set_option maxRecDepth 10000 in
theorem nm_er (h : ¬ e = 0) : nm f len lo hi e p = (e, p, 0) := by
  unfold nm
  rw [if_neg h]
set_option maxRecDepth 10000 in
theorem rg_y {v : Int32} {k : Nat} (h1 : ¬ v < lo) (h2 : v ≤ hi) : rg lo hi v p k = (0, p + k, v) := by
  unfold rg
  rw [if_neg h1, if_pos h2]
set_option maxRecDepth 10000 in
theorem rg_n {v : Int32} {k : Nat} (h : v < lo ∨ ¬ v ≤ hi) : rg lo hi v p k = (2, p, 0) := by
  unfold rg
  by_cases h1 : v < lo
  · rw [if_pos h1]
  · rw [if_neg h1, if_neg (h.resolve_left h1)]
set_option maxRecDepth 10000 in
theorem btw_y {v : Int32} (h1 : ¬ v < lo) (h2 : v ≤ hi) : btw v lo hi = 1 := by
  unfold btw
  rw [if_neg h1, if_neg (Int32.not_lt.mpr h2)]
set_option maxRecDepth 10000 in
theorem btw_no {v : Int32} (h : v < lo ∨ ¬ v ≤ hi) : btw v lo hi = 0 := by
  unfold btw
  by_cases h1 : v < lo
  · rw [if_pos h1]
  · rw [if_neg h1, if_pos (Int32.not_le.mp (h.resolve_left h1))]
set_option maxRecDepth 10000 in
theorem fg_btw {i : Nat} (h : i < len) : btw (f i) 48 57 = if fgB f len i = true then 1 else 0 := by
  have h1 := isf_fg (f := f) (len := len) i
  rw [ltr_in h] at h1
  exact h1
end
section
variable {g gm : Nat → Int32} {T A Am : Nat → Nat → Int32} {len p : Nat} {w x : Int32}
set_option maxRecDepth 10000 in
theorem xm_isLetter (hl : gm 2 = nI len) (h100 : len ≤ 100) (hp : p ≤ len) (c : Int32) (hc : ¬ c = -1) : am_ev 1 151 [.ref 43, .int c] (wd g T A (rd gm p w x) Am) (some (.int (if ltr (Am 5) len p = c then 1 else 0))) (wd g T A (rd gm p w x) Am) := by
  have hl' : rd gm p w x 2 = nI len := by rw [rd_ne (by decide) (by decide) (by decide)]; exact hl
  refine rn_ev am_m_X9_isLetter rfl rfl ?_
  refine rn_go 80 (by with_unfolding_all rfl) ?_
  by_cases q : p < len
  · refine rn_br (by with_unfolding_all rfl) (fun c_ => absurd c_ ((by rw [rd_6, hl']; exact nI_ge q (by omega)))) (fun _ => ?_)
    refine rn_go 80 (by with_unfolding_all rfl) ?_
    refine rn_ld (p) (by with_unfolding_all rfl) rd_6 (by omega) (by decide) ?_
    refine rn_go 80 (by with_unfolding_all rfl) ?_
    rw [ltr_in q]
    by_cases h : Am 5 p = c
    · refine rn_br (by with_unfolding_all rfl) (fun _ => ?_) (fun c_ => absurd (h) c_)
      refine rn_go 80 (by with_unfolding_all rfl) ?_
      exact rn_rt (by with_unfolding_all rfl) (Or.inr rfl) (by rw [if_pos h]) (rfl)
    · refine rn_br (by with_unfolding_all rfl) (fun c_ => absurd c_ (h)) (fun _ => ?_)
      refine rn_go 80 (by with_unfolding_all rfl) ?_
      exact rn_rt (by with_unfolding_all rfl) (Or.inl rfl) (by rw [if_neg h]) (rfl)
  · refine rn_br (by with_unfolding_all rfl) (fun _ => ?_) (fun c_ => absurd ((by rw [rd_6, hl']; exact nI_le (by omega) (by omega))) c_)
    refine rn_go 80 (by with_unfolding_all rfl) ?_
    exact rn_rt (by with_unfolding_all rfl) (Or.inl rfl) (by rw [ltr_out (by omega), if_neg (fun h => hc h.symm)]) (rfl)
set_option maxRecDepth 10000 in
theorem xm_isFigure {i : Nat} (hl : gm 2 = nI len) (h100 : len ≤ 100) (hi : i < 1000) : am_ev 2 152 [.ref 43, .int (nI i)] (wd g T A gm Am) (some (.int (if fgB (Am 5) len i = true then 1 else 0))) (wd g T A gm Am) := by
  refine rn_ev am_m_X9_isFigure rfl rfl ?_
  refine rn_go 80 (by with_unfolding_all rfl) ?_
  by_cases q : i < len
  · refine rn_br (by with_unfolding_all rfl) (fun c_ => absurd c_ ((by rw [hl]; exact nI_ge q (by omega)))) (fun _ => ?_)
    refine rn_go 80 (by with_unfolding_all rfl) ?_
    refine rn_ld (i) (by with_unfolding_all rfl) rfl (by omega) (by decide) ?_
    refine rn_go 80 (by with_unfolding_all rfl) ?_
    refine rn_cl (by with_unfolding_all rfl) (ev_up (by decide) (xm_in _ _ _)) ?_
    rw [inn_b (a := 48) (b := 57) (P := 48) (Q := 57) (by decide) (by decide), fg_btw q]
    refine rn_go 80 (by with_unfolding_all rfl) ?_
    by_cases h : fgB (Am 5) len i = true
    · rw [if_pos h]
      refine rn_br (by with_unfolding_all rfl) (fun c_ => absurd c_ ((by decide))) (fun _ => ?_)
      refine rn_go 80 (by with_unfolding_all rfl) ?_
      exact rn_rt (by with_unfolding_all rfl) (Or.inr rfl) (rfl) (rfl)
    · rw [if_neg h]
      refine rn_br (by with_unfolding_all rfl) (fun _ => ?_) (fun c_ => absurd (rfl) c_)
      refine rn_go 80 (by with_unfolding_all rfl) ?_
      exact rn_rt (by with_unfolding_all rfl) (Or.inl rfl) (rfl) (rfl)
  · refine rn_br (by with_unfolding_all rfl) (fun _ => ?_) (fun c_ => absurd ((by rw [hl]; exact nI_le (by omega) (by omega))) c_)
    refine rn_go 80 (by with_unfolding_all rfl) ?_
    exact rn_rt (by with_unfolding_all rfl) (Or.inl rfl) (by rw [fgB_out (by omega)]; rfl) (rfl)
set_option maxRecDepth 10000 in
theorem xm_refuse (k : Int32) : am_ev 1 153 [.ref 43, .int k] (wd g T A gm Am) (some (.int 0)) (wd g T A (upd gm 7 k) Am) := by
  refine rn_ev am_m_X9_refuse rfl rfl ?_
  refine rn_to 5 80 (by with_unfolding_all rfl) ?_
  refine rn_hp (by with_unfolding_all exact (wN_7)) ?_
  refine rn_go 80 (by with_unfolding_all rfl) ?_
  exact rn_rt (by with_unfolding_all rfl) (Or.inl rfl) (rfl) (rfl)
set_option maxRecDepth 10000 in
theorem xm_signY (hl : gm 2 = nI len) (h100 : len ≤ 100) (hp : p ≤ len) {c : Int32} (hc : ¬ c = -1) (h : ltr (Am 5) len p = c) : am_ev 2 154 [.ref 43, .int c] (wd g T A (rd gm p w x) Am) (some (.int 1)) (wd g T A (rd gm (p + 1) w x) Am) := by
  refine rn_ev am_m_X9_sign rfl rfl ?_
  refine rn_go 80 (by with_unfolding_all rfl) ?_
  refine rn_cl (by with_unfolding_all rfl) (ev_up (by decide) (xm_isLetter hl h100 hp c hc)) ?_
  rw [if_pos h]
  refine rn_go 80 (by with_unfolding_all rfl) ?_
  refine rn_br (by with_unfolding_all rfl) (fun c_ => absurd c_ ((by decide))) (fun _ => ?_)
  refine rn_to 24 80 (by with_unfolding_all rfl) ?_
  refine rn_hp (by with_unfolding_all exact (wN_6)) ?_
  rw [rd_6, nI_1, rd_u6]
  refine rn_go 80 (by with_unfolding_all rfl) ?_
  exact rn_rt (by with_unfolding_all rfl) (Or.inr rfl) (rfl) (rfl)
set_option maxRecDepth 10000 in
theorem xm_signN (hl : gm 2 = nI len) (h100 : len ≤ 100) (hp : p ≤ len) {c : Int32} (hc : ¬ c = -1) (h : ¬ ltr (Am 5) len p = c) : am_ev 2 154 [.ref 43, .int c] (wd g T A (rd gm p w x) Am) (some (.int 0)) (wd g T A (rd gm p (nI 1) x) Am) := by
  refine rn_ev am_m_X9_sign rfl rfl ?_
  refine rn_go 80 (by with_unfolding_all rfl) ?_
  refine rn_cl (by with_unfolding_all rfl) (ev_up (by decide) (xm_isLetter hl h100 hp c hc)) ?_
  rw [if_neg h]
  refine rn_go 80 (by with_unfolding_all rfl) ?_
  refine rn_br (by with_unfolding_all rfl) (fun _ => ?_) (fun c_ => absurd (rfl) c_)
  refine rn_go 80 (by with_unfolding_all rfl) ?_
  refine rn_cl (by with_unfolding_all rfl) (ev_up (by decide) (xm_refuse 1)) ?_
  rw [show (1 : Int32) = nI 1 from rfl, rd_u7]
  refine rn_go 80 (by with_unfolding_all rfl) ?_
  exact rn_rt (by with_unfolding_all rfl) (Or.inl rfl) (rfl) (rfl)
set_option maxRecDepth 10000 in
theorem xm_numE {v lo hi : Int32} {k : Nat} : (¬ v < lo → v ≤ hi → rn none 2 am_t_X9_readsNumber (116, [some (.ref 43), some (.int lo), some (.int hi), some (.int (nI k))], [], wd g T A (rd gm p w v) Am) (some (.int 1)) (wd g T A (rd gm (p + k) w v) Am)) ∧ ((v < lo ∨ ¬ v ≤ hi) → rn none 2 am_t_X9_readsNumber (116, [some (.ref 43), some (.int lo), some (.int hi), some (.int (nI k))], [], wd g T A (rd gm p w v) Am) (some (.int 0)) (wd g T A (rd gm p (nI 2) v) Am)) := by
  refine ⟨fun h1 h2 => ?_, fun h => ?_⟩
  · refine rn_go 80 (by with_unfolding_all rfl) ?_
    refine rn_cl (by with_unfolding_all rfl) (ev_up (by decide) (xm_in _ _ _)) ?_
    rw [rd_8, inn_b (a := lo) (b := hi) rfl rfl, btw_y h1 h2]
    refine rn_go 80 (by with_unfolding_all rfl) ?_
    refine rn_br (by with_unfolding_all rfl) (fun c_ => absurd c_ ((by decide))) (fun _ => ?_)
    refine rn_to 147 80 (by with_unfolding_all rfl) ?_
    refine rn_hp (by with_unfolding_all exact (wN_6)) ?_
    rw [rd_6, nI_add, rd_u6]
    refine rn_go 80 (by with_unfolding_all rfl) ?_
    exact rn_rt (by with_unfolding_all rfl) (Or.inr rfl) (rfl) (rfl)
  · refine rn_go 80 (by with_unfolding_all rfl) ?_
    refine rn_cl (by with_unfolding_all rfl) (ev_up (by decide) (xm_in _ _ _)) ?_
    rw [rd_8, inn_b (a := lo) (b := hi) rfl rfl, btw_no h]
    refine rn_go 80 (by with_unfolding_all rfl) ?_
    refine rn_br (by with_unfolding_all rfl) (fun _ => ?_) (fun c_ => absurd (rfl) c_)
    refine rn_go 80 (by with_unfolding_all rfl) ?_
    refine rn_cl (by with_unfolding_all rfl) (ev_up (by decide) (xm_refuse 2)) ?_
    rw [show (2 : Int32) = nI 2 from rfl, rd_u7]
    refine rn_go 80 (by with_unfolding_all rfl) ?_
    exact rn_rt (by with_unfolding_all rfl) (Or.inl rfl) (rfl) (rfl)
set_option maxRecDepth 10000 in
theorem xm_num1 (hl : gm 2 = nI len) (h100 : len ≤ 100) (lo hi : Int32) (h : fgB (Am 5) len p = false ∨ (fgB (Am 5) len p = true ∧ fgB (Am 5) len (p + 1) = true ∧ fgB (Am 5) len (p + 2) = true)) (hp : p ≤ len) : am_ev 3 155 [.ref 43, .int lo, .int hi] (wd g T A (rd gm p w x) Am) (some (.int 0)) (wd g T A (rd gm p (nI 1) x) Am) := by
  have hl' : rd gm p w x 2 = nI len := by rw [rd_ne (by decide) (by decide) (by decide)]; exact hl
  refine rn_ev am_m_X9_readsNumber rfl rfl ?_
  refine rn_go 80 (by with_unfolding_all rfl) ?_
  rw [rd_6]
  refine rn_cl (by with_unfolding_all rfl) (ev_up (by decide) (xm_isFigure hl' h100 (by omega))) ?_
  rcases h with h | ⟨h1, h2, h3⟩
  · rw [if_neg (by rw [h]; decide)]
    refine rn_go 80 (by with_unfolding_all rfl) ?_
    refine rn_br (by with_unfolding_all rfl) (fun _ => ?_) (fun c_ => absurd (rfl) c_)
    refine rn_go 80 (by with_unfolding_all rfl) ?_
    refine rn_cl (by with_unfolding_all rfl) (ev_up (by decide) (xm_refuse 1)) ?_
    rw [show (1 : Int32) = nI 1 from rfl, rd_u7]
    refine rn_go 80 (by with_unfolding_all rfl) ?_
    exact rn_rt (by with_unfolding_all rfl) (Or.inl rfl) (rfl) (rfl)
  · rw [if_pos h1]
    refine rn_go 80 (by with_unfolding_all rfl) ?_
    refine rn_br (by with_unfolding_all rfl) (fun c_ => absurd c_ ((by decide))) (fun _ => ?_)
    refine rn_go 80 (by with_unfolding_all rfl) ?_
    rw [rd_6, nI_1]
    refine rn_cl (by with_unfolding_all rfl) (ev_up (by decide) (xm_isFigure hl' h100 (by omega))) ?_
    rw [if_pos h2]
    refine rn_go 80 (by with_unfolding_all rfl) ?_
    refine rn_br (by with_unfolding_all rfl) (fun c_ => absurd c_ ((by decide))) (fun _ => ?_)
    refine rn_go 80 (by with_unfolding_all rfl) ?_
    rw [rd_6, show nI p + 2 = nI (p + 2) from nI_add p 2]
    refine rn_cl (by with_unfolding_all rfl) (ev_up (by decide) (xm_isFigure hl' h100 (by omega))) ?_
    rw [if_pos h3]
    refine rn_go 80 (by with_unfolding_all rfl) ?_
    refine rn_br (by with_unfolding_all rfl) (fun c_ => absurd c_ ((by decide))) (fun _ => ?_)
    refine rn_go 80 (by with_unfolding_all rfl) ?_
    refine rn_cl (by with_unfolding_all rfl) (ev_up (by decide) (xm_refuse 1)) ?_
    rw [show (1 : Int32) = nI 1 from rfl, rd_u7]
    refine rn_go 80 (by with_unfolding_all rfl) ?_
    exact rn_rt (by with_unfolding_all rfl) (Or.inl rfl) (rfl) (rfl)
set_option maxRecDepth 10000 in
theorem xm_num2 (hl : gm 2 = nI len) (h100 : len ≤ 100) (lo hi : Int32) (h1 : fgB (Am 5) len p = true) (h2 : fgB (Am 5) len (p + 1) = false) {v9 : Option Value} {h9 : am_H} (hr : rn none 2 am_t_X9_readsNumber (116, [some (.ref 43), some (.int lo), some (.int hi), some (.int (nI 1))], [], wd g T A (rd gm p w (Am 5 p - 48)) Am) v9 h9) : am_ev 3 155 [.ref 43, .int lo, .int hi] (wd g T A (rd gm p w x) Am) v9 h9 := by
  have hl' : ∀ x, rd gm p w x 2 = nI len := fun x => by rw [rd_ne (by decide) (by decide) (by decide)]; exact hl
  have l1 := fgB_len h1
  refine rn_ev am_m_X9_readsNumber rfl rfl ?_
  refine rn_go 80 (by with_unfolding_all rfl) ?_
  rw [rd_6]
  refine rn_cl (by with_unfolding_all rfl) (ev_up (by decide) (xm_isFigure (hl' _) h100 (by omega))) ?_
  rw [if_pos h1]
  refine rn_go 80 (by with_unfolding_all rfl) ?_
  refine rn_br (by with_unfolding_all rfl) (fun c_ => absurd c_ ((by decide))) (fun _ => ?_)
  refine rn_go 80 (by with_unfolding_all rfl) ?_
  rw [rd_6, nI_1]
  refine rn_cl (by with_unfolding_all rfl) (ev_up (by decide) (xm_isFigure (hl' _) h100 (by omega))) ?_
  rw [if_neg (by rw [h2]; decide)]
  refine rn_go 80 (by with_unfolding_all rfl) ?_
  refine rn_br (by with_unfolding_all rfl) (fun _ => ?_) (fun c_ => absurd (rfl) c_)
  refine rn_go 80 (by with_unfolding_all rfl) ?_
  refine rn_ld (p) (by with_unfolding_all rfl) rd_6 (by omega) (by decide) ?_
  refine rn_to 59 80 (by with_unfolding_all rfl) ?_
  refine rn_hp (by with_unfolding_all exact (wN_8)) ?_
  rw [rd_u8]
  refine rn_go 80 (by with_unfolding_all rfl) ?_
  rw [rd_6, nI_1]
  refine rn_cl (by with_unfolding_all rfl) (ev_up (by decide) (xm_isFigure (hl' _) h100 (by omega))) ?_
  rw [if_neg (by rw [h2]; decide)]
  refine rn_go 80 (by with_unfolding_all rfl) ?_
  refine rn_br (by with_unfolding_all rfl) (fun _ => ?_) (fun c_ => absurd (rfl) c_)
  refine rn_go 80 (by with_unfolding_all rfl) ?_
  refine rn_br (by with_unfolding_all rfl) (fun c_ => absurd c_ ((by decide))) (fun _ => ?_)
  refine rn_to 116 80 (by with_unfolding_all rfl) ?_
  refine rn_hp (by with_unfolding_all exact (wN_8)) ?_
  rw [rd_8, rd_u8]
  with_unfolding_all exact hr
set_option maxRecDepth 10000 in
theorem xm_num3 (hl : gm 2 = nI len) (h100 : len ≤ 100) (lo hi : Int32) (h1 : fgB (Am 5) len p = true) (h2 : fgB (Am 5) len (p + 1) = true) (h3 : fgB (Am 5) len (p + 2) = false) {v9 : Option Value} {h9 : am_H} (hr : rn none 2 am_t_X9_readsNumber (116, [some (.ref 43), some (.int lo), some (.int hi), some (.int (nI 2))], [], wd g T A (rd gm p w ((Am 5 p - 48) * 10 + Am 5 (p + 1) - 48)) Am) v9 h9) : am_ev 3 155 [.ref 43, .int lo, .int hi] (wd g T A (rd gm p w x) Am) v9 h9 := by
  have hl' : ∀ x, rd gm p w x 2 = nI len := fun x => by rw [rd_ne (by decide) (by decide) (by decide)]; exact hl
  have l1 := fgB_len h1
  have l2 := fgB_len h2
  refine rn_ev am_m_X9_readsNumber rfl rfl ?_
  refine rn_go 80 (by with_unfolding_all rfl) ?_
  rw [rd_6]
  refine rn_cl (by with_unfolding_all rfl) (ev_up (by decide) (xm_isFigure (hl' _) h100 (by omega))) ?_
  rw [if_pos h1]
  refine rn_go 80 (by with_unfolding_all rfl) ?_
  refine rn_br (by with_unfolding_all rfl) (fun c_ => absurd c_ ((by decide))) (fun _ => ?_)
  refine rn_go 80 (by with_unfolding_all rfl) ?_
  rw [rd_6, nI_1]
  refine rn_cl (by with_unfolding_all rfl) (ev_up (by decide) (xm_isFigure (hl' _) h100 (by omega))) ?_
  rw [if_pos h2]
  refine rn_go 80 (by with_unfolding_all rfl) ?_
  refine rn_br (by with_unfolding_all rfl) (fun c_ => absurd c_ ((by decide))) (fun _ => ?_)
  refine rn_go 80 (by with_unfolding_all rfl) ?_
  rw [rd_6, show nI p + 2 = nI (p + 2) from nI_add p 2]
  refine rn_cl (by with_unfolding_all rfl) (ev_up (by decide) (xm_isFigure (hl' _) h100 (by omega))) ?_
  rw [if_neg (by rw [h3]; decide)]
  refine rn_go 80 (by with_unfolding_all rfl) ?_
  refine rn_br (by with_unfolding_all rfl) (fun _ => ?_) (fun c_ => absurd (rfl) c_)
  refine rn_go 80 (by with_unfolding_all rfl) ?_
  refine rn_ld (p) (by with_unfolding_all rfl) rd_6 (by omega) (by decide) ?_
  refine rn_to 59 80 (by with_unfolding_all rfl) ?_
  refine rn_hp (by with_unfolding_all exact (wN_8)) ?_
  rw [rd_u8]
  refine rn_go 80 (by with_unfolding_all rfl) ?_
  rw [rd_6, nI_1]
  refine rn_cl (by with_unfolding_all rfl) (ev_up (by decide) (xm_isFigure (hl' _) h100 (by omega))) ?_
  rw [if_pos h2]
  refine rn_go 80 (by with_unfolding_all rfl) ?_
  refine rn_br (by with_unfolding_all rfl) (fun c_ => absurd c_ ((by decide))) (fun _ => ?_)
  refine rn_go 80 (by with_unfolding_all rfl) ?_
  refine rn_br (by with_unfolding_all rfl) (fun _ => ?_) (fun c_ => absurd (rfl) c_)
  refine rn_go 80 (by with_unfolding_all rfl) ?_
  refine rn_ld (p + 1) (by with_unfolding_all rfl) (by rw [rd_6, nI_1]) (by omega) (by decide) ?_
  refine rn_to 116 80 (by with_unfolding_all rfl) ?_
  refine rn_hp (by with_unfolding_all exact (wN_8)) ?_
  rw [rd_8, rd_u8, Int32.mul_comm]
  with_unfolding_all exact hr
set_option maxRecDepth 10000 in
theorem xm_number (hl : gm 2 = nI len) (h100 : len ≤ 100) (hp : p ≤ len) (lo hi : Int32) : ((nm (Am 5) len lo hi 0 p).1 = 0 → am_ev 3 155 [.ref 43, .int lo, .int hi] (wd g T A (rd gm p w x) Am) (some (.int 1)) (wd g T A (rd gm (nm (Am 5) len lo hi 0 p).2.1 w (nm (Am 5) len lo hi 0 p).2.2) Am)) ∧ (¬ (nm (Am 5) len lo hi 0 p).1 = 0 → ∃ x', am_ev 3 155 [.ref 43, .int lo, .int hi] (wd g T A (rd gm p w x) Am) (some (.int 0)) (wd g T A (rd gm (nm (Am 5) len lo hi 0 p).2.1 (nI (nm (Am 5) len lo hi 0 p).1) x') Am)) := by
  rw [show nm (Am 5) len lo hi 0 p = nmS (Am 5) len lo hi p from if_pos rfl]
  unfold nmS
  have nb : ∀ {b : Bool}, ¬ b = true → b = false := fun {b} h => by cases b; rfl; exact absurd rfl h
  by_cases h1 : fgB (Am 5) len p = true
  · rw [if_pos h1]
    by_cases h2 : fgB (Am 5) len (p + 1) = true
    · rw [if_pos h2]
      by_cases h3 : fgB (Am 5) len (p + 2) = true
      · rw [if_pos h3]
        exact ⟨fun h => (by cases h), fun _ => ⟨x, xm_num1 hl h100 lo hi (Or.inr ⟨h1, h2, h3⟩) hp⟩⟩
      · rw [if_neg h3]
        by_cases hq : ((Am 5 p - 48) * 10 + Am 5 (p + 1) - 48) < lo ∨ ¬ ((Am 5 p - 48) * 10 + Am 5 (p + 1) - 48) ≤ hi
        · rw [rg_n hq]
          exact ⟨fun h => (by cases h), fun _ => ⟨_, xm_num3 hl h100 lo hi h1 h2 (nb h3) (xm_numE.2 hq)⟩⟩
        · have q1 := fun h => hq (Or.inl h)
          have q2 : ((Am 5 p - 48) * 10 + Am 5 (p + 1) - 48) ≤ hi := Classical.byContradiction (fun h => hq (Or.inr h))
          rw [rg_y q1 q2]
          exact ⟨fun _ => xm_num3 hl h100 lo hi h1 h2 (nb h3) (xm_numE.1 q1 q2), fun h => absurd rfl h⟩
    · rw [if_neg h2]
      by_cases hq : (Am 5 p - 48) < lo ∨ ¬ (Am 5 p - 48) ≤ hi
      · rw [rg_n hq]
        exact ⟨fun h => (by cases h), fun _ => ⟨_, xm_num2 hl h100 lo hi h1 (nb h2) (xm_numE.2 hq)⟩⟩
      · have q1 := fun h => hq (Or.inl h)
        have q2 : (Am 5 p - 48) ≤ hi := Classical.byContradiction (fun h => hq (Or.inr h))
        rw [rg_y q1 q2]
        exact ⟨fun _ => xm_num2 hl h100 lo hi h1 (nb h2) (xm_numE.1 q1 q2), fun h => absurd rfl h⟩
  · rw [if_neg h1]
    exact ⟨fun h => (by cases h), fun _ => ⟨x, xm_num1 hl h100 lo hi (Or.inl (nb h1)) hp⟩⟩
end

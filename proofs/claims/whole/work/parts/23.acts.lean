/-! acts: the class's ring, the reference's pasts -/
def en (t : Nat → Int32) (k : Nat) : Int32 := if k = 0 then t 3 else if k = 1 then t 4 else if k < 6 then t (5 + (k - 2)) else t (13 + (k - 6))
def ekn (f : Nat → Int32) (b : Nat) (t : Nat → Int32) : Nat → Nat → Int32
  | 0 => f
  | k + 1 => upd (ekn f b t k) (b + k) (en t k)
def un (t e : Nat → Int32) : Nat → Int32 := upd (upd (upd (upd (upd (upd (upd (upd (upd (upd t 3 (e 0)) 4 (e 1)) 5 (e 2)) 6 (e 3)) 7 (e 4)) 8 (e 5)) 13 (e 6)) 14 (e 7)) 15 (e 8)) 16 (e 9)
def shk (r : Nat → Int32) (k : Nat) : Nat → Int32 := fun x => if 21 ≤ x ∧ x < 21 + k then r (x + 21) else r x
set_option maxRecDepth 10000 in
theorem shk_0 {r : Nat → Int32} : shk r 0 = r := by
  funext x
  unfold shk
  rw [if_neg (by omega)]
set_option maxRecDepth 10000 in
theorem shk_s {r : Nat → Int32} {k : Nat} : upd (shk r k) (21 + k) (r (42 + k)) = shk r (k + 1) := by
  funext x
  unfold upd shk
  by_cases h : x = 21 + k
  · subst h
    rw [if_pos rfl, if_pos ⟨by omega, by omega⟩, show 21 + k + 21 = 42 + k by omega]
  · rw [if_neg h]
    by_cases h2 : 21 ≤ x ∧ x < 21 + k
    · rw [if_pos h2, if_pos ⟨by omega, by omega⟩]
    · rw [if_neg h2, if_neg (by omega)]
section
variable {g gm : Nat → Int32} {T A Am : Nat → Nat → Int32} {h : am_H}
set_option maxRecDepth 10000 in
theorem x0_forget : am_ev 1 1 [.ref 32] (wd g T A gm Am) none (wd (upd (upd g 5 0) 6 0) T A gm Am) := by
  refine rn_ev am_m_X0_forget rfl rfl ?_
  refine rn_to 5 80 (by with_unfolding_all rfl) ?_
  refine rn_hp (by with_unfolding_all exact (wG_5)) ?_
  refine rn_to 10 80 (by with_unfolding_all rfl) ?_
  refine rn_hp (by with_unfolding_all exact (wG_6)) ?_
  refine rn_go 80 (by with_unfolding_all rfl) ?_
  exact rn_rt (by with_unfolding_all rfl) trivial rfl rfl
set_option maxRecDepth 10000 in
theorem x0_keep {nx kp : Nat} (hx : g 6 = nI nx) (hx24 : nx < 24) (hk : g 5 = nI kp) (hk24 : kp ≤ 24) : am_ev 1 2 [.ref 32, .ref 5] (wd g T A gm Am) none (wd (upd (upd g 6 (nI ((nx + 1) % 24))) 5 (nI (min 24 (kp + 1)))) T (tu A 4 (ekn (A 4) (10 * nx) (T 0) 10)) gm Am) := by
  have e0 : g 6 * 10 = nI (10 * nx) := by rw [hx, show (10 : Int32) = nI 10 from rfl, pk_mul, Nat.mul_comm]
  refine rn_ev am_m_X0_keep rfl rfl ?_
  refine rn_go 80 (by with_unfolding_all rfl) ?_
  refine rn_st (10 * nx + 0) (by with_unfolding_all rfl) (by rw [e0]; exact ix2 (10 * nx) 0) (by omega) (by decide) ?_
  refine rn_hp (by with_unfolding_all exact (wA_4)) ?_
  refine rn_go 80 (by with_unfolding_all rfl) ?_
  refine rn_st (10 * nx + 1) (by with_unfolding_all rfl) (by rw [e0]; exact ix2 (10 * nx) 1) (by omega) (by decide) ?_
  refine rn_hp (by with_unfolding_all exact (wA_4)) ?_
  rw [tu_tu, tu_s]
  refine rn_go 80 (by with_unfolding_all rfl) ?_
  refine rn_br (by with_unfolding_all rfl) (fun c => absurd c (by decide)) (fun c => ?_)
  refine rn_go 80 (by with_unfolding_all rfl) ?_
  refine rn_ld (0) (by with_unfolding_all rfl) (by decide) (by decide) (by decide) ?_
  rw [wa_at (by decide)]
  refine rn_go 80 (by with_unfolding_all rfl) ?_
  refine rn_st (10 * nx + 2) (by with_unfolding_all rfl) (by rw [e0]; exact ix3 (10 * nx) 0 2) (by omega) (by decide) ?_
  refine rn_hp (by with_unfolding_all exact (wA_4)) ?_
  rw [tu_tu, tu_s]
  refine rn_go 80 (by with_unfolding_all rfl) ?_
  refine rn_br (by with_unfolding_all rfl) (fun c => absurd c (by decide)) (fun c => ?_)
  refine rn_go 80 (by with_unfolding_all rfl) ?_
  refine rn_ld (1) (by with_unfolding_all rfl) (by decide) (by decide) (by decide) ?_
  rw [wa_at (by decide)]
  refine rn_go 80 (by with_unfolding_all rfl) ?_
  refine rn_st (10 * nx + 3) (by with_unfolding_all rfl) (by rw [e0]; exact ix3 (10 * nx) 1 2) (by omega) (by decide) ?_
  refine rn_hp (by with_unfolding_all exact (wA_4)) ?_
  rw [tu_tu, tu_s]
  refine rn_go 80 (by with_unfolding_all rfl) ?_
  refine rn_br (by with_unfolding_all rfl) (fun c => absurd c (by decide)) (fun c => ?_)
  refine rn_go 80 (by with_unfolding_all rfl) ?_
  refine rn_ld (2) (by with_unfolding_all rfl) (by decide) (by decide) (by decide) ?_
  rw [wa_at (by decide)]
  refine rn_go 80 (by with_unfolding_all rfl) ?_
  refine rn_st (10 * nx + 4) (by with_unfolding_all rfl) (by rw [e0]; exact ix3 (10 * nx) 2 2) (by omega) (by decide) ?_
  refine rn_hp (by with_unfolding_all exact (wA_4)) ?_
  rw [tu_tu, tu_s]
  refine rn_go 80 (by with_unfolding_all rfl) ?_
  refine rn_br (by with_unfolding_all rfl) (fun c => absurd c (by decide)) (fun c => ?_)
  refine rn_go 80 (by with_unfolding_all rfl) ?_
  refine rn_ld (3) (by with_unfolding_all rfl) (by decide) (by decide) (by decide) ?_
  rw [wa_at (by decide)]
  refine rn_go 80 (by with_unfolding_all rfl) ?_
  refine rn_st (10 * nx + 5) (by with_unfolding_all rfl) (by rw [e0]; exact ix3 (10 * nx) 3 2) (by omega) (by decide) ?_
  refine rn_hp (by with_unfolding_all exact (wA_4)) ?_
  rw [tu_tu, tu_s]
  refine rn_go 80 (by with_unfolding_all rfl) ?_
  refine rn_br (by with_unfolding_all rfl) (fun c => ?_) (fun c => absurd (by decide) c)
  refine rn_go 80 (by with_unfolding_all rfl) ?_
  refine rn_br (by with_unfolding_all rfl) (fun c => absurd c (by decide)) (fun c => ?_)
  refine rn_go 80 (by with_unfolding_all rfl) ?_
  refine rn_ld (0) (by with_unfolding_all rfl) (by decide) (by decide) (by decide) ?_
  rw [wa_at (by decide)]
  refine rn_go 80 (by with_unfolding_all rfl) ?_
  refine rn_st (10 * nx + 6) (by with_unfolding_all rfl) (by rw [e0]; exact ix3 (10 * nx) 0 6) (by omega) (by decide) ?_
  refine rn_hp (by with_unfolding_all exact (wA_4)) ?_
  rw [tu_tu, tu_s]
  refine rn_go 80 (by with_unfolding_all rfl) ?_
  refine rn_br (by with_unfolding_all rfl) (fun c => absurd c (by decide)) (fun c => ?_)
  refine rn_go 80 (by with_unfolding_all rfl) ?_
  refine rn_ld (1) (by with_unfolding_all rfl) (by decide) (by decide) (by decide) ?_
  rw [wa_at (by decide)]
  refine rn_go 80 (by with_unfolding_all rfl) ?_
  refine rn_st (10 * nx + 7) (by with_unfolding_all rfl) (by rw [e0]; exact ix3 (10 * nx) 1 6) (by omega) (by decide) ?_
  refine rn_hp (by with_unfolding_all exact (wA_4)) ?_
  rw [tu_tu, tu_s]
  refine rn_go 80 (by with_unfolding_all rfl) ?_
  refine rn_br (by with_unfolding_all rfl) (fun c => absurd c (by decide)) (fun c => ?_)
  refine rn_go 80 (by with_unfolding_all rfl) ?_
  refine rn_ld (2) (by with_unfolding_all rfl) (by decide) (by decide) (by decide) ?_
  rw [wa_at (by decide)]
  refine rn_go 80 (by with_unfolding_all rfl) ?_
  refine rn_st (10 * nx + 8) (by with_unfolding_all rfl) (by rw [e0]; exact ix3 (10 * nx) 2 6) (by omega) (by decide) ?_
  refine rn_hp (by with_unfolding_all exact (wA_4)) ?_
  rw [tu_tu, tu_s]
  refine rn_go 80 (by with_unfolding_all rfl) ?_
  refine rn_br (by with_unfolding_all rfl) (fun c => absurd c (by decide)) (fun c => ?_)
  refine rn_go 80 (by with_unfolding_all rfl) ?_
  refine rn_ld (3) (by with_unfolding_all rfl) (by decide) (by decide) (by decide) ?_
  rw [wa_at (by decide)]
  refine rn_go 80 (by with_unfolding_all rfl) ?_
  refine rn_st (10 * nx + 9) (by with_unfolding_all rfl) (by rw [e0]; exact ix3 (10 * nx) 3 6) (by omega) (by decide) ?_
  refine rn_hp (by with_unfolding_all exact (wA_4)) ?_
  rw [tu_tu, tu_s]
  refine rn_go 80 (by with_unfolding_all rfl) ?_
  refine rn_br (by with_unfolding_all rfl) (fun c => ?_) (fun c => absurd (by decide) c)
  refine rn_go 80 (by with_unfolding_all rfl) ?_
  refine rn_ck (by with_unfolding_all rfl) (by decide) ?_
  refine rn_to 104 80 (by with_unfolding_all rfl) ?_
  refine rn_hp (by with_unfolding_all exact (wG_6)) ?_
  refine rn_to 119 80 (by with_unfolding_all rfl) ?_
  refine rn_hp (by with_unfolding_all exact (wG_5)) ?_
  refine rn_go 80 (by with_unfolding_all rfl) ?_
  refine rn_rt (by with_unfolding_all rfl) trivial rfl ?_
  rw [show upd g 6 (g 6 + 1 - (g 6 + 1) / 24 * 24) 5 = nI kp from hk, hx, nI_1, show nI kp + 1 = nI (kp + 1) from nI_1 kp]
  rw [show nI (nx + 1) - nI (nx + 1) / 24 * 24 = nI ((nx + 1) % 24) from pk_rem (a := nx + 1) (d := 24) (by omega) (by decide) (by decide)]
  rw [show (if nI (kp + 1) < 24 then nI (kp + 1) else 24) = nI (min 24 (kp + 1)) by
    show (if nI (kp + 1) < nI 24 then nI (kp + 1) else nI 24) = nI (min 24 (kp + 1))
    by_cases q : kp + 1 < 24
    · rw [if_pos (show nI (kp + 1) < nI 24 from nI_lt q (by decide)), Nat.min_eq_right (by omega)]
    · rw [if_neg (show ¬ nI (kp + 1) < nI 24 from nI_nlt (by omega) (by omega)), Nat.min_eq_left (by omega)]]
  with_unfolding_all rfl
set_option maxRecDepth 10000 in
theorem x0_giveBack {nx kp : Nat} (hx : g 6 = nI nx) (hx24 : nx < 24) (hk : g 5 = nI (kp + 1)) (hk24 : kp < 24) : am_ev 1 3 [.ref 32, .ref 5] (wd g T A gm Am) none (wd (upd (upd g 5 (nI kp)) 6 (nI ((nx + 23) % 24))) (tu T 0 (un (T 0) (fun k => A 4 (10 * ((nx + 23) % 24) + k)))) A gm Am) := by
  have hy : (nx + 23) % 24 < 24 := Nat.mod_lt _ (by decide)
  have e0 : nI ((nx + 23) % 24) * 10 = nI (10 * ((nx + 23) % 24)) := by rw [show (10 : Int32) = nI 10 from rfl, pk_mul, Nat.mul_comm]
  have e1 : g 5 - 1 = nI kp := by rw [hk]; exact nI_pred kp
  have e2 : (g 6 + 24 - 1) - (g 6 + 24 - 1) / 24 * 24 = nI ((nx + 23) % 24) := by
    rw [hx, show nI nx + 24 - 1 = nI (nx + 23) by rw [show (24 : Int32) = nI 24 from rfl, nI_add, show (1 : Int32) = nI 1 from rfl, pk_sub (by omega), show nx + 24 - 1 = nx + 23 by omega]]
    exact pk_rem (a := nx + 23) (d := 24) (by omega) (by decide) (by decide)
  refine rn_ev am_m_X0_giveBack rfl rfl ?_
  refine rn_go 80 (by with_unfolding_all rfl) ?_
  refine rn_br (by with_unfolding_all rfl) (fun c => absurd c (by rw [hk]; exact nI_ne0 (by omega) (by omega))) (fun c => ?_)
  refine rn_to 18 80 (by with_unfolding_all rfl) ?_
  refine rn_hp (by with_unfolding_all exact (wG_5)) ?_
  rw [e1]
  refine rn_go 80 (by with_unfolding_all rfl) ?_
  refine rn_ck (by with_unfolding_all rfl) (by decide) ?_
  refine rn_to 34 80 (by with_unfolding_all rfl) ?_
  refine rn_hp (by with_unfolding_all exact (wG_6)) ?_
  rw [show upd g 5 (nI kp) 6 + 24 - 1 - (upd g 5 (nI kp) 6 + 24 - 1) / 24 * 24 = nI ((nx + 23) % 24) from e2]
  generalize (nx + 23) % 24 = y at *
  refine rn_go 80 (by with_unfolding_all rfl) ?_
  refine rn_ld (10 * y + 0) (by with_unfolding_all rfl) (by rw [show upd (upd g 5 (nI kp)) 6 (nI y) 6 = nI y from rfl, e0]; exact ix2 (10 * y) 0) (by omega) (by decide) ?_
  refine rn_to 54 80 (by with_unfolding_all rfl) ?_
  refine rn_hp (by with_unfolding_all exact (wf_0_3)) ?_
  refine rn_go 80 (by with_unfolding_all rfl) ?_
  refine rn_ld (10 * y + 1) (by with_unfolding_all rfl) (by rw [show upd (upd g 5 (nI kp)) 6 (nI y) 6 = nI y from rfl, e0]; exact ix2 (10 * y) 1) (by omega) (by decide) ?_
  refine rn_to 66 80 (by with_unfolding_all rfl) ?_
  refine rn_hp (by with_unfolding_all exact (wf_0_4)) ?_
  rw [tu_tu, tu_s]
  refine rn_go 80 (by with_unfolding_all rfl) ?_
  refine rn_br (by with_unfolding_all rfl) (fun c => absurd c (by decide)) (fun c => ?_)
  refine rn_go 80 (by with_unfolding_all rfl) ?_
  refine rn_ld (10 * y + 2) (by with_unfolding_all rfl) (by rw [show upd (upd g 5 (nI kp)) 6 (nI y) 6 = nI y from rfl, e0]; exact ix3 (10 * y) 0 2) (by omega) (by decide) ?_
  refine rn_go 80 (by with_unfolding_all rfl) ?_
  refine rn_st (0) (by with_unfolding_all rfl) (by decide) (by decide) (by decide) ?_
  refine rn_hp (by with_unfolding_all exact (ww_0_5 (k := 0) (by decide))) ?_
  rw [tu_tu, tu_s]
  refine rn_go 80 (by with_unfolding_all rfl) ?_
  refine rn_br (by with_unfolding_all rfl) (fun c => absurd c (by decide)) (fun c => ?_)
  refine rn_go 80 (by with_unfolding_all rfl) ?_
  refine rn_ld (10 * y + 3) (by with_unfolding_all rfl) (by rw [show upd (upd g 5 (nI kp)) 6 (nI y) 6 = nI y from rfl, e0]; exact ix3 (10 * y) 1 2) (by omega) (by decide) ?_
  refine rn_go 80 (by with_unfolding_all rfl) ?_
  refine rn_st (1) (by with_unfolding_all rfl) (by decide) (by decide) (by decide) ?_
  refine rn_hp (by with_unfolding_all exact (ww_0_5 (k := 1) (by decide))) ?_
  rw [tu_tu, tu_s]
  refine rn_go 80 (by with_unfolding_all rfl) ?_
  refine rn_br (by with_unfolding_all rfl) (fun c => absurd c (by decide)) (fun c => ?_)
  refine rn_go 80 (by with_unfolding_all rfl) ?_
  refine rn_ld (10 * y + 4) (by with_unfolding_all rfl) (by rw [show upd (upd g 5 (nI kp)) 6 (nI y) 6 = nI y from rfl, e0]; exact ix3 (10 * y) 2 2) (by omega) (by decide) ?_
  refine rn_go 80 (by with_unfolding_all rfl) ?_
  refine rn_st (2) (by with_unfolding_all rfl) (by decide) (by decide) (by decide) ?_
  refine rn_hp (by with_unfolding_all exact (ww_0_5 (k := 2) (by decide))) ?_
  rw [tu_tu, tu_s]
  refine rn_go 80 (by with_unfolding_all rfl) ?_
  refine rn_br (by with_unfolding_all rfl) (fun c => absurd c (by decide)) (fun c => ?_)
  refine rn_go 80 (by with_unfolding_all rfl) ?_
  refine rn_ld (10 * y + 5) (by with_unfolding_all rfl) (by rw [show upd (upd g 5 (nI kp)) 6 (nI y) 6 = nI y from rfl, e0]; exact ix3 (10 * y) 3 2) (by omega) (by decide) ?_
  refine rn_go 80 (by with_unfolding_all rfl) ?_
  refine rn_st (3) (by with_unfolding_all rfl) (by decide) (by decide) (by decide) ?_
  refine rn_hp (by with_unfolding_all exact (ww_0_5 (k := 3) (by decide))) ?_
  rw [tu_tu, tu_s]
  refine rn_go 80 (by with_unfolding_all rfl) ?_
  refine rn_br (by with_unfolding_all rfl) (fun c => ?_) (fun c => absurd (by decide) c)
  refine rn_go 80 (by with_unfolding_all rfl) ?_
  refine rn_br (by with_unfolding_all rfl) (fun c => absurd c (by decide)) (fun c => ?_)
  refine rn_go 80 (by with_unfolding_all rfl) ?_
  refine rn_ld (10 * y + 6) (by with_unfolding_all rfl) (by rw [show upd (upd g 5 (nI kp)) 6 (nI y) 6 = nI y from rfl, e0]; exact ix3 (10 * y) 0 6) (by omega) (by decide) ?_
  refine rn_go 80 (by with_unfolding_all rfl) ?_
  refine rn_st (0) (by with_unfolding_all rfl) (by decide) (by decide) (by decide) ?_
  refine rn_hp (by with_unfolding_all exact (ww_0_13 (k := 0) (by decide))) ?_
  rw [tu_tu, tu_s]
  refine rn_go 80 (by with_unfolding_all rfl) ?_
  refine rn_br (by with_unfolding_all rfl) (fun c => absurd c (by decide)) (fun c => ?_)
  refine rn_go 80 (by with_unfolding_all rfl) ?_
  refine rn_ld (10 * y + 7) (by with_unfolding_all rfl) (by rw [show upd (upd g 5 (nI kp)) 6 (nI y) 6 = nI y from rfl, e0]; exact ix3 (10 * y) 1 6) (by omega) (by decide) ?_
  refine rn_go 80 (by with_unfolding_all rfl) ?_
  refine rn_st (1) (by with_unfolding_all rfl) (by decide) (by decide) (by decide) ?_
  refine rn_hp (by with_unfolding_all exact (ww_0_13 (k := 1) (by decide))) ?_
  rw [tu_tu, tu_s]
  refine rn_go 80 (by with_unfolding_all rfl) ?_
  refine rn_br (by with_unfolding_all rfl) (fun c => absurd c (by decide)) (fun c => ?_)
  refine rn_go 80 (by with_unfolding_all rfl) ?_
  refine rn_ld (10 * y + 8) (by with_unfolding_all rfl) (by rw [show upd (upd g 5 (nI kp)) 6 (nI y) 6 = nI y from rfl, e0]; exact ix3 (10 * y) 2 6) (by omega) (by decide) ?_
  refine rn_go 80 (by with_unfolding_all rfl) ?_
  refine rn_st (2) (by with_unfolding_all rfl) (by decide) (by decide) (by decide) ?_
  refine rn_hp (by with_unfolding_all exact (ww_0_13 (k := 2) (by decide))) ?_
  rw [tu_tu, tu_s]
  refine rn_go 80 (by with_unfolding_all rfl) ?_
  refine rn_br (by with_unfolding_all rfl) (fun c => absurd c (by decide)) (fun c => ?_)
  refine rn_go 80 (by with_unfolding_all rfl) ?_
  refine rn_ld (10 * y + 9) (by with_unfolding_all rfl) (by rw [show upd (upd g 5 (nI kp)) 6 (nI y) 6 = nI y from rfl, e0]; exact ix3 (10 * y) 3 6) (by omega) (by decide) ?_
  refine rn_go 80 (by with_unfolding_all rfl) ?_
  refine rn_st (3) (by with_unfolding_all rfl) (by decide) (by decide) (by decide) ?_
  refine rn_hp (by with_unfolding_all exact (ww_0_13 (k := 3) (by decide))) ?_
  rw [tu_tu, tu_s]
  refine rn_go 80 (by with_unfolding_all rfl) ?_
  refine rn_br (by with_unfolding_all rfl) (fun c => ?_) (fun c => absurd (by decide) c)
  refine rn_go 80 (by with_unfolding_all rfl) ?_
  exact rn_rt (by with_unfolding_all rfl) trivial rfl rfl
set_option maxRecDepth 10000 in
theorem xm_shL (hu : gm 1 = 24) : ∀ m k, k + m = 483 → rn none 2 am_t_X9_keepPast (2, [some (.ref 43), some (.int (nI k))], [], wd g T A gm (tu Am 0 (shk (Am 0) k))) none (wd g T A gm (tu Am 0 (rs (shk (Am 0) 483) 504 (tv (shk (Am 0) 483) 0))))
  | 0, k, hk => by
    have hk : k = 483 := by omega
    subst hk
    refine rn_go 80 (by with_unfolding_all rfl) ?_
    refine rn_br (by with_unfolding_all rfl) (fun c => ?_) (fun c => ?_)
    · refine rn_go 80 (by with_unfolding_all rfl) ?_
      refine rn_br (by with_unfolding_all rfl) (fun c => ?_) (fun c => absurd hu c)
      refine rn_to 65 80 (by with_unfolding_all rfl) ?_
      refine rn_hp (by with_unfolding_all exact (wN_1)) ?_
      refine rn_go 80 (by with_unfolding_all rfl) ?_
      rw [hu]
      refine rn_cl (by with_unfolding_all rfl) (ev_up (by decide) (xm_copyTown (a := 0) (b := 504) (by omega) (by omega) (by omega))) ?_
      refine rn_to 90 80 (by with_unfolding_all rfl) ?_
      refine rn_hp (by with_unfolding_all exact (wN_1)) ?_
      refine rn_go 80 (by with_unfolding_all rfl) ?_
      refine rn_rt (by with_unfolding_all rfl) trivial rfl ?_
      rw [tu_s, tu_tu, show upd (upd gm 1 (24 - 1)) 1 (upd gm 1 (24 - 1) 1 + 1) = gm by
        funext j
        unfold upd
        by_cases h1 : j = 1
        · rw [if_pos h1, if_pos rfl, h1, hu]; rfl
        · rw [if_neg h1, if_neg h1]]
    · exact absurd (by decide) c
  | m + 1, k, hk => by
    have ih := xm_shL hu m (k + 1) (by omega)
    rw [← nI_1, ← shk_s] at ih
    refine rn_go 80 (by with_unfolding_all rfl) ?_
    refine rn_br (by with_unfolding_all rfl) (fun c => ?_) (fun c => ?_)
    · exact absurd c (show ¬ nI 483 ≤ nI k from nI_ge (by omega) (by decide))
    refine rn_go 80 (by with_unfolding_all rfl) ?_
    refine rn_br (by with_unfolding_all rfl) (fun c => ?_) (fun c => absurd hu c)
    refine rn_go 80 (by with_unfolding_all rfl) ?_
    refine rn_ld (42 + k) (by with_unfolding_all rfl) (nI_add 42 k) (by omega) (by decide) ?_
    rw [tu_s, show shk (Am 0) k (42 + k) = Am 0 (42 + k) by unfold shk; rw [if_neg (by omega)]]
    refine rn_go 80 (by with_unfolding_all rfl) ?_
    refine rn_st (21 + k) (by with_unfolding_all rfl) (nI_add 21 k) (by omega) (by decide) ?_
    refine rn_hp (by with_unfolding_all exact (wM_0)) ?_
    refine rn_to 2 80 (by with_unfolding_all rfl) ?_
    rw [tu_tu, tu_s]
    with_unfolding_all exact ih
/-! what keepPast makes of the row, by how many pasts there were -/
def kpr (r : Nat → Int32) (u : Nat) : Nat → Int32 := if u = 24 then rs (shk r 483) 504 (tv (shk r 483) 0) else rs r (21 + 21 * u) (tv r 0)
set_option maxRecDepth 10000 in
theorem xm_keepPast {u : Nat} (hu : gm 1 = nI u) (hu24 : u ≤ 24) : am_ev 3 165 [.ref 43] (wd g T A gm Am) none (wd g T A (upd gm 1 (nI (min 24 (u + 1)))) (tu Am 0 (kpr (Am 0) u))) := by
  unfold kpr
  refine rn_ev am_m_X9_keepPast rfl rfl ?_
  by_cases h24 : u = 24
  · rw [if_pos h24]
    subst h24
    have key := xm_shL (g := g) (T := T) (A := A) (gm := gm) (Am := Am) hu 483 0 rfl
    rw [shk_0, tu_id] at key
    rw [show nI (min 24 (24 + 1)) = gm 1 from hu.symm, up_id]
    refine rn_to 2 80 (by with_unfolding_all rfl) ?_
    with_unfolding_all exact key
  · rw [if_neg h24]
    have hne : ¬ gm 1 = 24 := fun q => h24 ((nI_eq (by omega) (by decide)).mp (hu.symm.trans q))
    refine rn_go 80 (by with_unfolding_all rfl) ?_
    refine rn_br (by with_unfolding_all rfl) (fun c => absurd c (by decide)) (fun c => ?_)
    refine rn_go 80 (by with_unfolding_all rfl) ?_
    refine rn_br (by with_unfolding_all rfl) (fun c => absurd c hne) (fun c => ?_)
    refine rn_go 80 (by with_unfolding_all rfl) ?_
    refine rn_br (by with_unfolding_all rfl) (fun c => absurd c hne) (fun c => ?_)
    refine rn_to 65 80 (by with_unfolding_all rfl) ?_
    refine rn_hp (by with_unfolding_all exact (wN_1)) ?_
    rw [Int32.sub_zero, up_id]
    refine rn_go 80 (by with_unfolding_all rfl) ?_
    rw [show (21 : Int32) + 21 * gm 1 = nI (21 + 21 * u) by rw [hu, show (21 : Int32) = nI 21 from rfl, pk_mul, nI_add]]
    refine rn_cl (by with_unfolding_all rfl) (ev_up (by decide) (xm_copyTown (a := 0) (b := 21 + 21 * u) (by omega) (by omega) (by omega))) ?_
    refine rn_to 90 80 (by with_unfolding_all rfl) ?_
    refine rn_hp (by with_unfolding_all exact (wN_1)) ?_
    refine rn_go 80 (by with_unfolding_all rfl) ?_
    refine rn_rt (by with_unfolding_all rfl) trivial rfl ?_
    rw [hu, nI_1, Nat.min_eq_right (by omega)]
set_option maxRecDepth 10000 in
theorem x8_undo {nx kp : Nat} (hx : g 6 = nI nx) (hx24 : nx < 24) (hk : g 5 = nI kp) (hk24 : kp ≤ 24) : (kp = 0 → am_ev 2 104 [.ref 0] (wd g T A gm Am) (some (.int (-1000002))) (wd g T A gm Am)) ∧ ∀ k, kp = k + 1 → am_ev 2 104 [.ref 0] (wd g T A gm Am) (some (.int (nI k))) (wd (upd (upd g 5 (nI k)) 6 (nI ((nx + 23) % 24))) (tu T 0 (un (T 0) (fun j => A 4 (10 * ((nx + 23) % 24) + j)))) A gm Am) := by
  refine ⟨fun h0 => ?_, fun k hkk => ?_⟩
  · refine rn_ev am_m_X8_undo rfl rfl ?_
    refine rn_go 80 (by with_unfolding_all rfl) ?_
    refine rn_br (by with_unfolding_all rfl) (fun c => ?_) (fun c => absurd (by rw [hk, h0]; rfl) c)
    refine rn_go 80 (by with_unfolding_all rfl) ?_
    exact rn_rt (by with_unfolding_all rfl) trivial rfl rfl
  · refine rn_ev am_m_X8_undo rfl rfl ?_
    refine rn_go 80 (by with_unfolding_all rfl) ?_
    refine rn_br (by with_unfolding_all rfl) (fun c => absurd c (by rw [hk]; exact nI_ne0 (by omega) (by omega))) (fun c => ?_)
    refine rn_go 80 (by with_unfolding_all rfl) ?_
    refine rn_cl (by with_unfolding_all rfl) (ev_up (by decide) (x0_giveBack hx hx24 (by rw [hk, hkk]) (by omega))) ?_
    refine rn_go 80 (by with_unfolding_all rfl) ?_
    exact rn_rt (by with_unfolding_all rfl) trivial rfl rfl
set_option maxRecDepth 10000 in
theorem xm_undo {u : Nat} (hu : gm 1 = nI u) (hu24 : u ≤ 24) : (u = 0 → am_ev 2 166 [.ref 43] (wd g T A gm Am) (some (.int (-1000002))) (wd g T A gm Am)) ∧ ∀ k, u = k + 1 → am_ev 2 166 [.ref 43] (wd g T A gm Am) (some (.int (nI k))) (wd g T A (upd gm 1 (nI k)) (tu Am 0 (rs (Am 0) 0 (tv (Am 0) (21 + 21 * k))))) := by
  refine ⟨fun h0 => ?_, fun k hkk => ?_⟩
  · refine rn_ev am_m_X9_undo rfl rfl ?_
    refine rn_go 80 (by with_unfolding_all rfl) ?_
    refine rn_br (by with_unfolding_all rfl) (fun c => ?_) (fun c => absurd (by rw [hu, h0]; rfl) c)
    refine rn_go 80 (by with_unfolding_all rfl) ?_
    exact rn_rt (by with_unfolding_all rfl) trivial rfl rfl
  · refine rn_ev am_m_X9_undo rfl rfl ?_
    refine rn_go 80 (by with_unfolding_all rfl) ?_
    refine rn_br (by with_unfolding_all rfl) (fun c => absurd c (by rw [hu]; exact nI_ne0 (by omega) (by omega))) (fun c => ?_)
    refine rn_to 20 80 (by with_unfolding_all rfl) ?_
    refine rn_hp (by with_unfolding_all exact (wN_1)) ?_
    rw [show gm 1 - 1 = nI k by rw [hu, hkk]; exact nI_pred k]
    refine rn_go 80 (by with_unfolding_all rfl) ?_
    rw [show (21 : Int32) + 21 * upd gm 1 (nI k) 1 = nI (21 + 21 * k) by rw [up_eq, show (21 : Int32) = nI 21 from rfl, pk_mul, nI_add]]
    refine rn_cl (by with_unfolding_all rfl) (ev_up (by decide) (xm_copyTown (a := 21 + 21 * k) (b := 0) (by omega) (by omega) (by omega))) ?_
    refine rn_go 80 (by with_unfolding_all rfl) ?_
    exact rn_rt (by with_unfolding_all rfl) trivial rfl rfl
end

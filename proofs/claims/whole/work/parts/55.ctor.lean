/-! the constructors: the cells as they are made -/
def z0 : Nat → Int32 := fun _ => 0
def lm : Nat → Int32 := upd (upd (upd (upd (upd (upd (upd (upd z0 0 (-1)) 1 (-1)) 2 (-1)) 3 (-1)) 4 (-1)) 5 (-1)) 6 (-1)) 7 (-1)
def ctb_1 : am_H := [.inr (8, [.null, .null, .null, .null, .null, .null, .null, .null, .null, .null, .null, .int 0, .int 0]), .inr (6, am_blank 6)]
def cta_1 : am_H := [.inr (8, [.null, .null, .null, .null, .null, .null, .null, .null, .null, .null, .null, .int 0, .int 0]), .inr (6, [.ref 2, .ref 3, .ref 4]), .inl (false, 8, z0), .inl (false, 8, lm), .inl (false, 320, z0)]
set_option maxRecDepth 10000 in
theorem ct_1 : am_ev 1 65 [.ref 1] ctb_1 none cta_1 := by
  refine rn_ev am_m_X6_init rfl rfl ?_
  refine rn_go 80 (by with_unfolding_all rfl) ?_
  refine rn_ck (by with_unfolding_all rfl) (by exact ⟨rfl, by decide⟩) ?_
  refine rn_go 80 (by with_unfolding_all rfl) ?_
  refine rn_ck (by with_unfolding_all rfl) (by exact ⟨rfl, by decide⟩) ?_
  refine rn_go 80 (by with_unfolding_all rfl) ?_
  refine rn_ck (by with_unfolding_all rfl) (by exact ⟨rfl, by decide⟩) ?_
  refine rn_go 80 (by with_unfolding_all rfl) ?_
  refine rn_br (by with_unfolding_all rfl) (fun c_ => absurd c_ (by decide)) (fun _ => ?_)
  refine rn_go 80 (by with_unfolding_all rfl) ?_
  refine rn_st (0) (by with_unfolding_all rfl) (by decide) (by decide) (by decide) ?_
  refine rn_go 80 (by with_unfolding_all rfl) ?_
  refine rn_br (by with_unfolding_all rfl) (fun c_ => absurd c_ (by decide)) (fun _ => ?_)
  refine rn_go 80 (by with_unfolding_all rfl) ?_
  refine rn_st (1) (by with_unfolding_all rfl) (by decide) (by decide) (by decide) ?_
  refine rn_go 80 (by with_unfolding_all rfl) ?_
  refine rn_br (by with_unfolding_all rfl) (fun c_ => absurd c_ (by decide)) (fun _ => ?_)
  refine rn_go 80 (by with_unfolding_all rfl) ?_
  refine rn_st (2) (by with_unfolding_all rfl) (by decide) (by decide) (by decide) ?_
  refine rn_go 80 (by with_unfolding_all rfl) ?_
  refine rn_br (by with_unfolding_all rfl) (fun c_ => absurd c_ (by decide)) (fun _ => ?_)
  refine rn_go 80 (by with_unfolding_all rfl) ?_
  refine rn_st (3) (by with_unfolding_all rfl) (by decide) (by decide) (by decide) ?_
  refine rn_go 80 (by with_unfolding_all rfl) ?_
  refine rn_br (by with_unfolding_all rfl) (fun c_ => absurd c_ (by decide)) (fun _ => ?_)
  refine rn_go 80 (by with_unfolding_all rfl) ?_
  refine rn_st (4) (by with_unfolding_all rfl) (by decide) (by decide) (by decide) ?_
  refine rn_go 80 (by with_unfolding_all rfl) ?_
  refine rn_br (by with_unfolding_all rfl) (fun c_ => absurd c_ (by decide)) (fun _ => ?_)
  refine rn_go 80 (by with_unfolding_all rfl) ?_
  refine rn_st (5) (by with_unfolding_all rfl) (by decide) (by decide) (by decide) ?_
  refine rn_go 80 (by with_unfolding_all rfl) ?_
  refine rn_br (by with_unfolding_all rfl) (fun c_ => absurd c_ (by decide)) (fun _ => ?_)
  refine rn_go 80 (by with_unfolding_all rfl) ?_
  refine rn_st (6) (by with_unfolding_all rfl) (by decide) (by decide) (by decide) ?_
  refine rn_go 80 (by with_unfolding_all rfl) ?_
  refine rn_br (by with_unfolding_all rfl) (fun c_ => absurd c_ (by decide)) (fun _ => ?_)
  refine rn_go 80 (by with_unfolding_all rfl) ?_
  refine rn_st (7) (by with_unfolding_all rfl) (by decide) (by decide) (by decide) ?_
  refine rn_go 80 (by with_unfolding_all rfl) ?_
  refine rn_br (by with_unfolding_all rfl) (fun _ => ?_) (fun c_ => absurd (by decide) c_)
  refine rn_go 80 (by with_unfolding_all rfl) ?_
  exact rn_rt (by with_unfolding_all rfl) (trivial) (rfl) (by with_unfolding_all rfl)
def ctb_5 : am_H := [.inr (8, [.null, .null, .null, .null, .null, .null, .null, .null, .null, .null, .null, .int 0, .int 0]), .inr (6, [.ref 2, .ref 3, .ref 4]), .inl (false, 8, z0), .inl (false, 8, lm), .inl (false, 320, z0), .inr (3, am_blank 3)]
def cta_5 : am_H := [.inr (8, [.null, .null, .null, .null, .null, .null, .null, .null, .null, .null, .null, .int 0, .int 0]), .inr (6, [.ref 2, .ref 3, .ref 4]), .inl (false, 8, z0), .inl (false, 8, lm), .inl (false, 320, z0), .inr (3, [.int 0, .int 0, .int 0, .int 0, .int 0, .int 0, .ref 6, .ref 7, .ref 8, .ref 9]), .inl (false, 4, z0), .inl (false, 4, z0), .inl (false, 4, z0), .inl (false, 4, z0)]
set_option maxRecDepth 10000 in
theorem ct_5 : am_ev 1 36 [.ref 5] ctb_5 none cta_5 := by
  refine rn_ev am_m_X3_init rfl rfl ?_
  refine rn_go 80 (by with_unfolding_all rfl) ?_
  refine rn_ck (by with_unfolding_all rfl) (by exact ⟨rfl, by decide⟩) ?_
  refine rn_go 80 (by with_unfolding_all rfl) ?_
  refine rn_ck (by with_unfolding_all rfl) (by exact ⟨rfl, by decide⟩) ?_
  refine rn_go 80 (by with_unfolding_all rfl) ?_
  refine rn_ck (by with_unfolding_all rfl) (by exact ⟨rfl, by decide⟩) ?_
  refine rn_go 80 (by with_unfolding_all rfl) ?_
  refine rn_ck (by with_unfolding_all rfl) (by exact ⟨rfl, by decide⟩) ?_
  refine rn_go 80 (by with_unfolding_all rfl) ?_
  exact rn_rt (by with_unfolding_all rfl) (trivial) (rfl) (by with_unfolding_all rfl)
def ctb_10 : am_H := [.inr (8, [.null, .null, .null, .null, .null, .null, .null, .null, .null, .null, .null, .int 0, .int 0]), .inr (6, [.ref 2, .ref 3, .ref 4]), .inl (false, 8, z0), .inl (false, 8, lm), .inl (false, 320, z0), .inr (3, [.int 0, .int 0, .int 0, .int 0, .int 0, .int 0, .ref 6, .ref 7, .ref 8, .ref 9]), .inl (false, 4, z0), .inl (false, 4, z0), .inl (false, 4, z0), .inl (false, 4, z0), .inr (3, am_blank 3)]
def cta_10 : am_H := [.inr (8, [.null, .null, .null, .null, .null, .null, .null, .null, .null, .null, .null, .int 0, .int 0]), .inr (6, [.ref 2, .ref 3, .ref 4]), .inl (false, 8, z0), .inl (false, 8, lm), .inl (false, 320, z0), .inr (3, [.int 0, .int 0, .int 0, .int 0, .int 0, .int 0, .ref 6, .ref 7, .ref 8, .ref 9]), .inl (false, 4, z0), .inl (false, 4, z0), .inl (false, 4, z0), .inl (false, 4, z0), .inr (3, [.int 0, .int 0, .int 0, .int 0, .int 0, .int 0, .ref 11, .ref 12, .ref 13, .ref 14]), .inl (false, 4, z0), .inl (false, 4, z0), .inl (false, 4, z0), .inl (false, 4, z0)]
set_option maxRecDepth 10000 in
theorem ct_10 : am_ev 1 36 [.ref 10] ctb_10 none cta_10 := by
  refine rn_ev am_m_X3_init rfl rfl ?_
  refine rn_go 80 (by with_unfolding_all rfl) ?_
  refine rn_ck (by with_unfolding_all rfl) (by exact ⟨rfl, by decide⟩) ?_
  refine rn_go 80 (by with_unfolding_all rfl) ?_
  refine rn_ck (by with_unfolding_all rfl) (by exact ⟨rfl, by decide⟩) ?_
  refine rn_go 80 (by with_unfolding_all rfl) ?_
  refine rn_ck (by with_unfolding_all rfl) (by exact ⟨rfl, by decide⟩) ?_
  refine rn_go 80 (by with_unfolding_all rfl) ?_
  refine rn_ck (by with_unfolding_all rfl) (by exact ⟨rfl, by decide⟩) ?_
  refine rn_go 80 (by with_unfolding_all rfl) ?_
  exact rn_rt (by with_unfolding_all rfl) (trivial) (rfl) (by with_unfolding_all rfl)
def ctb_15 : am_H := [.inr (8, [.ref 1, .null, .null, .null, .null, .null, .null, .null, .null, .null, .null, .int 0, .int 0]), .inr (6, [.ref 2, .ref 3, .ref 4]), .inl (false, 8, z0), .inl (false, 8, lm), .inl (false, 320, z0), .inr (3, [.int 0, .int 0, .int 0, .int 0, .int 0, .int 0, .ref 6, .ref 7, .ref 8, .ref 9]), .inl (false, 4, z0), .inl (false, 4, z0), .inl (false, 4, z0), .inl (false, 4, z0), .inr (3, [.int 0, .int 0, .int 0, .int 0, .int 0, .int 0, .ref 11, .ref 12, .ref 13, .ref 14]), .inl (false, 4, z0), .inl (false, 4, z0), .inl (false, 4, z0), .inl (false, 4, z0), .inr (7, am_blank 7)]
def cta_15 : am_H := [.inr (8, [.ref 1, .null, .null, .null, .null, .null, .null, .null, .null, .null, .null, .int 0, .int 0]), .inr (6, [.ref 2, .ref 3, .ref 4]), .inl (false, 8, z0), .inl (false, 8, lm), .inl (false, 320, z0), .inr (3, [.int 0, .int 0, .int 0, .int 0, .int 0, .int 0, .ref 6, .ref 7, .ref 8, .ref 9]), .inl (false, 4, z0), .inl (false, 4, z0), .inl (false, 4, z0), .inl (false, 4, z0), .inr (3, [.int 0, .int 0, .int 0, .int 0, .int 0, .int 0, .ref 11, .ref 12, .ref 13, .ref 14]), .inl (false, 4, z0), .inl (false, 4, z0), .inl (false, 4, z0), .inl (false, 4, z0), .inr (7, [.ref 16, .int 0, .int 0, .int 0]), .inl (false, 100, z0)]
set_option maxRecDepth 10000 in
theorem ct_15 : am_ev 1 76 [.ref 15] ctb_15 none cta_15 := by
  refine rn_ev am_m_X7_init rfl rfl ?_
  refine rn_go 80 (by with_unfolding_all rfl) ?_
  refine rn_ck (by with_unfolding_all rfl) (by exact ⟨rfl, by decide⟩) ?_
  refine rn_go 80 (by with_unfolding_all rfl) ?_
  exact rn_rt (by with_unfolding_all rfl) (trivial) (rfl) (by with_unfolding_all rfl)
def ctb_17 : am_H := [.inr (8, [.ref 1, .ref 15, .ref 5, .null, .null, .null, .null, .null, .null, .null, .null, .int 0, .int 0]), .inr (6, [.ref 2, .ref 3, .ref 4]), .inl (false, 8, z0), .inl (false, 8, lm), .inl (false, 320, z0), .inr (3, [.int 0, .int 0, .int 0, .int 0, .int 0, .int 0, .ref 6, .ref 7, .ref 8, .ref 9]), .inl (false, 4, z0), .inl (false, 4, z0), .inl (false, 4, z0), .inl (false, 4, z0), .inr (3, [.int 0, .int 0, .int 0, .int 0, .int 0, .int 0, .ref 11, .ref 12, .ref 13, .ref 14]), .inl (false, 4, z0), .inl (false, 4, z0), .inl (false, 4, z0), .inl (false, 4, z0), .inr (7, [.ref 16, .int 0, .int 0, .int 0]), .inl (false, 100, z0), .inr (3, am_blank 3)]
def cta_17 : am_H := [.inr (8, [.ref 1, .ref 15, .ref 5, .null, .null, .null, .null, .null, .null, .null, .null, .int 0, .int 0]), .inr (6, [.ref 2, .ref 3, .ref 4]), .inl (false, 8, z0), .inl (false, 8, lm), .inl (false, 320, z0), .inr (3, [.int 0, .int 0, .int 0, .int 0, .int 0, .int 0, .ref 6, .ref 7, .ref 8, .ref 9]), .inl (false, 4, z0), .inl (false, 4, z0), .inl (false, 4, z0), .inl (false, 4, z0), .inr (3, [.int 0, .int 0, .int 0, .int 0, .int 0, .int 0, .ref 11, .ref 12, .ref 13, .ref 14]), .inl (false, 4, z0), .inl (false, 4, z0), .inl (false, 4, z0), .inl (false, 4, z0), .inr (7, [.ref 16, .int 0, .int 0, .int 0]), .inl (false, 100, z0), .inr (3, [.int 0, .int 0, .int 0, .int 0, .int 0, .int 0, .ref 18, .ref 19, .ref 20, .ref 21]), .inl (false, 4, z0), .inl (false, 4, z0), .inl (false, 4, z0), .inl (false, 4, z0)]
set_option maxRecDepth 10000 in
theorem ct_17 : am_ev 1 36 [.ref 17] ctb_17 none cta_17 := by
  refine rn_ev am_m_X3_init rfl rfl ?_
  refine rn_go 80 (by with_unfolding_all rfl) ?_
  refine rn_ck (by with_unfolding_all rfl) (by exact ⟨rfl, by decide⟩) ?_
  refine rn_go 80 (by with_unfolding_all rfl) ?_
  refine rn_ck (by with_unfolding_all rfl) (by exact ⟨rfl, by decide⟩) ?_
  refine rn_go 80 (by with_unfolding_all rfl) ?_
  refine rn_ck (by with_unfolding_all rfl) (by exact ⟨rfl, by decide⟩) ?_
  refine rn_go 80 (by with_unfolding_all rfl) ?_
  refine rn_ck (by with_unfolding_all rfl) (by exact ⟨rfl, by decide⟩) ?_
  refine rn_go 80 (by with_unfolding_all rfl) ?_
  exact rn_rt (by with_unfolding_all rfl) (trivial) (rfl) (by with_unfolding_all rfl)
def ctb_22 : am_H := [.inr (8, [.ref 1, .ref 15, .ref 5, .ref 17, .null, .null, .null, .null, .null, .null, .null, .int 0, .int 0]), .inr (6, [.ref 2, .ref 3, .ref 4]), .inl (false, 8, z0), .inl (false, 8, lm), .inl (false, 320, z0), .inr (3, [.int 0, .int 0, .int 0, .int 0, .int 0, .int 0, .ref 6, .ref 7, .ref 8, .ref 9]), .inl (false, 4, z0), .inl (false, 4, z0), .inl (false, 4, z0), .inl (false, 4, z0), .inr (3, [.int 0, .int 0, .int 0, .int 0, .int 0, .int 0, .ref 11, .ref 12, .ref 13, .ref 14]), .inl (false, 4, z0), .inl (false, 4, z0), .inl (false, 4, z0), .inl (false, 4, z0), .inr (7, [.ref 16, .int 0, .int 0, .int 0]), .inl (false, 100, z0), .inr (3, [.int 0, .int 0, .int 0, .int 0, .int 0, .int 0, .ref 18, .ref 19, .ref 20, .ref 21]), .inl (false, 4, z0), .inl (false, 4, z0), .inl (false, 4, z0), .inl (false, 4, z0), .inr (3, am_blank 3)]
def cta_22 : am_H := [.inr (8, [.ref 1, .ref 15, .ref 5, .ref 17, .null, .null, .null, .null, .null, .null, .null, .int 0, .int 0]), .inr (6, [.ref 2, .ref 3, .ref 4]), .inl (false, 8, z0), .inl (false, 8, lm), .inl (false, 320, z0), .inr (3, [.int 0, .int 0, .int 0, .int 0, .int 0, .int 0, .ref 6, .ref 7, .ref 8, .ref 9]), .inl (false, 4, z0), .inl (false, 4, z0), .inl (false, 4, z0), .inl (false, 4, z0), .inr (3, [.int 0, .int 0, .int 0, .int 0, .int 0, .int 0, .ref 11, .ref 12, .ref 13, .ref 14]), .inl (false, 4, z0), .inl (false, 4, z0), .inl (false, 4, z0), .inl (false, 4, z0), .inr (7, [.ref 16, .int 0, .int 0, .int 0]), .inl (false, 100, z0), .inr (3, [.int 0, .int 0, .int 0, .int 0, .int 0, .int 0, .ref 18, .ref 19, .ref 20, .ref 21]), .inl (false, 4, z0), .inl (false, 4, z0), .inl (false, 4, z0), .inl (false, 4, z0), .inr (3, [.int 0, .int 0, .int 0, .int 0, .int 0, .int 0, .ref 23, .ref 24, .ref 25, .ref 26]), .inl (false, 4, z0), .inl (false, 4, z0), .inl (false, 4, z0), .inl (false, 4, z0)]
set_option maxRecDepth 10000 in
theorem ct_22 : am_ev 1 36 [.ref 22] ctb_22 none cta_22 := by
  refine rn_ev am_m_X3_init rfl rfl ?_
  refine rn_go 80 (by with_unfolding_all rfl) ?_
  refine rn_ck (by with_unfolding_all rfl) (by exact ⟨rfl, by decide⟩) ?_
  refine rn_go 80 (by with_unfolding_all rfl) ?_
  refine rn_ck (by with_unfolding_all rfl) (by exact ⟨rfl, by decide⟩) ?_
  refine rn_go 80 (by with_unfolding_all rfl) ?_
  refine rn_ck (by with_unfolding_all rfl) (by exact ⟨rfl, by decide⟩) ?_
  refine rn_go 80 (by with_unfolding_all rfl) ?_
  refine rn_ck (by with_unfolding_all rfl) (by exact ⟨rfl, by decide⟩) ?_
  refine rn_go 80 (by with_unfolding_all rfl) ?_
  exact rn_rt (by with_unfolding_all rfl) (trivial) (rfl) (by with_unfolding_all rfl)
def ctb_27 : am_H := [.inr (8, [.ref 1, .ref 15, .ref 5, .ref 17, .ref 22, .null, .null, .null, .null, .null, .null, .int 0, .int 0]), .inr (6, [.ref 2, .ref 3, .ref 4]), .inl (false, 8, z0), .inl (false, 8, lm), .inl (false, 320, z0), .inr (3, [.int 0, .int 0, .int 0, .int 0, .int 0, .int 0, .ref 6, .ref 7, .ref 8, .ref 9]), .inl (false, 4, z0), .inl (false, 4, z0), .inl (false, 4, z0), .inl (false, 4, z0), .inr (3, [.int 0, .int 0, .int 0, .int 0, .int 0, .int 0, .ref 11, .ref 12, .ref 13, .ref 14]), .inl (false, 4, z0), .inl (false, 4, z0), .inl (false, 4, z0), .inl (false, 4, z0), .inr (7, [.ref 16, .int 0, .int 0, .int 0]), .inl (false, 100, z0), .inr (3, [.int 0, .int 0, .int 0, .int 0, .int 0, .int 0, .ref 18, .ref 19, .ref 20, .ref 21]), .inl (false, 4, z0), .inl (false, 4, z0), .inl (false, 4, z0), .inl (false, 4, z0), .inr (3, [.int 0, .int 0, .int 0, .int 0, .int 0, .int 0, .ref 23, .ref 24, .ref 25, .ref 26]), .inl (false, 4, z0), .inl (false, 4, z0), .inl (false, 4, z0), .inl (false, 4, z0), .inr (3, am_blank 3)]
def cta_27 : am_H := [.inr (8, [.ref 1, .ref 15, .ref 5, .ref 17, .ref 22, .null, .null, .null, .null, .null, .null, .int 0, .int 0]), .inr (6, [.ref 2, .ref 3, .ref 4]), .inl (false, 8, z0), .inl (false, 8, lm), .inl (false, 320, z0), .inr (3, [.int 0, .int 0, .int 0, .int 0, .int 0, .int 0, .ref 6, .ref 7, .ref 8, .ref 9]), .inl (false, 4, z0), .inl (false, 4, z0), .inl (false, 4, z0), .inl (false, 4, z0), .inr (3, [.int 0, .int 0, .int 0, .int 0, .int 0, .int 0, .ref 11, .ref 12, .ref 13, .ref 14]), .inl (false, 4, z0), .inl (false, 4, z0), .inl (false, 4, z0), .inl (false, 4, z0), .inr (7, [.ref 16, .int 0, .int 0, .int 0]), .inl (false, 100, z0), .inr (3, [.int 0, .int 0, .int 0, .int 0, .int 0, .int 0, .ref 18, .ref 19, .ref 20, .ref 21]), .inl (false, 4, z0), .inl (false, 4, z0), .inl (false, 4, z0), .inl (false, 4, z0), .inr (3, [.int 0, .int 0, .int 0, .int 0, .int 0, .int 0, .ref 23, .ref 24, .ref 25, .ref 26]), .inl (false, 4, z0), .inl (false, 4, z0), .inl (false, 4, z0), .inl (false, 4, z0), .inr (3, [.int 0, .int 0, .int 0, .int 0, .int 0, .int 0, .ref 28, .ref 29, .ref 30, .ref 31]), .inl (false, 4, z0), .inl (false, 4, z0), .inl (false, 4, z0), .inl (false, 4, z0)]
set_option maxRecDepth 10000 in
theorem ct_27 : am_ev 1 36 [.ref 27] ctb_27 none cta_27 := by
  refine rn_ev am_m_X3_init rfl rfl ?_
  refine rn_go 80 (by with_unfolding_all rfl) ?_
  refine rn_ck (by with_unfolding_all rfl) (by exact ⟨rfl, by decide⟩) ?_
  refine rn_go 80 (by with_unfolding_all rfl) ?_
  refine rn_ck (by with_unfolding_all rfl) (by exact ⟨rfl, by decide⟩) ?_
  refine rn_go 80 (by with_unfolding_all rfl) ?_
  refine rn_ck (by with_unfolding_all rfl) (by exact ⟨rfl, by decide⟩) ?_
  refine rn_go 80 (by with_unfolding_all rfl) ?_
  refine rn_ck (by with_unfolding_all rfl) (by exact ⟨rfl, by decide⟩) ?_
  refine rn_go 80 (by with_unfolding_all rfl) ?_
  exact rn_rt (by with_unfolding_all rfl) (trivial) (rfl) (by with_unfolding_all rfl)
def ctb_32 : am_H := [.inr (8, [.ref 1, .ref 15, .ref 5, .ref 17, .ref 22, .ref 27, .null, .null, .null, .null, .null, .int 0, .int 0]), .inr (6, [.ref 2, .ref 3, .ref 4]), .inl (false, 8, z0), .inl (false, 8, lm), .inl (false, 320, z0), .inr (3, [.int 0, .int 0, .int 0, .int 0, .int 0, .int 0, .ref 6, .ref 7, .ref 8, .ref 9]), .inl (false, 4, z0), .inl (false, 4, z0), .inl (false, 4, z0), .inl (false, 4, z0), .inr (3, [.int 0, .int 0, .int 0, .int 0, .int 0, .int 0, .ref 11, .ref 12, .ref 13, .ref 14]), .inl (false, 4, z0), .inl (false, 4, z0), .inl (false, 4, z0), .inl (false, 4, z0), .inr (7, [.ref 16, .int 0, .int 0, .int 0]), .inl (false, 100, z0), .inr (3, [.int 0, .int 0, .int 0, .int 0, .int 0, .int 0, .ref 18, .ref 19, .ref 20, .ref 21]), .inl (false, 4, z0), .inl (false, 4, z0), .inl (false, 4, z0), .inl (false, 4, z0), .inr (3, [.int 0, .int 0, .int 0, .int 0, .int 0, .int 0, .ref 23, .ref 24, .ref 25, .ref 26]), .inl (false, 4, z0), .inl (false, 4, z0), .inl (false, 4, z0), .inl (false, 4, z0), .inr (3, [.int 0, .int 0, .int 0, .int 0, .int 0, .int 0, .ref 28, .ref 29, .ref 30, .ref 31]), .inl (false, 4, z0), .inl (false, 4, z0), .inl (false, 4, z0), .inl (false, 4, z0), .inr (0, am_blank 0)]
def cta_32 : am_H := [.inr (8, [.ref 1, .ref 15, .ref 5, .ref 17, .ref 22, .ref 27, .null, .null, .null, .null, .null, .int 0, .int 0]), .inr (6, [.ref 2, .ref 3, .ref 4]), .inl (false, 8, z0), .inl (false, 8, lm), .inl (false, 320, z0), .inr (3, [.int 0, .int 0, .int 0, .int 0, .int 0, .int 0, .ref 6, .ref 7, .ref 8, .ref 9]), .inl (false, 4, z0), .inl (false, 4, z0), .inl (false, 4, z0), .inl (false, 4, z0), .inr (3, [.int 0, .int 0, .int 0, .int 0, .int 0, .int 0, .ref 11, .ref 12, .ref 13, .ref 14]), .inl (false, 4, z0), .inl (false, 4, z0), .inl (false, 4, z0), .inl (false, 4, z0), .inr (7, [.ref 16, .int 0, .int 0, .int 0]), .inl (false, 100, z0), .inr (3, [.int 0, .int 0, .int 0, .int 0, .int 0, .int 0, .ref 18, .ref 19, .ref 20, .ref 21]), .inl (false, 4, z0), .inl (false, 4, z0), .inl (false, 4, z0), .inl (false, 4, z0), .inr (3, [.int 0, .int 0, .int 0, .int 0, .int 0, .int 0, .ref 23, .ref 24, .ref 25, .ref 26]), .inl (false, 4, z0), .inl (false, 4, z0), .inl (false, 4, z0), .inl (false, 4, z0), .inr (3, [.int 0, .int 0, .int 0, .int 0, .int 0, .int 0, .ref 28, .ref 29, .ref 30, .ref 31]), .inl (false, 4, z0), .inl (false, 4, z0), .inl (false, 4, z0), .inl (false, 4, z0), .inr (0, [.ref 33, .int 0, .int 0]), .inl (false, 240, z0)]
set_option maxRecDepth 10000 in
theorem ct_32 : am_ev 1 0 [.ref 32] ctb_32 none cta_32 := by
  refine rn_ev am_m_X0_init rfl rfl ?_
  refine rn_go 80 (by with_unfolding_all rfl) ?_
  refine rn_ck (by with_unfolding_all rfl) (by exact ⟨rfl, by decide⟩) ?_
  refine rn_go 80 (by with_unfolding_all rfl) ?_
  exact rn_rt (by with_unfolding_all rfl) (trivial) (rfl) (by with_unfolding_all rfl)
def ctb_34 : am_H := [.inr (8, [.ref 1, .ref 15, .ref 5, .ref 17, .ref 22, .ref 27, .ref 32, .null, .null, .null, .null, .int 0, .int 0]), .inr (6, [.ref 2, .ref 3, .ref 4]), .inl (false, 8, z0), .inl (false, 8, lm), .inl (false, 320, z0), .inr (3, [.int 0, .int 0, .int 0, .int 0, .int 0, .int 0, .ref 6, .ref 7, .ref 8, .ref 9]), .inl (false, 4, z0), .inl (false, 4, z0), .inl (false, 4, z0), .inl (false, 4, z0), .inr (3, [.int 0, .int 0, .int 0, .int 0, .int 0, .int 0, .ref 11, .ref 12, .ref 13, .ref 14]), .inl (false, 4, z0), .inl (false, 4, z0), .inl (false, 4, z0), .inl (false, 4, z0), .inr (7, [.ref 16, .int 0, .int 0, .int 0]), .inl (false, 100, z0), .inr (3, [.int 0, .int 0, .int 0, .int 0, .int 0, .int 0, .ref 18, .ref 19, .ref 20, .ref 21]), .inl (false, 4, z0), .inl (false, 4, z0), .inl (false, 4, z0), .inl (false, 4, z0), .inr (3, [.int 0, .int 0, .int 0, .int 0, .int 0, .int 0, .ref 23, .ref 24, .ref 25, .ref 26]), .inl (false, 4, z0), .inl (false, 4, z0), .inl (false, 4, z0), .inl (false, 4, z0), .inr (3, [.int 0, .int 0, .int 0, .int 0, .int 0, .int 0, .ref 28, .ref 29, .ref 30, .ref 31]), .inl (false, 4, z0), .inl (false, 4, z0), .inl (false, 4, z0), .inl (false, 4, z0), .inr (0, [.ref 33, .int 0, .int 0]), .inl (false, 240, z0), .inr (2, am_blank 2)]
def cta_34 : am_H := [.inr (8, [.ref 1, .ref 15, .ref 5, .ref 17, .ref 22, .ref 27, .ref 32, .null, .null, .null, .null, .int 0, .int 0]), .inr (6, [.ref 2, .ref 3, .ref 4]), .inl (false, 8, z0), .inl (false, 8, lm), .inl (false, 320, z0), .inr (3, [.int 0, .int 0, .int 0, .int 0, .int 0, .int 0, .ref 6, .ref 7, .ref 8, .ref 9]), .inl (false, 4, z0), .inl (false, 4, z0), .inl (false, 4, z0), .inl (false, 4, z0), .inr (3, [.int 0, .int 0, .int 0, .int 0, .int 0, .int 0, .ref 11, .ref 12, .ref 13, .ref 14]), .inl (false, 4, z0), .inl (false, 4, z0), .inl (false, 4, z0), .inl (false, 4, z0), .inr (7, [.ref 16, .int 0, .int 0, .int 0]), .inl (false, 100, z0), .inr (3, [.int 0, .int 0, .int 0, .int 0, .int 0, .int 0, .ref 18, .ref 19, .ref 20, .ref 21]), .inl (false, 4, z0), .inl (false, 4, z0), .inl (false, 4, z0), .inl (false, 4, z0), .inr (3, [.int 0, .int 0, .int 0, .int 0, .int 0, .int 0, .ref 23, .ref 24, .ref 25, .ref 26]), .inl (false, 4, z0), .inl (false, 4, z0), .inl (false, 4, z0), .inl (false, 4, z0), .inr (3, [.int 0, .int 0, .int 0, .int 0, .int 0, .int 0, .ref 28, .ref 29, .ref 30, .ref 31]), .inl (false, 4, z0), .inl (false, 4, z0), .inl (false, 4, z0), .inl (false, 4, z0), .inr (0, [.ref 33, .int 0, .int 0]), .inl (false, 240, z0), .inr (2, [.ref 5, .ref 10, .ref 35]), .inl (false, 4, z0)]
set_option maxRecDepth 10000 in
theorem ct_34 : am_ev 1 20 [.ref 34, .ref 5, .ref 10] ctb_34 none cta_34 := by
  refine rn_ev am_m_X2_init rfl rfl ?_
  refine rn_go 80 (by with_unfolding_all rfl) ?_
  refine rn_ck (by with_unfolding_all rfl) (by exact ⟨rfl, by decide⟩) ?_
  refine rn_go 80 (by with_unfolding_all rfl) ?_
  exact rn_rt (by with_unfolding_all rfl) (trivial) (rfl) (by with_unfolding_all rfl)
def ctb_36 : am_H := [.inr (8, [.ref 1, .ref 15, .ref 5, .ref 17, .ref 22, .ref 27, .ref 32, .ref 34, .null, .null, .null, .int 0, .int 0]), .inr (6, [.ref 2, .ref 3, .ref 4]), .inl (false, 8, z0), .inl (false, 8, lm), .inl (false, 320, z0), .inr (3, [.int 0, .int 0, .int 0, .int 0, .int 0, .int 0, .ref 6, .ref 7, .ref 8, .ref 9]), .inl (false, 4, z0), .inl (false, 4, z0), .inl (false, 4, z0), .inl (false, 4, z0), .inr (3, [.int 0, .int 0, .int 0, .int 0, .int 0, .int 0, .ref 11, .ref 12, .ref 13, .ref 14]), .inl (false, 4, z0), .inl (false, 4, z0), .inl (false, 4, z0), .inl (false, 4, z0), .inr (7, [.ref 16, .int 0, .int 0, .int 0]), .inl (false, 100, z0), .inr (3, [.int 0, .int 0, .int 0, .int 0, .int 0, .int 0, .ref 18, .ref 19, .ref 20, .ref 21]), .inl (false, 4, z0), .inl (false, 4, z0), .inl (false, 4, z0), .inl (false, 4, z0), .inr (3, [.int 0, .int 0, .int 0, .int 0, .int 0, .int 0, .ref 23, .ref 24, .ref 25, .ref 26]), .inl (false, 4, z0), .inl (false, 4, z0), .inl (false, 4, z0), .inl (false, 4, z0), .inr (3, [.int 0, .int 0, .int 0, .int 0, .int 0, .int 0, .ref 28, .ref 29, .ref 30, .ref 31]), .inl (false, 4, z0), .inl (false, 4, z0), .inl (false, 4, z0), .inl (false, 4, z0), .inr (0, [.ref 33, .int 0, .int 0]), .inl (false, 240, z0), .inr (2, [.ref 5, .ref 10, .ref 35]), .inl (false, 4, z0), .inr (5, am_blank 5)]
def cta_36 : am_H := [.inr (8, [.ref 1, .ref 15, .ref 5, .ref 17, .ref 22, .ref 27, .ref 32, .ref 34, .null, .null, .null, .int 0, .int 0]), .inr (6, [.ref 2, .ref 3, .ref 4]), .inl (false, 8, z0), .inl (false, 8, lm), .inl (false, 320, z0), .inr (3, [.int 0, .int 0, .int 0, .int 0, .int 0, .int 0, .ref 6, .ref 7, .ref 8, .ref 9]), .inl (false, 4, z0), .inl (false, 4, z0), .inl (false, 4, z0), .inl (false, 4, z0), .inr (3, [.int 0, .int 0, .int 0, .int 0, .int 0, .int 0, .ref 11, .ref 12, .ref 13, .ref 14]), .inl (false, 4, z0), .inl (false, 4, z0), .inl (false, 4, z0), .inl (false, 4, z0), .inr (7, [.ref 16, .int 0, .int 0, .int 0]), .inl (false, 100, z0), .inr (3, [.int 0, .int 0, .int 0, .int 0, .int 0, .int 0, .ref 18, .ref 19, .ref 20, .ref 21]), .inl (false, 4, z0), .inl (false, 4, z0), .inl (false, 4, z0), .inl (false, 4, z0), .inr (3, [.int 0, .int 0, .int 0, .int 0, .int 0, .int 0, .ref 23, .ref 24, .ref 25, .ref 26]), .inl (false, 4, z0), .inl (false, 4, z0), .inl (false, 4, z0), .inl (false, 4, z0), .inr (3, [.int 0, .int 0, .int 0, .int 0, .int 0, .int 0, .ref 28, .ref 29, .ref 30, .ref 31]), .inl (false, 4, z0), .inl (false, 4, z0), .inl (false, 4, z0), .inl (false, 4, z0), .inr (0, [.ref 33, .int 0, .int 0]), .inl (false, 240, z0), .inr (2, [.ref 5, .ref 10, .ref 35]), .inl (false, 4, z0), .inr (5, [.ref 5, .ref 10, .ref 37, .ref 38, .ref 39, .int 0, .int 0]), .inl (false, 16, z0), .inl (false, 4, z0), .inl (false, 4, z0)]
set_option maxRecDepth 10000 in
theorem ct_36 : am_ev 1 58 [.ref 36, .ref 5, .ref 10] ctb_36 none cta_36 := by
  refine rn_ev am_m_X5_init rfl rfl ?_
  refine rn_go 80 (by with_unfolding_all rfl) ?_
  refine rn_ck (by with_unfolding_all rfl) (by exact ⟨rfl, by decide⟩) ?_
  refine rn_go 80 (by with_unfolding_all rfl) ?_
  refine rn_ck (by with_unfolding_all rfl) (by exact ⟨rfl, by decide⟩) ?_
  refine rn_go 80 (by with_unfolding_all rfl) ?_
  refine rn_ck (by with_unfolding_all rfl) (by exact ⟨rfl, by decide⟩) ?_
  refine rn_go 80 (by with_unfolding_all rfl) ?_
  exact rn_rt (by with_unfolding_all rfl) (trivial) (rfl) (by with_unfolding_all rfl)
def ctb_40 : am_H := [.inr (8, [.ref 1, .ref 15, .ref 5, .ref 17, .ref 22, .ref 27, .ref 32, .ref 34, .ref 36, .null, .null, .int 0, .int 0]), .inr (6, [.ref 2, .ref 3, .ref 4]), .inl (false, 8, z0), .inl (false, 8, lm), .inl (false, 320, z0), .inr (3, [.int 0, .int 0, .int 0, .int 0, .int 0, .int 0, .ref 6, .ref 7, .ref 8, .ref 9]), .inl (false, 4, z0), .inl (false, 4, z0), .inl (false, 4, z0), .inl (false, 4, z0), .inr (3, [.int 0, .int 0, .int 0, .int 0, .int 0, .int 0, .ref 11, .ref 12, .ref 13, .ref 14]), .inl (false, 4, z0), .inl (false, 4, z0), .inl (false, 4, z0), .inl (false, 4, z0), .inr (7, [.ref 16, .int 0, .int 0, .int 0]), .inl (false, 100, z0), .inr (3, [.int 0, .int 0, .int 0, .int 0, .int 0, .int 0, .ref 18, .ref 19, .ref 20, .ref 21]), .inl (false, 4, z0), .inl (false, 4, z0), .inl (false, 4, z0), .inl (false, 4, z0), .inr (3, [.int 0, .int 0, .int 0, .int 0, .int 0, .int 0, .ref 23, .ref 24, .ref 25, .ref 26]), .inl (false, 4, z0), .inl (false, 4, z0), .inl (false, 4, z0), .inl (false, 4, z0), .inr (3, [.int 0, .int 0, .int 0, .int 0, .int 0, .int 0, .ref 28, .ref 29, .ref 30, .ref 31]), .inl (false, 4, z0), .inl (false, 4, z0), .inl (false, 4, z0), .inl (false, 4, z0), .inr (0, [.ref 33, .int 0, .int 0]), .inl (false, 240, z0), .inr (2, [.ref 5, .ref 10, .ref 35]), .inl (false, 4, z0), .inr (5, [.ref 5, .ref 10, .ref 37, .ref 38, .ref 39, .int 0, .int 0]), .inl (false, 16, z0), .inl (false, 4, z0), .inl (false, 4, z0), .inr (4, am_blank 4)]
def cta_40 : am_H := [.inr (8, [.ref 1, .ref 15, .ref 5, .ref 17, .ref 22, .ref 27, .ref 32, .ref 34, .ref 36, .null, .null, .int 0, .int 0]), .inr (6, [.ref 2, .ref 3, .ref 4]), .inl (false, 8, z0), .inl (false, 8, lm), .inl (false, 320, z0), .inr (3, [.int 0, .int 0, .int 0, .int 0, .int 0, .int 0, .ref 6, .ref 7, .ref 8, .ref 9]), .inl (false, 4, z0), .inl (false, 4, z0), .inl (false, 4, z0), .inl (false, 4, z0), .inr (3, [.int 0, .int 0, .int 0, .int 0, .int 0, .int 0, .ref 11, .ref 12, .ref 13, .ref 14]), .inl (false, 4, z0), .inl (false, 4, z0), .inl (false, 4, z0), .inl (false, 4, z0), .inr (7, [.ref 16, .int 0, .int 0, .int 0]), .inl (false, 100, z0), .inr (3, [.int 0, .int 0, .int 0, .int 0, .int 0, .int 0, .ref 18, .ref 19, .ref 20, .ref 21]), .inl (false, 4, z0), .inl (false, 4, z0), .inl (false, 4, z0), .inl (false, 4, z0), .inr (3, [.int 0, .int 0, .int 0, .int 0, .int 0, .int 0, .ref 23, .ref 24, .ref 25, .ref 26]), .inl (false, 4, z0), .inl (false, 4, z0), .inl (false, 4, z0), .inl (false, 4, z0), .inr (3, [.int 0, .int 0, .int 0, .int 0, .int 0, .int 0, .ref 28, .ref 29, .ref 30, .ref 31]), .inl (false, 4, z0), .inl (false, 4, z0), .inl (false, 4, z0), .inl (false, 4, z0), .inr (0, [.ref 33, .int 0, .int 0]), .inl (false, 240, z0), .inr (2, [.ref 5, .ref 10, .ref 35]), .inl (false, 4, z0), .inr (5, [.ref 5, .ref 10, .ref 37, .ref 38, .ref 39, .int 0, .int 0]), .inl (false, 16, z0), .inl (false, 4, z0), .inl (false, 4, z0), .inr (4, [.ref 5, .ref 10, .ref 1])]
set_option maxRecDepth 10000 in
theorem ct_40 : am_ev 1 53 [.ref 40, .ref 5, .ref 10, .ref 1] ctb_40 none cta_40 := by
  refine rn_ev am_m_X4_init rfl rfl ?_
  refine rn_go 80 (by with_unfolding_all rfl) ?_
  exact rn_rt (by with_unfolding_all rfl) (trivial) (rfl) (by with_unfolding_all rfl)
def ctb_41 : am_H := [.inr (8, [.ref 1, .ref 15, .ref 5, .ref 17, .ref 22, .ref 27, .ref 32, .ref 34, .ref 36, .ref 40, .null, .int 0, .int 0]), .inr (6, [.ref 2, .ref 3, .ref 4]), .inl (false, 8, z0), .inl (false, 8, lm), .inl (false, 320, z0), .inr (3, [.int 0, .int 0, .int 0, .int 0, .int 0, .int 0, .ref 6, .ref 7, .ref 8, .ref 9]), .inl (false, 4, z0), .inl (false, 4, z0), .inl (false, 4, z0), .inl (false, 4, z0), .inr (3, [.int 0, .int 0, .int 0, .int 0, .int 0, .int 0, .ref 11, .ref 12, .ref 13, .ref 14]), .inl (false, 4, z0), .inl (false, 4, z0), .inl (false, 4, z0), .inl (false, 4, z0), .inr (7, [.ref 16, .int 0, .int 0, .int 0]), .inl (false, 100, z0), .inr (3, [.int 0, .int 0, .int 0, .int 0, .int 0, .int 0, .ref 18, .ref 19, .ref 20, .ref 21]), .inl (false, 4, z0), .inl (false, 4, z0), .inl (false, 4, z0), .inl (false, 4, z0), .inr (3, [.int 0, .int 0, .int 0, .int 0, .int 0, .int 0, .ref 23, .ref 24, .ref 25, .ref 26]), .inl (false, 4, z0), .inl (false, 4, z0), .inl (false, 4, z0), .inl (false, 4, z0), .inr (3, [.int 0, .int 0, .int 0, .int 0, .int 0, .int 0, .ref 28, .ref 29, .ref 30, .ref 31]), .inl (false, 4, z0), .inl (false, 4, z0), .inl (false, 4, z0), .inl (false, 4, z0), .inr (0, [.ref 33, .int 0, .int 0]), .inl (false, 240, z0), .inr (2, [.ref 5, .ref 10, .ref 35]), .inl (false, 4, z0), .inr (5, [.ref 5, .ref 10, .ref 37, .ref 38, .ref 39, .int 0, .int 0]), .inl (false, 16, z0), .inl (false, 4, z0), .inl (false, 4, z0), .inr (4, [.ref 5, .ref 10, .ref 1]), .inr (1, am_blank 1)]
def cta_41 : am_H := [.inr (8, [.ref 1, .ref 15, .ref 5, .ref 17, .ref 22, .ref 27, .ref 32, .ref 34, .ref 36, .ref 40, .null, .int 0, .int 0]), .inr (6, [.ref 2, .ref 3, .ref 4]), .inl (false, 8, z0), .inl (false, 8, lm), .inl (false, 320, z0), .inr (3, [.int 0, .int 0, .int 0, .int 0, .int 0, .int 0, .ref 6, .ref 7, .ref 8, .ref 9]), .inl (false, 4, z0), .inl (false, 4, z0), .inl (false, 4, z0), .inl (false, 4, z0), .inr (3, [.int 0, .int 0, .int 0, .int 0, .int 0, .int 0, .ref 11, .ref 12, .ref 13, .ref 14]), .inl (false, 4, z0), .inl (false, 4, z0), .inl (false, 4, z0), .inl (false, 4, z0), .inr (7, [.ref 16, .int 0, .int 0, .int 0]), .inl (false, 100, z0), .inr (3, [.int 0, .int 0, .int 0, .int 0, .int 0, .int 0, .ref 18, .ref 19, .ref 20, .ref 21]), .inl (false, 4, z0), .inl (false, 4, z0), .inl (false, 4, z0), .inl (false, 4, z0), .inr (3, [.int 0, .int 0, .int 0, .int 0, .int 0, .int 0, .ref 23, .ref 24, .ref 25, .ref 26]), .inl (false, 4, z0), .inl (false, 4, z0), .inl (false, 4, z0), .inl (false, 4, z0), .inr (3, [.int 0, .int 0, .int 0, .int 0, .int 0, .int 0, .ref 28, .ref 29, .ref 30, .ref 31]), .inl (false, 4, z0), .inl (false, 4, z0), .inl (false, 4, z0), .inl (false, 4, z0), .inr (0, [.ref 33, .int 0, .int 0]), .inl (false, 240, z0), .inr (2, [.ref 5, .ref 10, .ref 35]), .inl (false, 4, z0), .inr (5, [.ref 5, .ref 10, .ref 37, .ref 38, .ref 39, .int 0, .int 0]), .inl (false, 16, z0), .inl (false, 4, z0), .inl (false, 4, z0), .inr (4, [.ref 5, .ref 10, .ref 1]), .inr (1, [.ref 5, .ref 42, .int 0, .int 0]), .inl (false, 16, z0)]
set_option maxRecDepth 10000 in
theorem ct_41 : am_ev 1 4 [.ref 41, .ref 5] ctb_41 none cta_41 := by
  refine rn_ev am_m_X1_init rfl rfl ?_
  refine rn_go 80 (by with_unfolding_all rfl) ?_
  refine rn_ck (by with_unfolding_all rfl) (by exact ⟨rfl, by decide⟩) ?_
  refine rn_go 80 (by with_unfolding_all rfl) ?_
  exact rn_rt (by with_unfolding_all rfl) (trivial) (rfl) (by with_unfolding_all rfl)
def ctb_43 : am_H := [.inr (8, [.ref 1, .ref 15, .ref 5, .ref 17, .ref 22, .ref 27, .ref 32, .ref 34, .ref 36, .ref 40, .ref 41, .int 0, .int 0]), .inr (6, [.ref 2, .ref 3, .ref 4]), .inl (false, 8, z0), .inl (false, 8, lm), .inl (false, 320, z0), .inr (3, [.int 0, .int 0, .int 0, .int 0, .int 0, .int 0, .ref 6, .ref 7, .ref 8, .ref 9]), .inl (false, 4, z0), .inl (false, 4, z0), .inl (false, 4, z0), .inl (false, 4, z0), .inr (3, [.int 0, .int 0, .int 0, .int 0, .int 0, .int 0, .ref 11, .ref 12, .ref 13, .ref 14]), .inl (false, 4, z0), .inl (false, 4, z0), .inl (false, 4, z0), .inl (false, 4, z0), .inr (7, [.ref 16, .int 0, .int 0, .int 0]), .inl (false, 100, z0), .inr (3, [.int 0, .int 0, .int 0, .int 0, .int 0, .int 0, .ref 18, .ref 19, .ref 20, .ref 21]), .inl (false, 4, z0), .inl (false, 4, z0), .inl (false, 4, z0), .inl (false, 4, z0), .inr (3, [.int 0, .int 0, .int 0, .int 0, .int 0, .int 0, .ref 23, .ref 24, .ref 25, .ref 26]), .inl (false, 4, z0), .inl (false, 4, z0), .inl (false, 4, z0), .inl (false, 4, z0), .inr (3, [.int 0, .int 0, .int 0, .int 0, .int 0, .int 0, .ref 28, .ref 29, .ref 30, .ref 31]), .inl (false, 4, z0), .inl (false, 4, z0), .inl (false, 4, z0), .inl (false, 4, z0), .inr (0, [.ref 33, .int 0, .int 0]), .inl (false, 240, z0), .inr (2, [.ref 5, .ref 10, .ref 35]), .inl (false, 4, z0), .inr (5, [.ref 5, .ref 10, .ref 37, .ref 38, .ref 39, .int 0, .int 0]), .inl (false, 16, z0), .inl (false, 4, z0), .inl (false, 4, z0), .inr (4, [.ref 5, .ref 10, .ref 1]), .inr (1, [.ref 5, .ref 42, .int 0, .int 0]), .inl (false, 16, z0), .inr (9, am_blank 9)]
def cta_43 : am_H := [.inr (8, [.ref 1, .ref 15, .ref 5, .ref 17, .ref 22, .ref 27, .ref 32, .ref 34, .ref 36, .ref 40, .ref 41, .int 0, .int 0]), .inr (6, [.ref 2, .ref 3, .ref 4]), .inl (false, 8, z0), .inl (false, 8, lm), .inl (false, 320, z0), .inr (3, [.int 0, .int 0, .int 0, .int 0, .int 0, .int 0, .ref 6, .ref 7, .ref 8, .ref 9]), .inl (false, 4, z0), .inl (false, 4, z0), .inl (false, 4, z0), .inl (false, 4, z0), .inr (3, [.int 0, .int 0, .int 0, .int 0, .int 0, .int 0, .ref 11, .ref 12, .ref 13, .ref 14]), .inl (false, 4, z0), .inl (false, 4, z0), .inl (false, 4, z0), .inl (false, 4, z0), .inr (7, [.ref 16, .int 0, .int 0, .int 0]), .inl (false, 100, z0), .inr (3, [.int 0, .int 0, .int 0, .int 0, .int 0, .int 0, .ref 18, .ref 19, .ref 20, .ref 21]), .inl (false, 4, z0), .inl (false, 4, z0), .inl (false, 4, z0), .inl (false, 4, z0), .inr (3, [.int 0, .int 0, .int 0, .int 0, .int 0, .int 0, .ref 23, .ref 24, .ref 25, .ref 26]), .inl (false, 4, z0), .inl (false, 4, z0), .inl (false, 4, z0), .inl (false, 4, z0), .inr (3, [.int 0, .int 0, .int 0, .int 0, .int 0, .int 0, .ref 28, .ref 29, .ref 30, .ref 31]), .inl (false, 4, z0), .inl (false, 4, z0), .inl (false, 4, z0), .inl (false, 4, z0), .inr (0, [.ref 33, .int 0, .int 0]), .inl (false, 240, z0), .inr (2, [.ref 5, .ref 10, .ref 35]), .inl (false, 4, z0), .inr (5, [.ref 5, .ref 10, .ref 37, .ref 38, .ref 39, .int 0, .int 0]), .inl (false, 16, z0), .inl (false, 4, z0), .inl (false, 4, z0), .inr (4, [.ref 5, .ref 10, .ref 1]), .inr (1, [.ref 5, .ref 42, .int 0, .int 0]), .inl (false, 16, z0), .inr (9, [.ref 44, .int 0, .int 0, .ref 45, .ref 46, .ref 47, .ref 48, .ref 49, .int 0, .int 0, .int 0, .ref 50, .int 0, .int 0, .int 0, .int 0, .ref 51, .ref 52, .ref 53]), .inl (false, 672, z0), .inl (true, 2, z0), .inl (false, 8, z0), .inl (false, 8, lm), .inl (false, 320, z0), .inl (false, 100, z0), .inl (false, 16, z0), .inl (false, 5, z0), .inl (false, 4, z0), .inl (false, 4, z0)]
set_option maxRecDepth 10000 in
theorem ct_43 : am_ev 1 136 [.ref 43] ctb_43 none cta_43 := by
  refine rn_ev am_m_X9_init rfl rfl ?_
  refine rn_go 80 (by with_unfolding_all rfl) ?_
  refine rn_ck (by with_unfolding_all rfl) (by exact ⟨rfl, by decide⟩) ?_
  refine rn_go 80 (by with_unfolding_all rfl) ?_
  refine rn_ck (by with_unfolding_all rfl) (by exact ⟨rfl, by decide⟩) ?_
  refine rn_go 80 (by with_unfolding_all rfl) ?_
  refine rn_ck (by with_unfolding_all rfl) (by exact ⟨rfl, by decide⟩) ?_
  refine rn_go 80 (by with_unfolding_all rfl) ?_
  refine rn_ck (by with_unfolding_all rfl) (by exact ⟨rfl, by decide⟩) ?_
  refine rn_go 80 (by with_unfolding_all rfl) ?_
  refine rn_st (0) (by with_unfolding_all rfl) (by decide) (by decide) (by decide) ?_
  refine rn_go 80 (by with_unfolding_all rfl) ?_
  refine rn_st (1) (by with_unfolding_all rfl) (by decide) (by decide) (by decide) ?_
  refine rn_go 80 (by with_unfolding_all rfl) ?_
  refine rn_st (2) (by with_unfolding_all rfl) (by decide) (by decide) (by decide) ?_
  refine rn_go 80 (by with_unfolding_all rfl) ?_
  refine rn_st (3) (by with_unfolding_all rfl) (by decide) (by decide) (by decide) ?_
  refine rn_go 80 (by with_unfolding_all rfl) ?_
  refine rn_st (4) (by with_unfolding_all rfl) (by decide) (by decide) (by decide) ?_
  refine rn_go 80 (by with_unfolding_all rfl) ?_
  refine rn_st (5) (by with_unfolding_all rfl) (by decide) (by decide) (by decide) ?_
  refine rn_go 80 (by with_unfolding_all rfl) ?_
  refine rn_st (6) (by with_unfolding_all rfl) (by decide) (by decide) (by decide) ?_
  refine rn_go 80 (by with_unfolding_all rfl) ?_
  refine rn_st (7) (by with_unfolding_all rfl) (by decide) (by decide) (by decide) ?_
  refine rn_go 80 (by with_unfolding_all rfl) ?_
  refine rn_ck (by with_unfolding_all rfl) (by exact ⟨rfl, by decide⟩) ?_
  refine rn_go 80 (by with_unfolding_all rfl) ?_
  refine rn_ck (by with_unfolding_all rfl) (by exact ⟨rfl, by decide⟩) ?_
  refine rn_go 80 (by with_unfolding_all rfl) ?_
  refine rn_ck (by with_unfolding_all rfl) (by exact ⟨rfl, by decide⟩) ?_
  refine rn_go 80 (by with_unfolding_all rfl) ?_
  refine rn_ck (by with_unfolding_all rfl) (by exact ⟨rfl, by decide⟩) ?_
  refine rn_go 80 (by with_unfolding_all rfl) ?_
  refine rn_ck (by with_unfolding_all rfl) (by exact ⟨rfl, by decide⟩) ?_
  refine rn_go 80 (by with_unfolding_all rfl) ?_
  refine rn_ck (by with_unfolding_all rfl) (by exact ⟨rfl, by decide⟩) ?_
  refine rn_go 80 (by with_unfolding_all rfl) ?_
  exact rn_rt (by with_unfolding_all rfl) (trivial) (rfl) (by with_unfolding_all rfl)
def ctb_0 : am_H := [.inr (8, am_blank 8)]
def cta_0 : am_H := [.inr (8, [.ref 1, .ref 15, .ref 5, .ref 17, .ref 22, .ref 27, .ref 32, .ref 34, .ref 36, .ref 40, .ref 41, .int 0, .int 0]), .inr (6, [.ref 2, .ref 3, .ref 4]), .inl (false, 8, z0), .inl (false, 8, lm), .inl (false, 320, z0), .inr (3, [.int 0, .int 0, .int 0, .int 0, .int 0, .int 0, .ref 6, .ref 7, .ref 8, .ref 9]), .inl (false, 4, z0), .inl (false, 4, z0), .inl (false, 4, z0), .inl (false, 4, z0), .inr (3, [.int 0, .int 0, .int 0, .int 0, .int 0, .int 0, .ref 11, .ref 12, .ref 13, .ref 14]), .inl (false, 4, z0), .inl (false, 4, z0), .inl (false, 4, z0), .inl (false, 4, z0), .inr (7, [.ref 16, .int 0, .int 0, .int 0]), .inl (false, 100, z0), .inr (3, [.int 0, .int 0, .int 0, .int 0, .int 0, .int 0, .ref 18, .ref 19, .ref 20, .ref 21]), .inl (false, 4, z0), .inl (false, 4, z0), .inl (false, 4, z0), .inl (false, 4, z0), .inr (3, [.int 0, .int 0, .int 0, .int 0, .int 0, .int 0, .ref 23, .ref 24, .ref 25, .ref 26]), .inl (false, 4, z0), .inl (false, 4, z0), .inl (false, 4, z0), .inl (false, 4, z0), .inr (3, [.int 0, .int 0, .int 0, .int 0, .int 0, .int 0, .ref 28, .ref 29, .ref 30, .ref 31]), .inl (false, 4, z0), .inl (false, 4, z0), .inl (false, 4, z0), .inl (false, 4, z0), .inr (0, [.ref 33, .int 0, .int 0]), .inl (false, 240, z0), .inr (2, [.ref 5, .ref 10, .ref 35]), .inl (false, 4, z0), .inr (5, [.ref 5, .ref 10, .ref 37, .ref 38, .ref 39, .int 0, .int 0]), .inl (false, 16, z0), .inl (false, 4, z0), .inl (false, 4, z0), .inr (4, [.ref 5, .ref 10, .ref 1]), .inr (1, [.ref 5, .ref 42, .int 0, .int 0]), .inl (false, 16, z0)]
set_option maxRecDepth 10000 in
theorem ct_0 : am_ev 2 92 [.ref 0] ctb_0 none cta_0 := by
  refine rn_ev am_m_X8_init rfl rfl ?_
  refine rn_to 8 80 (by with_unfolding_all rfl) ?_
  refine rn_hp (by with_unfolding_all exact ((rfl : _ = ctb_1))) ?_
  refine rn_cl (by with_unfolding_all rfl) (ev_up (by decide) (ct_1)) ?_
  refine rn_to 16 80 (by with_unfolding_all rfl) ?_
  refine rn_hp (by with_unfolding_all exact ((rfl : _ = ctb_5))) ?_
  refine rn_cl (by with_unfolding_all rfl) (ev_up (by decide) (ct_5)) ?_
  refine rn_to 24 80 (by with_unfolding_all rfl) ?_
  refine rn_hp (by with_unfolding_all exact ((rfl : _ = ctb_10))) ?_
  refine rn_cl (by with_unfolding_all rfl) (ev_up (by decide) (ct_10)) ?_
  refine rn_to 38 80 (by with_unfolding_all rfl) ?_
  refine rn_hp (by with_unfolding_all exact ((rfl : _ = ctb_15))) ?_
  refine rn_cl (by with_unfolding_all rfl) (ev_up (by decide) (ct_15)) ?_
  refine rn_to 54 80 (by with_unfolding_all rfl) ?_
  refine rn_hp (by with_unfolding_all exact ((rfl : _ = ctb_17))) ?_
  refine rn_cl (by with_unfolding_all rfl) (ev_up (by decide) (ct_17)) ?_
  refine rn_to 65 80 (by with_unfolding_all rfl) ?_
  refine rn_hp (by with_unfolding_all exact ((rfl : _ = ctb_22))) ?_
  refine rn_cl (by with_unfolding_all rfl) (ev_up (by decide) (ct_22)) ?_
  refine rn_to 76 80 (by with_unfolding_all rfl) ?_
  refine rn_hp (by with_unfolding_all exact ((rfl : _ = ctb_27))) ?_
  refine rn_cl (by with_unfolding_all rfl) (ev_up (by decide) (ct_27)) ?_
  refine rn_to 87 80 (by with_unfolding_all rfl) ?_
  refine rn_hp (by with_unfolding_all exact ((rfl : _ = ctb_32))) ?_
  refine rn_cl (by with_unfolding_all rfl) (ev_up (by decide) (ct_32)) ?_
  refine rn_to 100 80 (by with_unfolding_all rfl) ?_
  refine rn_hp (by with_unfolding_all exact ((rfl : _ = ctb_34))) ?_
  refine rn_cl (by with_unfolding_all rfl) (ev_up (by decide) (ct_34)) ?_
  refine rn_to 113 80 (by with_unfolding_all rfl) ?_
  refine rn_hp (by with_unfolding_all exact ((rfl : _ = ctb_36))) ?_
  refine rn_cl (by with_unfolding_all rfl) (ev_up (by decide) (ct_36)) ?_
  refine rn_to 127 80 (by with_unfolding_all rfl) ?_
  refine rn_hp (by with_unfolding_all exact ((rfl : _ = ctb_40))) ?_
  refine rn_cl (by with_unfolding_all rfl) (ev_up (by decide) (ct_40)) ?_
  refine rn_to 139 80 (by with_unfolding_all rfl) ?_
  refine rn_hp (by with_unfolding_all exact ((rfl : _ = ctb_41))) ?_
  refine rn_cl (by with_unfolding_all rfl) (ev_up (by decide) (ct_41)) ?_
  refine rn_go 80 (by with_unfolding_all rfl) ?_
  exact rn_rt (by with_unfolding_all rfl) (trivial) (rfl) (by with_unfolding_all rfl)
set_option maxRecDepth 10000 in
theorem wa_z (b : Nat) : wa z0 b = z0 := by
  funext k
  unfold wa z0
  split
  · rfl
  · rfl
def ctT : Nat → Nat → Int32 := fun _ => z0
def ctA : Nat → Nat → Int32 := tu ctT 1 lm
def ctM : Nat → Nat → Int32 := tu ctT 3 lm
set_option maxRecDepth 10000 in
theorem ct_T (a : Nat) : ctT a = z0 := rfl
set_option maxRecDepth 10000 in
theorem ct_wd : wd z0 ctT ctA z0 ctM = cta_43 := by
  unfold wd
  rw [ct_T, ct_T, ct_T, ct_T, ct_T, wa_z, wa_z, wa_z, wa_z]
  rfl
set_option maxRecDepth 10000 in
theorem lm_k : ∀ k, k < 8 → lm k = -1
  | 0, _ => rfl
  | 1, _ => rfl
  | 2, _ => rfl
  | 3, _ => rfl
  | 4, _ => rfl
  | 5, _ => rfl
  | 6, _ => rfl
  | 7, _ => rfl
  | k + 8, h => absurd h (by omega)
set_option maxRecDepth 10000 in
theorem inv_0 : Inv z0 ctT ctA z0 ctM := by
  refine ⟨rfl, rfl, ⟨rfl, rfl, 0, by decide, rfl⟩, ⟨rfl, rfl, rfl, fun k hk => ⟨Or.inl (lm_k k hk), Or.inl rfl⟩⟩, ⟨rfl, rfl, 0, by decide, rfl⟩, ?_, ⟨rfl, Or.inl rfl⟩, ⟨rfl, Or.inl rfl⟩⟩
  refine ⟨rfl, 0, 0, 0, ⟨⟨fun p hp => absurd hp (Nat.not_lt_zero _), 0, by decide, rfl⟩, rfl, by decide, rfl, by decide, rfl, by decide, Or.inl ⟨rfl, rfl, rfl⟩, ⟨fun k hk => rfl, fun m hm => absurd hm (Nat.not_lt_zero _), fun p hp => absurd hp (Nat.not_lt_zero _)⟩⟩, rfl, 0, 0, rfl, by decide, rfl, by decide, fun j hj => absurd hj (Nat.not_lt_zero _)⟩
def lc (i : Int32) : am_L := [some (.retAddr 0), some (.ref 0), some (.ref 43), some (.int i)]
set_option maxRecDepth 10000 in
theorem lw_head {L : Nat} {xs : Nat → Int32} {v : Option Value} {h' : am_H} (hr : rn (some (L, xs)) 40 am_t_law (18, lc (nI (6 * 0)), [], wd z0 ctT ctA z0 ctM) v h') : rn (some (L, xs)) 40 am_t_law (0, [some (.retAddr 0), none, none, none], [], []) v h' := by
  rw [ct_wd] at hr
  refine rn_to 4 80 (by with_unfolding_all rfl) ?_
  refine rn_hp (by with_unfolding_all exact ((rfl : _ = ctb_0))) ?_
  refine rn_cl (by with_unfolding_all rfl) (ev_up (by decide) (ct_0)) ?_
  refine rn_to 12 80 (by with_unfolding_all rfl) ?_
  refine rn_hp (by with_unfolding_all exact ((rfl : _ = ctb_43))) ?_
  refine rn_cl (by with_unfolding_all rfl) (ev_up (by decide) (ct_43)) ?_
  refine rn_to 18 80 (by with_unfolding_all rfl) ?_
  with_unfolding_all exact hr

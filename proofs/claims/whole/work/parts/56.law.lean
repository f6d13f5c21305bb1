/-! the law: each of its cases -/
def Nxt (L : Nat) (xs : Nat → Int32) (k : Nat) (g : Nat → Int32) (T A : Nat → Nat → Int32) (gm : Nat → Int32) (Am : Nat → Nat → Int32) (pc : Nat) : Prop := ∃ (g' gm' : Nat → Int32) (T' A' Am' : Nat → Nat → Int32), Inv g' T' A' gm' Am' ∧ ∀ (v : Option Value) (h' : am_H), rn (some (L, xs)) 40 am_t_law (1176, lc (nI (6 * k)), [], wd g' T' A' gm' Am') v h' → rn (some (L, xs)) 40 am_t_law (pc, lc (nI (6 * k)), [], wd g T A gm Am) v h'
set_option maxRecDepth 10000 in
theorem sx (k j : Nat) : nI (6 * k) + nI j = nI (6 * k + j) := nI_add _ _
section
variable {g gm : Nat → Int32} {T A Am : Nat → Nat → Int32} {L k : Nat} {xs : Nat → Int32}
set_option maxRecDepth 10000 in
theorem lw_row (hL : L ≤ 3072) (hk : 6 * k + 6 ≤ L) (hI : Inv g T A gm Am) : Nxt L xs k g T A gm Am 184 := by
  obtain ⟨x, g', gm', T', A', Am', ex, em, hJ⟩ := (sim_row (xs (6 * k + 1)) (xs (6 * k + 2)) (xs (6 * k + 3))) g gm T A Am hI
  refine ⟨g', gm', T', A', Am', hJ, fun v h' hr => ?_⟩
  refine rn_go 80 (by with_unfolding_all rfl) ?_
  refine rn_ld (6 * k + 1) (by with_unfolding_all rfl) (sx k 1) (by omega) (by omega) ?_
  refine rn_go 80 (by with_unfolding_all rfl) ?_
  refine rn_ld (6 * k + 2) (by with_unfolding_all rfl) (sx k 2) (by omega) (by omega) ?_
  refine rn_go 80 (by with_unfolding_all rfl) ?_
  refine rn_ld (6 * k + 3) (by with_unfolding_all rfl) (sx k 3) (by omega) (by omega) ?_
  refine rn_go 80 (by with_unfolding_all rfl) ?_
  refine rn_cl (by with_unfolding_all rfl) (ev_up (by decide) (ex)) ?_
  refine rn_go 80 (by with_unfolding_all rfl) ?_
  refine rn_ld (6 * k + 1) (by with_unfolding_all rfl) (sx k 1) (by omega) (by omega) ?_
  refine rn_go 80 (by with_unfolding_all rfl) ?_
  refine rn_ld (6 * k + 2) (by with_unfolding_all rfl) (sx k 2) (by omega) (by omega) ?_
  refine rn_go 80 (by with_unfolding_all rfl) ?_
  refine rn_ld (6 * k + 3) (by with_unfolding_all rfl) (sx k 3) (by omega) (by omega) ?_
  refine rn_go 80 (by with_unfolding_all rfl) ?_
  refine rn_cl (by with_unfolding_all rfl) (ev_up (by decide) (em)) ?_
  refine rn_go 80 (by with_unfolding_all rfl) ?_
  refine rn_br (by with_unfolding_all rfl) (fun _ => ?_) (fun c_ => absurd (rfl) c_)
  with_unfolding_all exact hr
set_option maxRecDepth 10000 in
theorem lw_set (hL : L ≤ 3072) (hk : 6 * k + 6 ≤ L) (hI : Inv g T A gm Am) : Nxt L xs k g T A gm Am 227 := by
  obtain ⟨x, g', gm', T', A', Am', ex, em, hJ⟩ := (sim_set (xs (6 * k + 1)) (xs (6 * k + 2)) (xs (6 * k + 3))) g gm T A Am hI
  refine ⟨g', gm', T', A', Am', hJ, fun v h' hr => ?_⟩
  refine rn_go 80 (by with_unfolding_all rfl) ?_
  refine rn_ld (6 * k + 1) (by with_unfolding_all rfl) (sx k 1) (by omega) (by omega) ?_
  refine rn_go 80 (by with_unfolding_all rfl) ?_
  refine rn_ld (6 * k + 2) (by with_unfolding_all rfl) (sx k 2) (by omega) (by omega) ?_
  refine rn_go 80 (by with_unfolding_all rfl) ?_
  refine rn_ld (6 * k + 3) (by with_unfolding_all rfl) (sx k 3) (by omega) (by omega) ?_
  refine rn_go 80 (by with_unfolding_all rfl) ?_
  refine rn_cl (by with_unfolding_all rfl) (ev_up (by decide) (ex)) ?_
  refine rn_go 80 (by with_unfolding_all rfl) ?_
  refine rn_ld (6 * k + 1) (by with_unfolding_all rfl) (sx k 1) (by omega) (by omega) ?_
  refine rn_go 80 (by with_unfolding_all rfl) ?_
  refine rn_ld (6 * k + 2) (by with_unfolding_all rfl) (sx k 2) (by omega) (by omega) ?_
  refine rn_go 80 (by with_unfolding_all rfl) ?_
  refine rn_ld (6 * k + 3) (by with_unfolding_all rfl) (sx k 3) (by omega) (by omega) ?_
  refine rn_go 80 (by with_unfolding_all rfl) ?_
  refine rn_cl (by with_unfolding_all rfl) (ev_up (by decide) (em)) ?_
  refine rn_go 80 (by with_unfolding_all rfl) ?_
  refine rn_br (by with_unfolding_all rfl) (fun _ => ?_) (fun c_ => absurd (rfl) c_)
  with_unfolding_all exact hr
set_option maxRecDepth 10000 in
theorem lw_copy (hL : L ≤ 3072) (hk : 6 * k + 6 ≤ L) (hI : Inv g T A gm Am) : Nxt L xs k g T A gm Am 270 := by
  obtain ⟨x, g', gm', T', A', Am', ex, em, hJ⟩ := (sim_copy (xs (6 * k + 1)) (xs (6 * k + 2)) (xs (6 * k + 3)) (xs (6 * k + 4)) (xs (6 * k + 5))) g gm T A Am hI
  refine ⟨g', gm', T', A', Am', hJ, fun v h' hr => ?_⟩
  refine rn_go 80 (by with_unfolding_all rfl) ?_
  refine rn_ld (6 * k + 1) (by with_unfolding_all rfl) (sx k 1) (by omega) (by omega) ?_
  refine rn_go 80 (by with_unfolding_all rfl) ?_
  refine rn_ld (6 * k + 2) (by with_unfolding_all rfl) (sx k 2) (by omega) (by omega) ?_
  refine rn_go 80 (by with_unfolding_all rfl) ?_
  refine rn_ld (6 * k + 3) (by with_unfolding_all rfl) (sx k 3) (by omega) (by omega) ?_
  refine rn_go 80 (by with_unfolding_all rfl) ?_
  refine rn_ld (6 * k + 4) (by with_unfolding_all rfl) (sx k 4) (by omega) (by omega) ?_
  refine rn_go 80 (by with_unfolding_all rfl) ?_
  refine rn_ld (6 * k + 5) (by with_unfolding_all rfl) (sx k 5) (by omega) (by omega) ?_
  refine rn_go 80 (by with_unfolding_all rfl) ?_
  refine rn_cl (by with_unfolding_all rfl) (ev_up (by decide) (ex)) ?_
  refine rn_go 80 (by with_unfolding_all rfl) ?_
  refine rn_ld (6 * k + 1) (by with_unfolding_all rfl) (sx k 1) (by omega) (by omega) ?_
  refine rn_go 80 (by with_unfolding_all rfl) ?_
  refine rn_ld (6 * k + 2) (by with_unfolding_all rfl) (sx k 2) (by omega) (by omega) ?_
  refine rn_go 80 (by with_unfolding_all rfl) ?_
  refine rn_ld (6 * k + 3) (by with_unfolding_all rfl) (sx k 3) (by omega) (by omega) ?_
  refine rn_go 80 (by with_unfolding_all rfl) ?_
  refine rn_ld (6 * k + 4) (by with_unfolding_all rfl) (sx k 4) (by omega) (by omega) ?_
  refine rn_go 80 (by with_unfolding_all rfl) ?_
  refine rn_ld (6 * k + 5) (by with_unfolding_all rfl) (sx k 5) (by omega) (by omega) ?_
  refine rn_go 80 (by with_unfolding_all rfl) ?_
  refine rn_cl (by with_unfolding_all rfl) (ev_up (by decide) (em)) ?_
  refine rn_go 80 (by with_unfolding_all rfl) ?_
  refine rn_br (by with_unfolding_all rfl) (fun _ => ?_) (fun c_ => absurd (rfl) c_)
  with_unfolding_all exact hr
set_option maxRecDepth 10000 in
theorem lw_drop (hL : L ≤ 3072) (hk : 6 * k + 6 ≤ L) (hI : Inv g T A gm Am) : Nxt L xs k g T A gm Am 333 := by
  obtain ⟨x, g', gm', T', A', Am', ex, em, hJ⟩ := (sim_drop (xs (6 * k + 1))) g gm T A Am hI
  refine ⟨g', gm', T', A', Am', hJ, fun v h' hr => ?_⟩
  refine rn_go 80 (by with_unfolding_all rfl) ?_
  refine rn_ld (6 * k + 1) (by with_unfolding_all rfl) (sx k 1) (by omega) (by omega) ?_
  refine rn_go 80 (by with_unfolding_all rfl) ?_
  refine rn_cl (by with_unfolding_all rfl) (ev_up (by decide) (ex)) ?_
  refine rn_go 80 (by with_unfolding_all rfl) ?_
  refine rn_ld (6 * k + 1) (by with_unfolding_all rfl) (sx k 1) (by omega) (by omega) ?_
  refine rn_go 80 (by with_unfolding_all rfl) ?_
  refine rn_cl (by with_unfolding_all rfl) (ev_up (by decide) (em)) ?_
  refine rn_go 80 (by with_unfolding_all rfl) ?_
  refine rn_br (by with_unfolding_all rfl) (fun _ => ?_) (fun c_ => absurd (rfl) c_)
  with_unfolding_all exact hr
set_option maxRecDepth 10000 in
theorem lw_feed (hL : L ≤ 3072) (hk : 6 * k + 6 ≤ L) (hI : Inv g T A gm Am) : Nxt L xs k g T A gm Am 356 := by
  obtain ⟨x, g', gm', T', A', Am', ex, em, hJ⟩ := (sim_feed (xs (6 * k + 1))) g gm T A Am hI
  refine ⟨g', gm', T', A', Am', hJ, fun v h' hr => ?_⟩
  refine rn_go 80 (by with_unfolding_all rfl) ?_
  refine rn_ld (6 * k + 1) (by with_unfolding_all rfl) (sx k 1) (by omega) (by omega) ?_
  refine rn_go 80 (by with_unfolding_all rfl) ?_
  refine rn_cl (by with_unfolding_all rfl) (ev_up (by decide) (ex)) ?_
  refine rn_go 80 (by with_unfolding_all rfl) ?_
  refine rn_ld (6 * k + 1) (by with_unfolding_all rfl) (sx k 1) (by omega) (by omega) ?_
  refine rn_go 80 (by with_unfolding_all rfl) ?_
  refine rn_cl (by with_unfolding_all rfl) (ev_up (by decide) (em)) ?_
  refine rn_go 80 (by with_unfolding_all rfl) ?_
  refine rn_br (by with_unfolding_all rfl) (fun _ => ?_) (fun c_ => absurd (rfl) c_)
  with_unfolding_all exact hr
set_option maxRecDepth 10000 in
theorem lw_hill (hL : L ≤ 3072) (hk : 6 * k + 6 ≤ L) (hI : Inv g T A gm Am) : Nxt L xs k g T A gm Am 379 := by
  obtain ⟨x, g', gm', T', A', Am', ex, em, hJ⟩ := (sim_hill) g gm T A Am hI
  refine ⟨g', gm', T', A', Am', hJ, fun v h' hr => ?_⟩
  refine rn_go 80 (by with_unfolding_all rfl) ?_
  refine rn_cl (by with_unfolding_all rfl) (ev_up (by decide) (ex)) ?_
  refine rn_go 80 (by with_unfolding_all rfl) ?_
  refine rn_cl (by with_unfolding_all rfl) (ev_up (by decide) (em)) ?_
  refine rn_go 80 (by with_unfolding_all rfl) ?_
  refine rn_br (by with_unfolding_all rfl) (fun _ => ?_) (fun c_ => absurd (rfl) c_)
  with_unfolding_all exact hr
set_option maxRecDepth 10000 in
theorem lw_fault (hL : L ≤ 3072) (hk : 6 * k + 6 ≤ L) (hI : Inv g T A gm Am) : Nxt L xs k g T A gm Am 392 := by
  obtain ⟨x, g', gm', T', A', Am', ex, em, hJ⟩ := (sim_fault) g gm T A Am hI
  refine ⟨g', gm', T', A', Am', hJ, fun v h' hr => ?_⟩
  refine rn_go 80 (by with_unfolding_all rfl) ?_
  refine rn_cl (by with_unfolding_all rfl) (ev_up (by decide) (ex)) ?_
  refine rn_go 80 (by with_unfolding_all rfl) ?_
  refine rn_cl (by with_unfolding_all rfl) (ev_up (by decide) (em)) ?_
  refine rn_go 80 (by with_unfolding_all rfl) ?_
  refine rn_br (by with_unfolding_all rfl) (fun _ => ?_) (fun c_ => absurd (rfl) c_)
  with_unfolding_all exact hr
set_option maxRecDepth 10000 in
theorem lw_speak (hL : L ≤ 3072) (hk : 6 * k + 6 ≤ L) (hI : Inv g T A gm Am) : Nxt L xs k g T A gm Am 405 := by
  obtain ⟨x, g', gm', T', A', Am', ex, em, hJ⟩ := (sim_speak (xs (6 * k + 1))) g gm T A Am hI
  refine ⟨g', gm', T', A', Am', hJ, fun v h' hr => ?_⟩
  refine rn_go 80 (by with_unfolding_all rfl) ?_
  refine rn_ld (6 * k + 1) (by with_unfolding_all rfl) (sx k 1) (by omega) (by omega) ?_
  refine rn_go 80 (by with_unfolding_all rfl) ?_
  refine rn_cl (by with_unfolding_all rfl) (ev_up (by decide) (ex)) ?_
  refine rn_go 80 (by with_unfolding_all rfl) ?_
  refine rn_ld (6 * k + 1) (by with_unfolding_all rfl) (sx k 1) (by omega) (by omega) ?_
  refine rn_go 80 (by with_unfolding_all rfl) ?_
  refine rn_cl (by with_unfolding_all rfl) (ev_up (by decide) (em)) ?_
  refine rn_go 80 (by with_unfolding_all rfl) ?_
  refine rn_br (by with_unfolding_all rfl) (fun _ => ?_) (fun c_ => absurd (rfl) c_)
  with_unfolding_all exact hr
set_option maxRecDepth 10000 in
theorem lw_lozenge (hL : L ≤ 3072) (hk : 6 * k + 6 ≤ L) (hI : Inv g T A gm Am) : Nxt L xs k g T A gm Am 428 := by
  obtain ⟨x, g', gm', T', A', Am', ex, em, hJ⟩ := (sim_lozenge (xs (6 * k + 1))) g gm T A Am hI
  refine ⟨g', gm', T', A', Am', hJ, fun v h' hr => ?_⟩
  refine rn_go 80 (by with_unfolding_all rfl) ?_
  refine rn_ld (6 * k + 1) (by with_unfolding_all rfl) (sx k 1) (by omega) (by omega) ?_
  refine rn_go 80 (by with_unfolding_all rfl) ?_
  refine rn_cl (by with_unfolding_all rfl) (ev_up (by decide) (ex)) ?_
  refine rn_go 80 (by with_unfolding_all rfl) ?_
  refine rn_ld (6 * k + 1) (by with_unfolding_all rfl) (sx k 1) (by omega) (by omega) ?_
  refine rn_go 80 (by with_unfolding_all rfl) ?_
  refine rn_cl (by with_unfolding_all rfl) (ev_up (by decide) (em)) ?_
  refine rn_go 80 (by with_unfolding_all rfl) ?_
  refine rn_br (by with_unfolding_all rfl) (fun _ => ?_) (fun c_ => absurd (rfl) c_)
  with_unfolding_all exact hr
set_option maxRecDepth 10000 in
theorem lw_cold (hL : L ≤ 3072) (hk : 6 * k + 6 ≤ L) (hI : Inv g T A gm Am) : Nxt L xs k g T A gm Am 451 := by
  obtain ⟨x, g', gm', T', A', Am', ex, em, hJ⟩ := (sim_cold (xs (6 * k + 1)) (xs (6 * k + 2))) g gm T A Am hI
  refine ⟨g', gm', T', A', Am', hJ, fun v h' hr => ?_⟩
  refine rn_go 80 (by with_unfolding_all rfl) ?_
  refine rn_ld (6 * k + 1) (by with_unfolding_all rfl) (sx k 1) (by omega) (by omega) ?_
  refine rn_go 80 (by with_unfolding_all rfl) ?_
  refine rn_ld (6 * k + 2) (by with_unfolding_all rfl) (sx k 2) (by omega) (by omega) ?_
  refine rn_go 80 (by with_unfolding_all rfl) ?_
  refine rn_cl (by with_unfolding_all rfl) (ev_up (by decide) (ex)) ?_
  refine rn_go 80 (by with_unfolding_all rfl) ?_
  refine rn_ld (6 * k + 1) (by with_unfolding_all rfl) (sx k 1) (by omega) (by omega) ?_
  refine rn_go 80 (by with_unfolding_all rfl) ?_
  refine rn_ld (6 * k + 2) (by with_unfolding_all rfl) (sx k 2) (by omega) (by omega) ?_
  refine rn_go 80 (by with_unfolding_all rfl) ?_
  refine rn_cl (by with_unfolding_all rfl) (ev_up (by decide) (em)) ?_
  refine rn_go 80 (by with_unfolding_all rfl) ?_
  refine rn_br (by with_unfolding_all rfl) (fun _ => ?_) (fun c_ => absurd (rfl) c_)
  with_unfolding_all exact hr
set_option maxRecDepth 10000 in
theorem lw_needs (hL : L ≤ 3072) (hk : 6 * k + 6 ≤ L) (hI : Inv g T A gm Am) : Nxt L xs k g T A gm Am 484 := by
  obtain ⟨x, g', gm', T', A', Am', ex, em, hJ⟩ := (sim_needs (xs (6 * k + 1)) (xs (6 * k + 2))) g gm T A Am hI
  refine ⟨g', gm', T', A', Am', hJ, fun v h' hr => ?_⟩
  refine rn_go 80 (by with_unfolding_all rfl) ?_
  refine rn_ld (6 * k + 1) (by with_unfolding_all rfl) (sx k 1) (by omega) (by omega) ?_
  refine rn_go 80 (by with_unfolding_all rfl) ?_
  refine rn_ld (6 * k + 2) (by with_unfolding_all rfl) (sx k 2) (by omega) (by omega) ?_
  refine rn_go 80 (by with_unfolding_all rfl) ?_
  refine rn_cl (by with_unfolding_all rfl) (ev_up (by decide) (ex)) ?_
  refine rn_go 80 (by with_unfolding_all rfl) ?_
  refine rn_ld (6 * k + 1) (by with_unfolding_all rfl) (sx k 1) (by omega) (by omega) ?_
  refine rn_go 80 (by with_unfolding_all rfl) ?_
  refine rn_ld (6 * k + 2) (by with_unfolding_all rfl) (sx k 2) (by omega) (by omega) ?_
  refine rn_go 80 (by with_unfolding_all rfl) ?_
  refine rn_cl (by with_unfolding_all rfl) (ev_up (by decide) (em)) ?_
  refine rn_go 80 (by with_unfolding_all rfl) ?_
  refine rn_br (by with_unfolding_all rfl) (fun _ => ?_) (fun c_ => absurd (rfl) c_)
  with_unfolding_all exact hr
set_option maxRecDepth 10000 in
theorem lw_undo (hL : L ≤ 3072) (hk : 6 * k + 6 ≤ L) (hI : Inv g T A gm Am) : Nxt L xs k g T A gm Am 517 := by
  obtain ⟨x, g', gm', T', A', Am', ex, em, hJ⟩ := (sim_undo) g gm T A Am hI
  refine ⟨g', gm', T', A', Am', hJ, fun v h' hr => ?_⟩
  refine rn_go 80 (by with_unfolding_all rfl) ?_
  refine rn_cl (by with_unfolding_all rfl) (ev_up (by decide) (ex)) ?_
  refine rn_go 80 (by with_unfolding_all rfl) ?_
  refine rn_cl (by with_unfolding_all rfl) (ev_up (by decide) (em)) ?_
  refine rn_go 80 (by with_unfolding_all rfl) ?_
  refine rn_br (by with_unfolding_all rfl) (fun _ => ?_) (fun c_ => absurd (rfl) c_)
  with_unfolding_all exact hr
set_option maxRecDepth 10000 in
theorem lw_member (hL : L ≤ 3072) (hk : 6 * k + 6 ≤ L) (hI : Inv g T A gm Am) : Nxt L xs k g T A gm Am 530 := by
  obtain ⟨x, g', gm', T', A', Am', ex, em, hJ⟩ := (sim_member (xs (6 * k + 1)) (xs (6 * k + 2))) g gm T A Am hI
  refine ⟨g', gm', T', A', Am', hJ, fun v h' hr => ?_⟩
  refine rn_go 80 (by with_unfolding_all rfl) ?_
  refine rn_ld (6 * k + 1) (by with_unfolding_all rfl) (sx k 1) (by omega) (by omega) ?_
  refine rn_go 80 (by with_unfolding_all rfl) ?_
  refine rn_ld (6 * k + 2) (by with_unfolding_all rfl) (sx k 2) (by omega) (by omega) ?_
  refine rn_go 80 (by with_unfolding_all rfl) ?_
  refine rn_cl (by with_unfolding_all rfl) (ev_up (by decide) (ex)) ?_
  refine rn_go 80 (by with_unfolding_all rfl) ?_
  refine rn_ld (6 * k + 1) (by with_unfolding_all rfl) (sx k 1) (by omega) (by omega) ?_
  refine rn_go 80 (by with_unfolding_all rfl) ?_
  refine rn_ld (6 * k + 2) (by with_unfolding_all rfl) (sx k 2) (by omega) (by omega) ?_
  refine rn_go 80 (by with_unfolding_all rfl) ?_
  refine rn_cl (by with_unfolding_all rfl) (ev_up (by decide) (em)) ?_
  refine rn_go 80 (by with_unfolding_all rfl) ?_
  refine rn_br (by with_unfolding_all rfl) (fun _ => ?_) (fun c_ => absurd (rfl) c_)
  with_unfolding_all exact hr
set_option maxRecDepth 10000 in
theorem lw_motion (hL : L ≤ 3072) (hk : 6 * k + 6 ≤ L) (hI : Inv g T A gm Am) : Nxt L xs k g T A gm Am 563 := by
  obtain ⟨x, g', gm', T', A', Am', ex, em, hJ⟩ := (sim_motion (xs (6 * k + 1))) g gm T A Am hI
  refine ⟨g', gm', T', A', Am', hJ, fun v h' hr => ?_⟩
  refine rn_go 80 (by with_unfolding_all rfl) ?_
  refine rn_ld (6 * k + 1) (by with_unfolding_all rfl) (sx k 1) (by omega) (by omega) ?_
  refine rn_go 80 (by with_unfolding_all rfl) ?_
  refine rn_cl (by with_unfolding_all rfl) (ev_up (by decide) (ex)) ?_
  refine rn_go 80 (by with_unfolding_all rfl) ?_
  refine rn_ld (6 * k + 1) (by with_unfolding_all rfl) (sx k 1) (by omega) (by omega) ?_
  refine rn_go 80 (by with_unfolding_all rfl) ?_
  refine rn_cl (by with_unfolding_all rfl) (ev_up (by decide) (em)) ?_
  refine rn_go 80 (by with_unfolding_all rfl) ?_
  refine rn_br (by with_unfolding_all rfl) (fun _ => ?_) (fun c_ => absurd (rfl) c_)
  with_unfolding_all exact hr
set_option maxRecDepth 10000 in
theorem lw_weight (hL : L ≤ 3072) (hk : 6 * k + 6 ≤ L) (hI : Inv g T A gm Am) : Nxt L xs k g T A gm Am 586 := by
  obtain ⟨x, g', gm', T', A', Am', ex, em, hJ⟩ := (sim_weight (xs (6 * k + 1))) g gm T A Am hI
  refine ⟨g', gm', T', A', Am', hJ, fun v h' hr => ?_⟩
  refine rn_go 80 (by with_unfolding_all rfl) ?_
  refine rn_ld (6 * k + 1) (by with_unfolding_all rfl) (sx k 1) (by omega) (by omega) ?_
  refine rn_go 80 (by with_unfolding_all rfl) ?_
  refine rn_cl (by with_unfolding_all rfl) (ev_up (by decide) (ex)) ?_
  refine rn_go 80 (by with_unfolding_all rfl) ?_
  refine rn_ld (6 * k + 1) (by with_unfolding_all rfl) (sx k 1) (by omega) (by omega) ?_
  refine rn_go 80 (by with_unfolding_all rfl) ?_
  refine rn_cl (by with_unfolding_all rfl) (ev_up (by decide) (em)) ?_
  refine rn_go 80 (by with_unfolding_all rfl) ?_
  refine rn_br (by with_unfolding_all rfl) (fun _ => ?_) (fun c_ => absurd (rfl) c_)
  with_unfolding_all exact hr
set_option maxRecDepth 10000 in
theorem lw_power (hL : L ≤ 3072) (hk : 6 * k + 6 ≤ L) (hI : Inv g T A gm Am) : Nxt L xs k g T A gm Am 609 := by
  obtain ⟨x, g', gm', T', A', Am', ex, em, hJ⟩ := (sim_power (xs (6 * k + 1)) (xs (6 * k + 2))) g gm T A Am hI
  refine ⟨g', gm', T', A', Am', hJ, fun v h' hr => ?_⟩
  refine rn_go 80 (by with_unfolding_all rfl) ?_
  refine rn_ld (6 * k + 1) (by with_unfolding_all rfl) (sx k 1) (by omega) (by omega) ?_
  refine rn_go 80 (by with_unfolding_all rfl) ?_
  refine rn_ld (6 * k + 2) (by with_unfolding_all rfl) (sx k 2) (by omega) (by omega) ?_
  refine rn_go 80 (by with_unfolding_all rfl) ?_
  refine rn_cl (by with_unfolding_all rfl) (ev_up (by decide) (ex)) ?_
  refine rn_go 80 (by with_unfolding_all rfl) ?_
  refine rn_ld (6 * k + 1) (by with_unfolding_all rfl) (sx k 1) (by omega) (by omega) ?_
  refine rn_go 80 (by with_unfolding_all rfl) ?_
  refine rn_ld (6 * k + 2) (by with_unfolding_all rfl) (sx k 2) (by omega) (by omega) ?_
  refine rn_go 80 (by with_unfolding_all rfl) ?_
  refine rn_cl (by with_unfolding_all rfl) (ev_up (by decide) (em)) ?_
  refine rn_go 80 (by with_unfolding_all rfl) ?_
  refine rn_br (by with_unfolding_all rfl) (fun _ => ?_) (fun c_ => absurd (rfl) c_)
  with_unfolding_all exact hr
set_option maxRecDepth 10000 in
theorem lw_fewest (hL : L ≤ 3072) (hk : 6 * k + 6 ≤ L) (hI : Inv g T A gm Am) : Nxt L xs k g T A gm Am 642 := by
  obtain ⟨x, g', gm', T', A', Am', ex, em, hJ⟩ := (sim_fewest (xs (6 * k + 1))) g gm T A Am hI
  refine ⟨g', gm', T', A', Am', hJ, fun v h' hr => ?_⟩
  refine rn_go 80 (by with_unfolding_all rfl) ?_
  refine rn_ld (6 * k + 1) (by with_unfolding_all rfl) (sx k 1) (by omega) (by omega) ?_
  refine rn_go 80 (by with_unfolding_all rfl) ?_
  refine rn_cl (by with_unfolding_all rfl) (ev_up (by decide) (ex)) ?_
  refine rn_go 80 (by with_unfolding_all rfl) ?_
  refine rn_ld (6 * k + 1) (by with_unfolding_all rfl) (sx k 1) (by omega) (by omega) ?_
  refine rn_go 80 (by with_unfolding_all rfl) ?_
  refine rn_cl (by with_unfolding_all rfl) (ev_up (by decide) (em)) ?_
  refine rn_go 80 (by with_unfolding_all rfl) ?_
  refine rn_br (by with_unfolding_all rfl) (fun _ => ?_) (fun c_ => absurd (rfl) c_)
  with_unfolding_all exact hr
set_option maxRecDepth 10000 in
theorem lw_plan (hL : L ≤ 3072) (hk : 6 * k + 6 ≤ L) (hI : Inv g T A gm Am) : Nxt L xs k g T A gm Am 665 := by
  obtain ⟨x, g', gm', T', A', Am', ex, em, hJ⟩ := (sim_plan (xs (6 * k + 1)) (xs (6 * k + 2))) g gm T A Am hI
  refine ⟨g', gm', T', A', Am', hJ, fun v h' hr => ?_⟩
  refine rn_go 80 (by with_unfolding_all rfl) ?_
  refine rn_ld (6 * k + 1) (by with_unfolding_all rfl) (sx k 1) (by omega) (by omega) ?_
  refine rn_go 80 (by with_unfolding_all rfl) ?_
  refine rn_ld (6 * k + 2) (by with_unfolding_all rfl) (sx k 2) (by omega) (by omega) ?_
  refine rn_go 80 (by with_unfolding_all rfl) ?_
  refine rn_cl (by with_unfolding_all rfl) (ev_up (by decide) (ex)) ?_
  refine rn_go 80 (by with_unfolding_all rfl) ?_
  refine rn_ld (6 * k + 1) (by with_unfolding_all rfl) (sx k 1) (by omega) (by omega) ?_
  refine rn_go 80 (by with_unfolding_all rfl) ?_
  refine rn_ld (6 * k + 2) (by with_unfolding_all rfl) (sx k 2) (by omega) (by omega) ?_
  refine rn_go 80 (by with_unfolding_all rfl) ?_
  refine rn_cl (by with_unfolding_all rfl) (ev_up (by decide) (em)) ?_
  refine rn_go 80 (by with_unfolding_all rfl) ?_
  refine rn_br (by with_unfolding_all rfl) (fun _ => ?_) (fun c_ => absurd (rfl) c_)
  with_unfolding_all exact hr
set_option maxRecDepth 10000 in
theorem lw_agenda (hL : L ≤ 3072) (hk : 6 * k + 6 ≤ L) (hI : Inv g T A gm Am) : Nxt L xs k g T A gm Am 698 := by
  obtain ⟨x, g', gm', T', A', Am', ex, em, hJ⟩ := (sim_agenda (xs (6 * k + 1))) g gm T A Am hI
  refine ⟨g', gm', T', A', Am', hJ, fun v h' hr => ?_⟩
  refine rn_go 80 (by with_unfolding_all rfl) ?_
  refine rn_ld (6 * k + 1) (by with_unfolding_all rfl) (sx k 1) (by omega) (by omega) ?_
  refine rn_go 80 (by with_unfolding_all rfl) ?_
  refine rn_cl (by with_unfolding_all rfl) (ev_up (by decide) (ex)) ?_
  refine rn_go 80 (by with_unfolding_all rfl) ?_
  refine rn_ld (6 * k + 1) (by with_unfolding_all rfl) (sx k 1) (by omega) (by omega) ?_
  refine rn_go 80 (by with_unfolding_all rfl) ?_
  refine rn_cl (by with_unfolding_all rfl) (ev_up (by decide) (em)) ?_
  refine rn_go 80 (by with_unfolding_all rfl) ?_
  refine rn_br (by with_unfolding_all rfl) (fun _ => ?_) (fun c_ => absurd (rfl) c_)
  with_unfolding_all exact hr
set_option maxRecDepth 10000 in
theorem lw_lozenges (hL : L ≤ 3072) (hk : 6 * k + 6 ≤ L) (hI : Inv g T A gm Am) : Nxt L xs k g T A gm Am 721 := by
  obtain ⟨x, g', gm', T', A', Am', ex, em, hJ⟩ := (sim_lozenges (xs (6 * k + 1))) g gm T A Am hI
  refine ⟨g', gm', T', A', Am', hJ, fun v h' hr => ?_⟩
  refine rn_go 80 (by with_unfolding_all rfl) ?_
  refine rn_ld (6 * k + 1) (by with_unfolding_all rfl) (sx k 1) (by omega) (by omega) ?_
  refine rn_go 80 (by with_unfolding_all rfl) ?_
  refine rn_cl (by with_unfolding_all rfl) (ev_up (by decide) (ex)) ?_
  refine rn_go 80 (by with_unfolding_all rfl) ?_
  refine rn_ld (6 * k + 1) (by with_unfolding_all rfl) (sx k 1) (by omega) (by omega) ?_
  refine rn_go 80 (by with_unfolding_all rfl) ?_
  refine rn_cl (by with_unfolding_all rfl) (ev_up (by decide) (em)) ?_
  refine rn_go 80 (by with_unfolding_all rfl) ?_
  refine rn_br (by with_unfolding_all rfl) (fun _ => ?_) (fun c_ => absurd (rfl) c_)
  with_unfolding_all exact hr
set_option maxRecDepth 10000 in
theorem lw_later (hL : L ≤ 3072) (hk : 6 * k + 6 ≤ L) (hI : Inv g T A gm Am) : Nxt L xs k g T A gm Am 744 := by
  obtain ⟨x, g', gm', T', A', Am', ex, em, hJ⟩ := (sim_later (xs (6 * k + 1)) (xs (6 * k + 2))) g gm T A Am hI
  refine ⟨g', gm', T', A', Am', hJ, fun v h' hr => ?_⟩
  refine rn_go 80 (by with_unfolding_all rfl) ?_
  refine rn_ld (6 * k + 1) (by with_unfolding_all rfl) (sx k 1) (by omega) (by omega) ?_
  refine rn_go 80 (by with_unfolding_all rfl) ?_
  refine rn_ld (6 * k + 2) (by with_unfolding_all rfl) (sx k 2) (by omega) (by omega) ?_
  refine rn_go 80 (by with_unfolding_all rfl) ?_
  refine rn_cl (by with_unfolding_all rfl) (ev_up (by decide) (ex)) ?_
  refine rn_go 80 (by with_unfolding_all rfl) ?_
  refine rn_ld (6 * k + 1) (by with_unfolding_all rfl) (sx k 1) (by omega) (by omega) ?_
  refine rn_go 80 (by with_unfolding_all rfl) ?_
  refine rn_ld (6 * k + 2) (by with_unfolding_all rfl) (sx k 2) (by omega) (by omega) ?_
  refine rn_go 80 (by with_unfolding_all rfl) ?_
  refine rn_cl (by with_unfolding_all rfl) (ev_up (by decide) (em)) ?_
  refine rn_go 80 (by with_unfolding_all rfl) ?_
  refine rn_br (by with_unfolding_all rfl) (fun _ => ?_) (fun c_ => absurd (rfl) c_)
  with_unfolding_all exact hr
set_option maxRecDepth 10000 in
theorem lw_carried (hL : L ≤ 3072) (hk : 6 * k + 6 ≤ L) (hI : Inv g T A gm Am) : Nxt L xs k g T A gm Am 777 := by
  obtain ⟨x, g', gm', T', A', Am', ex, em, hJ⟩ := (sim_carried (xs (6 * k + 1))) g gm T A Am hI
  refine ⟨g', gm', T', A', Am', hJ, fun v h' hr => ?_⟩
  refine rn_go 80 (by with_unfolding_all rfl) ?_
  refine rn_ld (6 * k + 1) (by with_unfolding_all rfl) (sx k 1) (by omega) (by omega) ?_
  refine rn_go 80 (by with_unfolding_all rfl) ?_
  refine rn_cl (by with_unfolding_all rfl) (ev_up (by decide) (ex)) ?_
  refine rn_go 80 (by with_unfolding_all rfl) ?_
  refine rn_ld (6 * k + 1) (by with_unfolding_all rfl) (sx k 1) (by omega) (by omega) ?_
  refine rn_go 80 (by with_unfolding_all rfl) ?_
  refine rn_cl (by with_unfolding_all rfl) (ev_up (by decide) (em)) ?_
  refine rn_go 80 (by with_unfolding_all rfl) ?_
  refine rn_br (by with_unfolding_all rfl) (fun _ => ?_) (fun c_ => absurd (rfl) c_)
  with_unfolding_all exact hr
set_option maxRecDepth 10000 in
theorem lw_fits (hL : L ≤ 3072) (hk : 6 * k + 6 ≤ L) (hI : Inv g T A gm Am) : Nxt L xs k g T A gm Am 800 := by
  obtain ⟨x, g', gm', T', A', Am', ex, em, hJ⟩ := (sim_fits (xs (6 * k + 1)) (xs (6 * k + 2)) (xs (6 * k + 3)) (xs (6 * k + 4)) (xs (6 * k + 5))) g gm T A Am hI
  refine ⟨g', gm', T', A', Am', hJ, fun v h' hr => ?_⟩
  refine rn_go 80 (by with_unfolding_all rfl) ?_
  refine rn_ld (6 * k + 1) (by with_unfolding_all rfl) (sx k 1) (by omega) (by omega) ?_
  refine rn_go 80 (by with_unfolding_all rfl) ?_
  refine rn_ld (6 * k + 2) (by with_unfolding_all rfl) (sx k 2) (by omega) (by omega) ?_
  refine rn_go 80 (by with_unfolding_all rfl) ?_
  refine rn_ld (6 * k + 3) (by with_unfolding_all rfl) (sx k 3) (by omega) (by omega) ?_
  refine rn_go 80 (by with_unfolding_all rfl) ?_
  refine rn_ld (6 * k + 4) (by with_unfolding_all rfl) (sx k 4) (by omega) (by omega) ?_
  refine rn_go 80 (by with_unfolding_all rfl) ?_
  refine rn_ld (6 * k + 5) (by with_unfolding_all rfl) (sx k 5) (by omega) (by omega) ?_
  refine rn_go 80 (by with_unfolding_all rfl) ?_
  refine rn_cl (by with_unfolding_all rfl) (ev_up (by decide) (ex)) ?_
  refine rn_go 80 (by with_unfolding_all rfl) ?_
  refine rn_ld (6 * k + 1) (by with_unfolding_all rfl) (sx k 1) (by omega) (by omega) ?_
  refine rn_go 80 (by with_unfolding_all rfl) ?_
  refine rn_ld (6 * k + 2) (by with_unfolding_all rfl) (sx k 2) (by omega) (by omega) ?_
  refine rn_go 80 (by with_unfolding_all rfl) ?_
  refine rn_ld (6 * k + 3) (by with_unfolding_all rfl) (sx k 3) (by omega) (by omega) ?_
  refine rn_go 80 (by with_unfolding_all rfl) ?_
  refine rn_ld (6 * k + 4) (by with_unfolding_all rfl) (sx k 4) (by omega) (by omega) ?_
  refine rn_go 80 (by with_unfolding_all rfl) ?_
  refine rn_ld (6 * k + 5) (by with_unfolding_all rfl) (sx k 5) (by omega) (by omega) ?_
  refine rn_go 80 (by with_unfolding_all rfl) ?_
  refine rn_cl (by with_unfolding_all rfl) (ev_up (by decide) (em)) ?_
  refine rn_go 80 (by with_unfolding_all rfl) ?_
  refine rn_br (by with_unfolding_all rfl) (fun _ => ?_) (fun c_ => absurd (rfl) c_)
  with_unfolding_all exact hr
set_option maxRecDepth 10000 in
theorem lw_costs (hL : L ≤ 3072) (hk : 6 * k + 6 ≤ L) (hI : Inv g T A gm Am) : Nxt L xs k g T A gm Am 863 := by
  obtain ⟨x, g', gm', T', A', Am', ex, em, hJ⟩ := (sim_costs (xs (6 * k + 1)) (xs (6 * k + 2)) (xs (6 * k + 3))) g gm T A Am hI
  refine ⟨g', gm', T', A', Am', hJ, fun v h' hr => ?_⟩
  refine rn_go 80 (by with_unfolding_all rfl) ?_
  refine rn_ld (6 * k + 1) (by with_unfolding_all rfl) (sx k 1) (by omega) (by omega) ?_
  refine rn_go 80 (by with_unfolding_all rfl) ?_
  refine rn_ld (6 * k + 2) (by with_unfolding_all rfl) (sx k 2) (by omega) (by omega) ?_
  refine rn_go 80 (by with_unfolding_all rfl) ?_
  refine rn_ld (6 * k + 3) (by with_unfolding_all rfl) (sx k 3) (by omega) (by omega) ?_
  refine rn_go 80 (by with_unfolding_all rfl) ?_
  refine rn_cl (by with_unfolding_all rfl) (ev_up (by decide) (ex)) ?_
  refine rn_go 80 (by with_unfolding_all rfl) ?_
  refine rn_ld (6 * k + 1) (by with_unfolding_all rfl) (sx k 1) (by omega) (by omega) ?_
  refine rn_go 80 (by with_unfolding_all rfl) ?_
  refine rn_ld (6 * k + 2) (by with_unfolding_all rfl) (sx k 2) (by omega) (by omega) ?_
  refine rn_go 80 (by with_unfolding_all rfl) ?_
  refine rn_ld (6 * k + 3) (by with_unfolding_all rfl) (sx k 3) (by omega) (by omega) ?_
  refine rn_go 80 (by with_unfolding_all rfl) ?_
  refine rn_cl (by with_unfolding_all rfl) (ev_up (by decide) (em)) ?_
  refine rn_go 80 (by with_unfolding_all rfl) ?_
  refine rn_br (by with_unfolding_all rfl) (fun _ => ?_) (fun c_ => absurd (rfl) c_)
  with_unfolding_all exact hr
set_option maxRecDepth 10000 in
theorem lw_colds (hL : L ≤ 3072) (hk : 6 * k + 6 ≤ L) (hI : Inv g T A gm Am) : Nxt L xs k g T A gm Am 906 := by
  obtain ⟨x, g', gm', T', A', Am', ex, em, hJ⟩ := (sim_colds (xs (6 * k + 1)) (xs (6 * k + 2))) g gm T A Am hI
  refine ⟨g', gm', T', A', Am', hJ, fun v h' hr => ?_⟩
  refine rn_go 80 (by with_unfolding_all rfl) ?_
  refine rn_ld (6 * k + 1) (by with_unfolding_all rfl) (sx k 1) (by omega) (by omega) ?_
  refine rn_go 80 (by with_unfolding_all rfl) ?_
  refine rn_ld (6 * k + 2) (by with_unfolding_all rfl) (sx k 2) (by omega) (by omega) ?_
  refine rn_go 80 (by with_unfolding_all rfl) ?_
  refine rn_cl (by with_unfolding_all rfl) (ev_up (by decide) (ex)) ?_
  refine rn_go 80 (by with_unfolding_all rfl) ?_
  refine rn_ld (6 * k + 1) (by with_unfolding_all rfl) (sx k 1) (by omega) (by omega) ?_
  refine rn_go 80 (by with_unfolding_all rfl) ?_
  refine rn_ld (6 * k + 2) (by with_unfolding_all rfl) (sx k 2) (by omega) (by omega) ?_
  refine rn_go 80 (by with_unfolding_all rfl) ?_
  refine rn_cl (by with_unfolding_all rfl) (ev_up (by decide) (em)) ?_
  refine rn_go 80 (by with_unfolding_all rfl) ?_
  refine rn_br (by with_unfolding_all rfl) (fun _ => ?_) (fun c_ => absurd (rfl) c_)
  with_unfolding_all exact hr
set_option maxRecDepth 10000 in
theorem lw_drawn (hL : L ≤ 3072) (hk : 6 * k + 6 ≤ L) (hI : Inv g T A gm Am) : Nxt L xs k g T A gm Am 939 := by
  obtain ⟨x, g', gm', T', A', Am', ex, em, hJ⟩ := (sim_drawn (xs (6 * k + 1)) (xs (6 * k + 2)) (xs (6 * k + 3))) g gm T A Am hI
  refine ⟨g', gm', T', A', Am', hJ, fun v h' hr => ?_⟩
  refine rn_go 80 (by with_unfolding_all rfl) ?_
  refine rn_ld (6 * k + 1) (by with_unfolding_all rfl) (sx k 1) (by omega) (by omega) ?_
  refine rn_go 80 (by with_unfolding_all rfl) ?_
  refine rn_ld (6 * k + 2) (by with_unfolding_all rfl) (sx k 2) (by omega) (by omega) ?_
  refine rn_go 80 (by with_unfolding_all rfl) ?_
  refine rn_ld (6 * k + 3) (by with_unfolding_all rfl) (sx k 3) (by omega) (by omega) ?_
  refine rn_go 80 (by with_unfolding_all rfl) ?_
  refine rn_cl (by with_unfolding_all rfl) (ev_up (by decide) (ex)) ?_
  refine rn_go 80 (by with_unfolding_all rfl) ?_
  refine rn_ld (6 * k + 1) (by with_unfolding_all rfl) (sx k 1) (by omega) (by omega) ?_
  refine rn_go 80 (by with_unfolding_all rfl) ?_
  refine rn_ld (6 * k + 2) (by with_unfolding_all rfl) (sx k 2) (by omega) (by omega) ?_
  refine rn_go 80 (by with_unfolding_all rfl) ?_
  refine rn_ld (6 * k + 3) (by with_unfolding_all rfl) (sx k 3) (by omega) (by omega) ?_
  refine rn_go 80 (by with_unfolding_all rfl) ?_
  refine rn_cl (by with_unfolding_all rfl) (ev_up (by decide) (em)) ?_
  refine rn_go 80 (by with_unfolding_all rfl) ?_
  refine rn_br (by with_unfolding_all rfl) (fun _ => ?_) (fun c_ => absurd (rfl) c_)
  with_unfolding_all exact hr
set_option maxRecDepth 10000 in
theorem lw_image (hL : L ≤ 3072) (hk : 6 * k + 6 ≤ L) (hI : Inv g T A gm Am) : Nxt L xs k g T A gm Am 982 := by
  obtain ⟨x, g', gm', T', A', Am', ex, em, hJ⟩ := (sim_image (xs (6 * k + 1))) g gm T A Am hI
  refine ⟨g', gm', T', A', Am', hJ, fun v h' hr => ?_⟩
  refine rn_go 80 (by with_unfolding_all rfl) ?_
  refine rn_ld (6 * k + 1) (by with_unfolding_all rfl) (sx k 1) (by omega) (by omega) ?_
  refine rn_go 80 (by with_unfolding_all rfl) ?_
  refine rn_cl (by with_unfolding_all rfl) (ev_up (by decide) (ex)) ?_
  refine rn_go 80 (by with_unfolding_all rfl) ?_
  refine rn_ld (6 * k + 1) (by with_unfolding_all rfl) (sx k 1) (by omega) (by omega) ?_
  refine rn_go 80 (by with_unfolding_all rfl) ?_
  refine rn_cl (by with_unfolding_all rfl) (ev_up (by decide) (em)) ?_
  refine rn_go 80 (by with_unfolding_all rfl) ?_
  refine rn_br (by with_unfolding_all rfl) (fun _ => ?_) (fun c_ => absurd (rfl) c_)
  with_unfolding_all exact hr
set_option maxRecDepth 10000 in
theorem lw_restore (hL : L ≤ 3072) (hk : 6 * k + 6 ≤ L) (hI : Inv g T A gm Am) : Nxt L xs k g T A gm Am 1005 := by
  obtain ⟨x, g', gm', T', A', Am', ex, em, hJ⟩ := (sim_restore (xs (6 * k + 1))) g gm T A Am hI
  refine ⟨g', gm', T', A', Am', hJ, fun v h' hr => ?_⟩
  refine rn_go 80 (by with_unfolding_all rfl) ?_
  refine rn_ld (6 * k + 1) (by with_unfolding_all rfl) (sx k 1) (by omega) (by omega) ?_
  refine rn_go 80 (by with_unfolding_all rfl) ?_
  refine rn_cl (by with_unfolding_all rfl) (ev_up (by decide) (ex)) ?_
  refine rn_go 80 (by with_unfolding_all rfl) ?_
  refine rn_ld (6 * k + 1) (by with_unfolding_all rfl) (sx k 1) (by omega) (by omega) ?_
  refine rn_go 80 (by with_unfolding_all rfl) ?_
  refine rn_cl (by with_unfolding_all rfl) (ev_up (by decide) (em)) ?_
  refine rn_go 80 (by with_unfolding_all rfl) ?_
  refine rn_br (by with_unfolding_all rfl) (fun _ => ?_) (fun c_ => absurd (rfl) c_)
  with_unfolding_all exact hr
set_option maxRecDepth 10000 in
theorem lw_kind (hL : L ≤ 3072) (hk : 6 * k + 6 ≤ L) (hI : Inv g T A gm Am) : Nxt L xs k g T A gm Am 1028 := by
  obtain ⟨x, g', gm', T', A', Am', ex, em, hJ⟩ := (sim_kind (xs (6 * k + 1))) g gm T A Am hI
  refine ⟨g', gm', T', A', Am', hJ, fun v h' hr => ?_⟩
  refine rn_go 80 (by with_unfolding_all rfl) ?_
  refine rn_ld (6 * k + 1) (by with_unfolding_all rfl) (sx k 1) (by omega) (by omega) ?_
  refine rn_go 80 (by with_unfolding_all rfl) ?_
  refine rn_cl (by with_unfolding_all rfl) (ev_up (by decide) (ex)) ?_
  refine rn_go 80 (by with_unfolding_all rfl) ?_
  refine rn_ld (6 * k + 1) (by with_unfolding_all rfl) (sx k 1) (by omega) (by omega) ?_
  refine rn_go 80 (by with_unfolding_all rfl) ?_
  refine rn_cl (by with_unfolding_all rfl) (ev_up (by decide) (em)) ?_
  refine rn_go 80 (by with_unfolding_all rfl) ?_
  refine rn_br (by with_unfolding_all rfl) (fun _ => ?_) (fun c_ => absurd (rfl) c_)
  with_unfolding_all exact hr
set_option maxRecDepth 10000 in
theorem lw_as (hL : L ≤ 3072) (hk : 6 * k + 6 ≤ L) (hI : Inv g T A gm Am) : Nxt L xs k g T A gm Am 1051 := by
  obtain ⟨x, g', gm', T', A', Am', ex, em, hJ⟩ := (sim_as (xs (6 * k + 1)) (xs (6 * k + 2))) g gm T A Am hI
  refine ⟨g', gm', T', A', Am', hJ, fun v h' hr => ?_⟩
  refine rn_go 80 (by with_unfolding_all rfl) ?_
  refine rn_ld (6 * k + 1) (by with_unfolding_all rfl) (sx k 1) (by omega) (by omega) ?_
  refine rn_go 80 (by with_unfolding_all rfl) ?_
  refine rn_ld (6 * k + 2) (by with_unfolding_all rfl) (sx k 2) (by omega) (by omega) ?_
  refine rn_go 80 (by with_unfolding_all rfl) ?_
  refine rn_cl (by with_unfolding_all rfl) (ev_up (by decide) (ex)) ?_
  refine rn_go 80 (by with_unfolding_all rfl) ?_
  refine rn_ld (6 * k + 1) (by with_unfolding_all rfl) (sx k 1) (by omega) (by omega) ?_
  refine rn_go 80 (by with_unfolding_all rfl) ?_
  refine rn_ld (6 * k + 2) (by with_unfolding_all rfl) (sx k 2) (by omega) (by omega) ?_
  refine rn_go 80 (by with_unfolding_all rfl) ?_
  refine rn_cl (by with_unfolding_all rfl) (ev_up (by decide) (em)) ?_
  refine rn_go 80 (by with_unfolding_all rfl) ?_
  refine rn_br (by with_unfolding_all rfl) (fun _ => ?_) (fun c_ => absurd (rfl) c_)
  with_unfolding_all exact hr
set_option maxRecDepth 10000 in
theorem lw_ask (hL : L ≤ 3072) (hk : 6 * k + 6 ≤ L) (hI : Inv g T A gm Am) : Nxt L xs k g T A gm Am 1084 := by
  obtain ⟨x, g', gm', T', A', Am', ex, em, hJ⟩ := (sim_ask (xs (6 * k + 1)) (xs (6 * k + 2))) g gm T A Am hI
  refine ⟨g', gm', T', A', Am', hJ, fun v h' hr => ?_⟩
  refine rn_go 80 (by with_unfolding_all rfl) ?_
  refine rn_ld (6 * k + 1) (by with_unfolding_all rfl) (sx k 1) (by omega) (by omega) ?_
  refine rn_go 80 (by with_unfolding_all rfl) ?_
  refine rn_ld (6 * k + 2) (by with_unfolding_all rfl) (sx k 2) (by omega) (by omega) ?_
  refine rn_go 80 (by with_unfolding_all rfl) ?_
  refine rn_cl (by with_unfolding_all rfl) (ev_up (by decide) (ex)) ?_
  refine rn_go 80 (by with_unfolding_all rfl) ?_
  refine rn_ld (6 * k + 1) (by with_unfolding_all rfl) (sx k 1) (by omega) (by omega) ?_
  refine rn_go 80 (by with_unfolding_all rfl) ?_
  refine rn_ld (6 * k + 2) (by with_unfolding_all rfl) (sx k 2) (by omega) (by omega) ?_
  refine rn_go 80 (by with_unfolding_all rfl) ?_
  refine rn_cl (by with_unfolding_all rfl) (ev_up (by decide) (em)) ?_
  refine rn_go 80 (by with_unfolding_all rfl) ?_
  refine rn_br (by with_unfolding_all rfl) (fun _ => ?_) (fun c_ => absurd (rfl) c_)
  with_unfolding_all exact hr
set_option maxRecDepth 10000 in
theorem lw_trace (hL : L ≤ 3072) (hk : 6 * k + 6 ≤ L) (hI : Inv g T A gm Am) : Nxt L xs k g T A gm Am 1117 := by
  obtain ⟨x, g', gm', T', A', Am', ex, em, hJ⟩ := (sim_trace (xs (6 * k + 1))) g gm T A Am hI
  refine ⟨g', gm', T', A', Am', hJ, fun v h' hr => ?_⟩
  refine rn_go 80 (by with_unfolding_all rfl) ?_
  refine rn_ld (6 * k + 1) (by with_unfolding_all rfl) (sx k 1) (by omega) (by omega) ?_
  refine rn_go 80 (by with_unfolding_all rfl) ?_
  refine rn_cl (by with_unfolding_all rfl) (ev_up (by decide) (ex)) ?_
  refine rn_go 80 (by with_unfolding_all rfl) ?_
  refine rn_ld (6 * k + 1) (by with_unfolding_all rfl) (sx k 1) (by omega) (by omega) ?_
  refine rn_go 80 (by with_unfolding_all rfl) ?_
  refine rn_cl (by with_unfolding_all rfl) (ev_up (by decide) (em)) ?_
  refine rn_go 80 (by with_unfolding_all rfl) ?_
  refine rn_br (by with_unfolding_all rfl) (fun _ => ?_) (fun c_ => absurd (rfl) c_)
  with_unfolding_all exact hr
set_option maxRecDepth 10000 in
theorem lw_count (hL : L ≤ 3072) (hk : 6 * k + 6 ≤ L) (hI : Inv g T A gm Am) : Nxt L xs k g T A gm Am 1140 := by
  obtain ⟨x, g', gm', T', A', Am', ex, em, hJ⟩ := (sim_count (xs (6 * k + 1))) g gm T A Am hI
  refine ⟨g', gm', T', A', Am', hJ, fun v h' hr => ?_⟩
  refine rn_go 80 (by with_unfolding_all rfl) ?_
  refine rn_ld (6 * k + 1) (by with_unfolding_all rfl) (sx k 1) (by omega) (by omega) ?_
  refine rn_go 80 (by with_unfolding_all rfl) ?_
  refine rn_cl (by with_unfolding_all rfl) (ev_up (by decide) (ex)) ?_
  refine rn_go 80 (by with_unfolding_all rfl) ?_
  refine rn_ld (6 * k + 1) (by with_unfolding_all rfl) (sx k 1) (by omega) (by omega) ?_
  refine rn_go 80 (by with_unfolding_all rfl) ?_
  refine rn_cl (by with_unfolding_all rfl) (ev_up (by decide) (em)) ?_
  refine rn_go 80 (by with_unfolding_all rfl) ?_
  refine rn_br (by with_unfolding_all rfl) (fun _ => ?_) (fun c_ => absurd (rfl) c_)
  with_unfolding_all exact hr
set_option maxRecDepth 10000 in
theorem lw_status (hL : L ≤ 3072) (hk : 6 * k + 6 ≤ L) (hI : Inv g T A gm Am) : Nxt L xs k g T A gm Am 1163 := by
  obtain ⟨x, g', gm', T', A', Am', ex, em, hJ⟩ := (sim_status) g gm T A Am hI
  refine ⟨g', gm', T', A', Am', hJ, fun v h' hr => ?_⟩
  refine rn_go 80 (by with_unfolding_all rfl) ?_
  refine rn_cl (by with_unfolding_all rfl) (ev_up (by decide) (ex)) ?_
  refine rn_go 80 (by with_unfolding_all rfl) ?_
  refine rn_cl (by with_unfolding_all rfl) (ev_up (by decide) (em)) ?_
  refine rn_go 80 (by with_unfolding_all rfl) ?_
  refine rn_br (by with_unfolding_all rfl) (fun _ => ?_) (fun c_ => absurd (rfl) c_)
  with_unfolding_all exact hr
end
set_option maxRecDepth 10000 in
theorem pick_all {R : Nat → Prop} {x : Int32} {d : Nat} : ∀ sw : List (Int32 × Nat), (∀ p ∈ sw, R p.2) → R d → R (am_pick x sw d)
  | [], _, hd => hd
  | (k, t) :: r, h, hd => by
    unfold am_pick
    split
    · exact h (k, t) List.mem_cons_self
    · exact pick_all r (fun p hp => h p (List.mem_cons_of_mem _ hp)) hd
def lsw : List (Int32 × Nat) := [(0, 184), (1, 227), (2, 270), (3, 333), (4, 356), (5, 379), (6, 392), (7, 405), (8, 428), (9, 451), (10, 484), (11, 517), (12, 530), (13, 563), (14, 586), (15, 609), (16, 642), (17, 665), (18, 698), (19, 721), (20, 744), (21, 777), (22, 800), (23, 863), (24, 906), (25, 939), (26, 982), (27, 1005), (28, 1028), (29, 1051), (30, 1084), (31, 1117), (32, 1140), (33, 1163)]
set_option maxRecDepth 10000 in
theorem lw_pick {g gm : Nat → Int32} {T A Am : Nat → Nat → Int32} {L k : Nat} {xs : Nat → Int32} (hL : L ≤ 3072) (hk : 6 * k + 6 ≤ L) (hI : Inv g T A gm Am) (x : Int32) : Nxt L xs k g T A gm Am (am_pick x lsw 1176) := by
  refine pick_all lsw ?_ ⟨g, gm, T, A, Am, hI, fun _ _ hr => hr⟩
  exact List.forall_mem_cons.mpr ⟨lw_row hL hk hI, List.forall_mem_cons.mpr ⟨lw_set hL hk hI, List.forall_mem_cons.mpr ⟨lw_copy hL hk hI, List.forall_mem_cons.mpr ⟨lw_drop hL hk hI, List.forall_mem_cons.mpr ⟨lw_feed hL hk hI, List.forall_mem_cons.mpr ⟨lw_hill hL hk hI, List.forall_mem_cons.mpr ⟨lw_fault hL hk hI, List.forall_mem_cons.mpr ⟨lw_speak hL hk hI, List.forall_mem_cons.mpr ⟨lw_lozenge hL hk hI, List.forall_mem_cons.mpr ⟨lw_cold hL hk hI, List.forall_mem_cons.mpr ⟨lw_needs hL hk hI, List.forall_mem_cons.mpr ⟨lw_undo hL hk hI, List.forall_mem_cons.mpr ⟨lw_member hL hk hI, List.forall_mem_cons.mpr ⟨lw_motion hL hk hI, List.forall_mem_cons.mpr ⟨lw_weight hL hk hI, List.forall_mem_cons.mpr ⟨lw_power hL hk hI, List.forall_mem_cons.mpr ⟨lw_fewest hL hk hI, List.forall_mem_cons.mpr ⟨lw_plan hL hk hI, List.forall_mem_cons.mpr ⟨lw_agenda hL hk hI, List.forall_mem_cons.mpr ⟨lw_lozenges hL hk hI, List.forall_mem_cons.mpr ⟨lw_later hL hk hI, List.forall_mem_cons.mpr ⟨lw_carried hL hk hI, List.forall_mem_cons.mpr ⟨lw_fits hL hk hI, List.forall_mem_cons.mpr ⟨lw_costs hL hk hI, List.forall_mem_cons.mpr ⟨lw_colds hL hk hI, List.forall_mem_cons.mpr ⟨lw_drawn hL hk hI, List.forall_mem_cons.mpr ⟨lw_image hL hk hI, List.forall_mem_cons.mpr ⟨lw_restore hL hk hI, List.forall_mem_cons.mpr ⟨lw_kind hL hk hI, List.forall_mem_cons.mpr ⟨lw_as hL hk hI, List.forall_mem_cons.mpr ⟨lw_ask hL hk hI, List.forall_mem_cons.mpr ⟨lw_trace hL hk hI, List.forall_mem_cons.mpr ⟨lw_count hL hk hI, List.forall_mem_cons.mpr ⟨lw_status hL hk hI, fun _ h => absurd h List.not_mem_nil⟩⟩⟩⟩⟩⟩⟩⟩⟩⟩⟩⟩⟩⟩⟩⟩⟩⟩⟩⟩⟩⟩⟩⟩⟩⟩⟩⟩⟩⟩⟩⟩⟩⟩
set_option maxRecDepth 10000 in
theorem lw_out {L k : Nat} (hL : L ≤ 3072) (hk : L < 6 * k + 6) (h5 : 6 * k ≤ 4000) : nI L - 6 < nI (6 * k) := by
  rcases Nat.lt_or_ge L 6 with q | q
  · have h0 : nI L - 6 < 0 := by
      match L, q with
      | 0, _ => decide
      | 1, _ => decide
      | 2, _ => decide
      | 3, _ => decide
      | 4, _ => decide
      | 5, _ => decide
      | L + 6, q => exact absurd q (by omega)
    exact Int32.lt_of_lt_of_le h0 (nI_pos' (by omega))
  · have e : nI L - 6 = nI (L - 6) := pk_sub (b := 6) q
    rw [e]
    exact nI_lt (by omega) (by omega)
set_option maxRecDepth 10000 in
theorem lw_in {L k : Nat} (hL : L ≤ 3072) (hk : 6 * k + 6 ≤ L) : ¬ nI L - 6 < nI (6 * k) := by
  have e : nI L - 6 = nI (L - 6) := pk_sub (b := 6) (by omega)
  rw [e]
  exact nI_nlt (by omega) (by omega)
set_option maxRecDepth 10000 in
theorem lw_exit {L k : Nat} {xs : Nat → Int32} {g gm : Nat → Int32} {T A Am : Nat → Nat → Int32} (hL : L ≤ 3072) (hk : 6 * k ≤ L) (q : L < 6 * k + 6) : rn (some (L, xs)) 40 am_t_law (18, lc (nI (6 * k)), [], wd g T A gm Am) (some (.int 1)) (wd g T A gm Am) := by
  refine rn_go 80 (by with_unfolding_all rfl) ?_
  refine rn_br (by with_unfolding_all rfl) (fun _ => ?_) (fun c_ => absurd (lw_out hL q (by omega)) c_)
  refine rn_go 80 (by with_unfolding_all rfl) ?_
  exact rn_rt (by with_unfolding_all rfl) (Or.inr rfl) (rfl) (rfl)
set_option maxRecDepth 10000 in
theorem lw_loop {L : Nat} {xs : Nat → Int32} (hL : L ≤ 3072) : ∀ m k, L ≤ 6 * k + m → 6 * k ≤ L → ∀ (g gm : Nat → Int32) (T A Am : Nat → Nat → Int32), Inv g T A gm Am → ∃ (g' gm' : Nat → Int32) (T' A' Am' : Nat → Nat → Int32), rn (some (L, xs)) 40 am_t_law (18, lc (nI (6 * k)), [], wd g T A gm Am) (some (.int 1)) (wd g' T' A' gm' Am')
  | 0, k, hm, hk, g, gm, T, A, Am, hI => ⟨g, gm, T, A, Am, lw_exit hL hk (by omega)⟩
  | m + 1, k, hm, hk, g, gm, T, A, Am, hI => by
    rcases Nat.lt_or_ge L (6 * k + 6) with q | q
    · exact ⟨g, gm, T, A, Am, lw_exit hL hk q⟩
    · obtain ⟨g1, gm1, T1, A1, Am1, hJ, hn⟩ := lw_pick (xs := xs) hL q hI (xs (6 * k) &&& 63)
      obtain ⟨g', gm', T', A', Am', hr⟩ := lw_loop (xs := xs) hL m (k + 1) (by omega) (by omega) g1 gm1 T1 A1 Am1 hJ
      have e : nI (6 * k) + 6 = nI (6 * (k + 1)) := nI_add (6 * k) 6
      rw [← e] at hr
      refine ⟨g', gm', T', A', Am', ?_⟩
      refine rn_go 80 (by with_unfolding_all rfl) ?_
      refine rn_br (by with_unfolding_all rfl) (fun c_ => absurd c_ (lw_in hL q)) (fun _ => ?_)
      refine rn_go 80 (by with_unfolding_all rfl) ?_
      refine rn_ld (6 * k) (by with_unfolding_all rfl) rfl (by omega) (by omega) ?_
      refine rn_to 33 80 (by with_unfolding_all rfl) ?_
      refine rn_one (by with_unfolding_all rfl) ?_
      with_unfolding_all refine hn _ _ ?_
      refine rn_to 18 80 (by with_unfolding_all rfl) ?_
      with_unfolding_all exact hr
set_option maxRecDepth 10000 in
theorem wd_len {g gm : Nat → Int32} {T A Am : Nat → Nat → Int32} : (wd g T A gm Am).length ≤ 600000 := by
  unfold wd
  simp only [List.length_cons, List.length_nil]
  omega
set_option maxRecDepth 10000 in
theorem wd_szs {g gm : Nat → Int32} {T A Am : Nat → Nat → Int32} : am_szs (wd g T A gm Am) ≤ 7302250 := by
  unfold wd
  simp only [am_szs, am_sz, List.length_cons, List.length_nil]
  omega
set_option maxRecDepth 10000 in
theorem whole_good {L : Nat} {xs : Nat → Int32} (hL : L ≤ 3072) : am_good L xs := by
  obtain ⟨g', gm', T', A', Am', hr⟩ := lw_loop (xs := xs) hL L 0 (by omega) (by omega) z0 z0 ctT ctA ctM inv_0
  obtain ⟨n, hq⟩ := lw_head hr
  exact ⟨n, wd g' T' A' gm' Am', hq, wd_len, wd_szs⟩

/-! later, carried: the reference; sessions by draws: both -/
def bsum (t : Nat → Int32) : Nat → Int32
  | 0 => 0
  | i + 1 => bsum t i + t (13 + i)
def sDrawn (z : Int32) (x : Nat → Int32) (n mo dy : Nat) (k s w : Int32) : Int32 := if z = 0 then -1000002 else if (k < 0 ∨ ¬ k ≤ 60 ∨ s < 1 ∨ ¬ s ≤ 999999 ∨ ie w = 0) then -1000001 else if w = 0 then dyc (dsf s.toInt64) n mo dy x k.toNatClampNeg else bsum (dys (dsf s.toInt64) n mo dy x k.toNatClampNeg) n
set_option maxRecDepth 10000 in
theorem btw_t {x a b : Int32} (h1 : ¬ x < a) (h2 : x ≤ b) : ¬ btw x a b = 0 := by
  unfold btw
  rw [if_neg h1, if_neg (Int32.not_lt.mpr h2)]
  decide
set_option maxRecDepth 10000 in
theorem btw_f {x a b : Int32} (h : ¬ btw x a b = 0) : ¬ x < a ∧ x ≤ b := by
  unfold btw at h
  by_cases h1 : x < a
  · rw [if_pos h1] at h; exact absurd rfl h
  · rw [if_neg h1] at h
    by_cases h2 : b < x
    · rw [if_pos h2] at h; exact absurd rfl h
    · exact ⟨h1, Int32.not_lt.mp h2⟩
section
variable {g gm : Nat → Int32} {T A Am : Nat → Nat → Int32} {h : am_H}
section
variable {n mo dy d : Nat} {x r0 : Nat → Int32}
set_option maxRecDepth 10000 in
theorem xm_laterL (hX : okX x n mo dy) (hd : dy + d < 2000) {p : Nat} (hp : p < n) : ∀ k i, i + k = d → ∀ r, Lo r0 r → Eqv n mo (dys all n mo dy x i) (tv r 567) → ∃ r', Lo r0 r' ∧ rn none 11 am_t_X9_later (29, [some (.ref 43), some (.int (nI p)), some (.int (nI d)), some (.int (nI i))], [], wd g T A gm (tu Am 0 r)) (some (.int (dys all n mo dy x d (13 + p)))) (wd g T A gm (tu Am 0 r'))
  | 0, i, hi, r, hl, he => by
    have hin : i = d := by omega
    subst hin
    have h4 := hX.2.2.1
    refine ⟨r, hl, ?_⟩
    refine rn_go 80 (by with_unfolding_all rfl) ?_
    refine rn_br (by with_unfolding_all rfl) (fun _ => ?_) (fun c => absurd (Int32.le_refl _) c)
    refine rn_go 80 (by with_unfolding_all rfl) ?_
    refine rn_ld (567 + (13 + p)) (by with_unfolding_all rfl) (by rw [show (580 : Int32) = nI 580 from rfl, nI_add, show 580 + p = 567 + (13 + p) by omega]) (by omega) (by decide) ?_
    rw [tu_s, show r (567 + (13 + p)) = dys all n mo dy x i (13 + p) from ((he.2.2 p hp).2.1).symm]
    refine rn_go 80 (by with_unfolding_all rfl) ?_
    exact rn_rt (by with_unfolding_all rfl) trivial rfl rfl
  | k + 1, i, hi, r, hl, he => by
    have hXi := ox_dys sf_all hX i (by omega)
    obtain ⟨r1, ho, he1, hev⟩ := xx_passAll (g := g) (T := T) (A := A) (gm := gm) (Am := Am) (B := 567) (by omega) he hXi
    obtain ⟨r2, hl2, ih⟩ := xm_laterL hX hd hp k (i + 1) (by omega) r1 (lo_out (by omega) hl ho) he1
    rw [← nI_1] at ih
    refine ⟨r2, hl2, ?_⟩
    refine rn_go 80 (by with_unfolding_all rfl) ?_
    refine rn_br (by with_unfolding_all rfl) (fun c => absurd c (nI_ge (show i < d by omega) (by omega))) (fun _ => ?_)
    refine rn_go 80 (by with_unfolding_all rfl) ?_
    refine rn_cl (by with_unfolding_all rfl) (ev_up (by decide) (hev)) ?_
    refine rn_to 29 80 (by with_unfolding_all rfl) ?_
    with_unfolding_all exact ih
set_option maxRecDepth 10000 in
theorem xm_carriedL (hX : okX x n mo dy) (hd : dy + d < 2000) : ∀ k i, i + k = d → ∀ r, Lo r0 r → Eqv n mo (dys all n mo dy x i) (tv r 567) → ∃ r', Lo r0 r' ∧ rn none 11 am_t_X9_carried (33, [some (.ref 43), some (.int (nI d)), some (.int (dyc all n mo dy x i)), some (.int (nI i))], [], wd g T A gm (tu Am 0 r)) (some (.int (dyc all n mo dy x d))) (wd g T A gm (tu Am 0 r'))
  | 0, i, hi, r, hl, he => by
    have hin : i = d := by omega
    subst hin
    refine ⟨r, hl, ?_⟩
    refine rn_go 80 (by with_unfolding_all rfl) ?_
    refine rn_br (by with_unfolding_all rfl) (fun _ => ?_) (fun c => absurd (Int32.le_refl _) c)
    refine rn_go 80 (by with_unfolding_all rfl) ?_
    exact rn_rt (by with_unfolding_all rfl) trivial rfl rfl
  | k + 1, i, hi, r, hl, he => by
    have hXi := ox_dys sf_all hX i (by omega)
    obtain ⟨r1, ho, he1, hev⟩ := xx_passAll (g := g) (T := T) (A := A) (gm := gm) (Am := Am) (B := 567) (by omega) he hXi
    obtain ⟨r2, hl2, ih⟩ := xm_carriedL hX hd k (i + 1) (by omega) r1 (lo_out (by omega) hl ho) he1
    rw [← nI_1] at ih
    refine ⟨r2, hl2, ?_⟩
    refine rn_go 80 (by with_unfolding_all rfl) ?_
    refine rn_br (by with_unfolding_all rfl) (fun c => absurd c (nI_ge (show i < d by omega) (by omega))) (fun _ => ?_)
    refine rn_go 80 (by with_unfolding_all rfl) ?_
    refine rn_cl (by with_unfolding_all rfl) (ev_up (by decide) (hev)) ?_
    refine rn_to 33 80 (by with_unfolding_all rfl) ?_
    with_unfolding_all exact ih
end
section
variable {n mo dy : Nat} {x : Nat → Int32}
set_option maxRecDepth 10000 in
theorem lay0 (h4 : n ≤ 4) (m4 : mo ≤ 4) (he : Eqv n mo x (tv (Am 0) 0)) : ∃ r', Lo (Am 0) r' ∧ Eqv n mo x (tv r' 567) ∧ am_ev 2 187 [.ref 43] (wd g T A gm Am) none (wd g T A gm (tu Am 0 r')) := by
  obtain ⟨r', h1, h2, h3⟩ := xx_lay (g := g) (T := T) (A := A) (gm := gm) (Am := Am) (r := Am 0)
  rw [tu_id] at h3
  exact ⟨r', lo_out (by omega) (fun _ _ => rfl) h1, eqv_tr he (eqv_21 h4 m4 h2), h3⟩
set_option maxRecDepth 10000 in
theorem xm_later (hn : x 1 = nI n) (hn4 : n ≤ 4) (he : Eqv n mo x (tv (Am 0) 0)) (hX : n = 0 ∨ okX x n mo dy) (hdy : dy ≤ 999) (p d : Int32) : ∃ r', Lo (Am 0) r' ∧ am_ev 12 201 [.ref 43, .int p, .int d] (wd g T A gm Am) (some (.int (sLater x n mo dy p d))) (wd g T A gm (tu Am 0 r')) := by
  have hn' : tv (Am 0) 0 1 = nI n := by rw [← he.1 1 (by decide)]; exact hn
  by_cases hq : hm x p = 0 ∨ d < 0 ∨ ¬ d ≤ 40
  · have e : sLater x n mo dy p d = -1000001 := by rcases hq with q | q | q <;> simp [sLater, q]
    rw [e]
    refine ⟨Am 0, fun _ _ => rfl, ?_⟩
    rw [tu_id]
    refine rn_ev am_m_X9_later rfl rfl ?_
    refine rn_go 80 (by with_unfolding_all rfl) ?_
    refine rn_cl (by with_unfolding_all rfl) (ev_up (by decide) (xm_isMember hn' hn4 p)) ?_
    rw [← cg_hm he]
    refine rn_go 80 (by with_unfolding_all rfl) ?_
    refine rn_br (by with_unfolding_all rfl) (fun c => ?_) (fun c => ?_)
    · refine rn_go 80 (by with_unfolding_all rfl) ?_
      exact rn_rt (by with_unfolding_all rfl) trivial rfl rfl
    refine rn_go 80 (by with_unfolding_all rfl) ?_
    refine rn_cl (by with_unfolding_all rfl) (ev_up (by decide) (xm_in _ _ _)) ?_
    rw [inn_b (a := 0) (b := 40) (P := 0) (Q := 40) (by decide) (by decide)]
    refine rn_go 80 (by with_unfolding_all rfl) ?_
    refine rn_br (by with_unfolding_all rfl) (fun c2 => ?_) (fun c2 => ?_)
    · refine rn_go 80 (by with_unfolding_all rfl) ?_
      exact rn_rt (by with_unfolding_all rfl) trivial rfl rfl
    exfalso
    have c3 := btw_f c2
    rcases hq with q | q | q
    · exact c q
    · exact c3.1 q
    · exact q c3.2
  · have q1 : ¬ hm x p = 0 := fun q => hq (Or.inl q)
    have q2 : ¬ d < 0 := fun q => hq (Or.inr (Or.inl q))
    have q3 : d ≤ 40 := Classical.not_not.mp (fun q => hq (Or.inr (Or.inr q)))
    obtain ⟨a, ha, rfl⟩ := hm_of hn hn4 q1
    have hX := hX.resolve_left (by omega)
    obtain ⟨k, hk, rfl⟩ := le_of40 (m := 40) (by decide) q2 q3
    have e : sLater x n mo dy (nI a) (nI k) = dys all n mo dy x k (13 + a) := by
      unfold sLater
      rw [if_neg q1, if_neg q2, if_pos q3, nI_clamp (by omega), nI_clamp (by omega)]
    rw [e]
    obtain ⟨r1, hl1, he1, hev⟩ := lay0 (g := g) (T := T) (A := A) (gm := gm) hn4 hX.2.2.2.2.2.1 he
    obtain ⟨r2, hl2, hrun⟩ := xm_laterL (g := g) (T := T) (A := A) (gm := gm) (Am := Am) (d := k) (r0 := Am 0) hX (by omega) ha k 0 (by omega) r1 hl1 he1
    refine ⟨r2, hl2, ?_⟩
    refine rn_ev am_m_X9_later rfl rfl ?_
    refine rn_go 80 (by with_unfolding_all rfl) ?_
    refine rn_cl (by with_unfolding_all rfl) (ev_up (by decide) (xm_isMember hn' hn4 _)) ?_
    rw [← cg_hm he]
    refine rn_go 80 (by with_unfolding_all rfl) ?_
    refine rn_br (by with_unfolding_all rfl) (fun c => absurd c (q1)) (fun _ => ?_)
    refine rn_go 80 (by with_unfolding_all rfl) ?_
    refine rn_cl (by with_unfolding_all rfl) (ev_up (by decide) (xm_in _ _ _)) ?_
    rw [inn_b (a := 0) (b := 40) (P := 0) (Q := 40) (by decide) (by decide)]
    refine rn_go 80 (by with_unfolding_all rfl) ?_
    refine rn_br (by with_unfolding_all rfl) (fun c => absurd c (btw_t q2 q3)) (fun _ => ?_)
    refine rn_go 80 (by with_unfolding_all rfl) ?_
    refine rn_cl (by with_unfolding_all rfl) (ev_up (by decide) (hev)) ?_
    refine rn_to 29 80 (by with_unfolding_all rfl) ?_
    with_unfolding_all exact hrun
set_option maxRecDepth 10000 in
theorem xm_carried (hX : gm 0 = 0 ∨ okX x n mo dy) (he : Eqv n mo x (tv (Am 0) 0)) (hdy : dy ≤ 999) (d : Int32) : ∃ r', Lo (Am 0) r' ∧ am_ev 12 202 [.ref 43, .int d] (wd g T A gm Am) (some (.int (sCarried (gm 0) x n mo dy d))) (wd g T A gm (tu Am 0 r')) := by
  by_cases q1 : gm 0 = 0
  · have e : sCarried (gm 0) x n mo dy d = -1000002 := by unfold sCarried; rw [if_pos q1]
    rw [e]
    refine ⟨Am 0, fun _ _ => rfl, ?_⟩
    rw [tu_id]
    refine rn_ev am_m_X9_carried rfl rfl ?_
    refine rn_go 80 (by with_unfolding_all rfl) ?_
    refine rn_br (by with_unfolding_all rfl) (fun _ => ?_) (fun c => absurd (q1) c)
    refine rn_go 80 (by with_unfolding_all rfl) ?_
    exact rn_rt (by with_unfolding_all rfl) trivial rfl rfl
  have hX := hX.resolve_left q1
  by_cases hq : d < 0 ∨ ¬ d ≤ 40
  · have e : sCarried (gm 0) x n mo dy d = -1000001 := by rcases hq with q | q <;> simp [sCarried, q, q1]
    rw [e]
    refine ⟨Am 0, fun _ _ => rfl, ?_⟩
    rw [tu_id]
    refine rn_ev am_m_X9_carried rfl rfl ?_
    refine rn_go 80 (by with_unfolding_all rfl) ?_
    refine rn_br (by with_unfolding_all rfl) (fun c => absurd c (q1)) (fun _ => ?_)
    refine rn_go 80 (by with_unfolding_all rfl) ?_
    refine rn_cl (by with_unfolding_all rfl) (ev_up (by decide) (xm_in _ _ _)) ?_
    rw [inn_b (a := 0) (b := 40) (P := 0) (Q := 40) (by decide) (by decide)]
    refine rn_go 80 (by with_unfolding_all rfl) ?_
    refine rn_br (by with_unfolding_all rfl) (fun c2 => ?_) (fun c2 => ?_)
    · refine rn_go 80 (by with_unfolding_all rfl) ?_
      exact rn_rt (by with_unfolding_all rfl) trivial rfl rfl
    exfalso
    have c3 := btw_f c2
    rcases hq with q | q
    · exact c3.1 q
    · exact q c3.2
  · have q2 : ¬ d < 0 := fun q => hq (Or.inl q)
    have q3 : d ≤ 40 := Classical.not_not.mp (fun q => hq (Or.inr q))
    obtain ⟨k, hk, rfl⟩ := le_of40 (m := 40) (by decide) q2 q3
    have e : sCarried (gm 0) x n mo dy (nI k) = dyc all n mo dy x k := by
      unfold sCarried
      rw [if_neg q1, if_neg q2, if_pos q3, nI_clamp (by omega)]
    rw [e]
    obtain ⟨r1, hl1, he1, hev⟩ := lay0 (g := g) (T := T) (A := A) (gm := gm) hX.2.2.1 hX.2.2.2.2.2.1 he
    obtain ⟨r2, hl2, hrun⟩ := xm_carriedL (g := g) (T := T) (A := A) (gm := gm) (Am := Am) (d := k) (r0 := Am 0) hX (by omega) k 0 (by omega) r1 hl1 he1
    refine ⟨r2, hl2, ?_⟩
    refine rn_ev am_m_X9_carried rfl rfl ?_
    refine rn_go 80 (by with_unfolding_all rfl) ?_
    refine rn_br (by with_unfolding_all rfl) (fun c => absurd c (q1)) (fun _ => ?_)
    refine rn_go 80 (by with_unfolding_all rfl) ?_
    refine rn_cl (by with_unfolding_all rfl) (ev_up (by decide) (xm_in _ _ _)) ?_
    rw [inn_b (a := 0) (b := 40) (P := 0) (Q := 40) (by decide) (by decide)]
    refine rn_go 80 (by with_unfolding_all rfl) ?_
    refine rn_br (by with_unfolding_all rfl) (fun c => absurd c (btw_t q2 q3)) (fun _ => ?_)
    refine rn_go 80 (by with_unfolding_all rfl) ?_
    refine rn_cl (by with_unfolding_all rfl) (ev_up (by decide) (hev)) ?_
    refine rn_to 33 80 (by with_unfolding_all rfl) ?_
    with_unfolding_all exact hrun
set_option maxRecDepth 10000 in
theorem x2_bsumL (hX : okX x n mo dy) : ∀ k i, i + k = n → rn none 0 am_t_X2_breathOfAll (4, [some (.ref 34), some (.int (bsum x i)), some (.int (nI i))], [], wd g (tu T 1 x) A gm Am) (some (.int (bsum x n))) (wd g (tu T 1 x) A gm Am)
  | 0, i, hi => by
    have hin : i = n := by omega
    subst hin
    refine rn_go 80 (by with_unfolding_all rfl) ?_
    refine rn_br (by with_unfolding_all rfl) (fun _ => ?_) (fun c => absurd ((by rw [tu_s, hX.2.1]; exact Int32.le_refl _)) c)
    refine rn_go 80 (by with_unfolding_all rfl) ?_
    exact rn_rt (by with_unfolding_all rfl) trivial rfl rfl
  | k + 1, i, hi => by
    have ih := x2_bsumL hX k (i + 1) (by omega)
    have h4 := hX.2.2.1
    rw [← nI_1] at ih
    refine rn_go 80 (by with_unfolding_all rfl) ?_
    refine rn_br (by with_unfolding_all rfl) (fun c => absurd c ((by rw [tu_s, hX.2.1]; exact nI_ge (show i < n by omega) (by omega)))) (fun _ => ?_)
    refine rn_go 80 (by with_unfolding_all rfl) ?_
    refine rn_ld (i) (by with_unfolding_all rfl) rfl (by omega) (by decide) ?_
    rw [wa_at (by omega), tu_s]
    refine rn_to 4 80 (by with_unfolding_all rfl) ?_
    with_unfolding_all exact ih
set_option maxRecDepth 10000 in
theorem x2_breathOfAll (hX : okX x n mo dy) : am_ev 1 35 [.ref 34] (wd g (tu T 1 x) A gm Am) (some (.int (bsum x n))) (wd g (tu T 1 x) A gm Am) := by
  refine rn_ev am_m_X2_breathOfAll rfl rfl ?_
  refine rn_to 4 80 (by with_unfolding_all rfl) ?_
  with_unfolding_all exact x2_bsumL hX n 0 (by omega)
set_option maxRecDepth 10000 in
theorem x2_sesL {d : Nat} (hX : okX x n mo dy) (hd : dy + d < 2000) (s w : Int32) (hw : ie w ≠ 0) : ∀ k i, i + k = d → ∀ o, rn none 6 am_t_X2_sessions (21, [some (.ref 34), some (.int (nI d)), some (.int s), some (.int w), some (.long (drw s.toInt64 i)), none, some (.int (dyc (dsf s.toInt64) n mo dy x i)), some (.int (nI i)), o], [], wd g (tu T 1 (dys (dsf s.toInt64) n mo dy x i)) A gm Am) (some (.int (if w = 0 then dyc (dsf s.toInt64) n mo dy x d else bsum (dys (dsf s.toInt64) n mo dy x d) n))) (wd g (tu T 1 (dys (dsf s.toInt64) n mo dy x d)) A gm Am)
  | 0, i, hi => by
    intro o
    have hin : i = d := by omega
    subst hin
    refine rn_go 80 (by with_unfolding_all rfl) ?_
    refine rn_br (by with_unfolding_all rfl) (fun _ => ?_) (fun c => absurd (Int32.le_refl _) c)
    refine rn_go 80 (by with_unfolding_all rfl) ?_
    refine rn_br (by with_unfolding_all rfl) (fun c => ?_) (fun c => ?_)
    · rw [if_pos c]
      refine rn_go 80 (by with_unfolding_all rfl) ?_
      exact rn_rt (by with_unfolding_all rfl) trivial rfl rfl
    · rw [if_neg c]
      refine rn_go 80 (by with_unfolding_all rfl) ?_
      refine rn_cl (by with_unfolding_all rfl) (ev_up (by decide) (x2_breathOfAll (ox_dys (sf_dsf s.toInt64) hX i (by omega)))) ?_
      refine rn_go 80 (by with_unfolding_all rfl) ?_
      exact rn_rt (by with_unfolding_all rfl) trivial rfl rfl
  | k + 1, i, hi => by
    intro o
    have ih := x2_sesL hX hd s w hw k (i + 1) (by omega)
    rw [← nI_1] at ih
    have hXi := ox_dys (sf_dsf s.toInt64) hX i (by omega)
    refine rn_go 80 (by with_unfolding_all rfl) ?_
    refine rn_br (by with_unfolding_all rfl) (fun c => absurd c (nI_ge (show i < d by omega) (by omega))) (fun _ => ?_)
    refine rn_go 80 (by with_unfolding_all rfl) ?_
    refine rn_ck (by with_unfolding_all rfl) (by decide) ?_
    refine rn_go 80 (by with_unfolding_all rfl) ?_
    refine rn_cl (by with_unfolding_all rfl) (ev_up (by decide) (xk_able hXi)) ?_
    refine rn_go 80 (by with_unfolding_all rfl) ?_
    refine rn_ck (by with_unfolding_all rfl) (by decide) ?_
    refine rn_go 80 (by with_unfolding_all rfl) ?_
    refine rn_cl (by with_unfolding_all rfl) (ev_up (by decide) (xk_pass hXi _ _)) ?_
    refine rn_to 21 80 (by with_unfolding_all rfl) ?_
    with_unfolding_all exact ih _
set_option maxRecDepth 10000 in
theorem x8_drawn (hb : g 11 = 0 ∨ g 11 = 1) (hX : g 11 = 0 ∨ okX (T 0) n mo dy) (hdy : dy ≤ 999) (d s w : Int32) : ∃ g' t', (∀ k, k ≠ 12 → g' k = g k) ∧ am_ev 12 118 [.ref 0, .int d, .int s, .int w] (wd g T A gm Am) (some (.int (sDrawn (g 11) (T 0) n mo dy d s w))) (wd g' (tu T 1 t') A gm Am) := by
  unfold sDrawn
  by_cases q1 : g 11 = 0
  · rw [if_pos q1]
    refine ⟨g, T 1, fun _ _ => rfl, ?_⟩
    rw [tu_id]
    refine rn_ev am_m_X8_drawn rfl rfl ?_
    refine rn_go 80 (by with_unfolding_all rfl) ?_
    refine rn_br (by with_unfolding_all rfl) (fun _ => ?_) (fun c => absurd (q1) c)
    refine rn_go 80 (by with_unfolding_all rfl) ?_
    exact rn_rt (by with_unfolding_all rfl) trivial rfl rfl
  rw [if_neg q1]
  have hX := hX.resolve_left q1
  by_cases hq : (d < 0 ∨ ¬ d ≤ 60 ∨ s < 1 ∨ ¬ s ≤ 999999 ∨ ie w = 0)
  · rw [if_pos hq]
    refine ⟨g, T 1, fun _ _ => rfl, ?_⟩
    rw [tu_id]
    refine rn_ev am_m_X8_drawn rfl rfl ?_
    refine rn_go 80 (by with_unfolding_all rfl) ?_
    refine rn_br (by with_unfolding_all rfl) (fun c => absurd c (q1)) (fun _ => ?_)
    refine rn_go 80 (by with_unfolding_all rfl) ?_
    refine rn_br (by with_unfolding_all rfl) (fun c1 => ?_) (fun c1 => ?_)
    · refine rn_go 80 (by with_unfolding_all rfl) ?_
      exact rn_rt (by with_unfolding_all rfl) trivial rfl rfl
    refine rn_go 80 (by with_unfolding_all rfl) ?_
    refine rn_br (by with_unfolding_all rfl) (fun c2 => ?_) (fun c2 => ?_)
    · refine rn_go 80 (by with_unfolding_all rfl) ?_
      exact rn_rt (by with_unfolding_all rfl) trivial rfl rfl
    refine rn_go 80 (by with_unfolding_all rfl) ?_
    refine rn_br (by with_unfolding_all rfl) (fun c3 => ?_) (fun c3 => ?_)
    · refine rn_go 80 (by with_unfolding_all rfl) ?_
      exact rn_rt (by with_unfolding_all rfl) trivial rfl rfl
    refine rn_go 80 (by with_unfolding_all rfl) ?_
    refine rn_br (by with_unfolding_all rfl) (fun c4 => ?_) (fun c4 => ?_)
    · refine rn_go 80 (by with_unfolding_all rfl) ?_
      exact rn_rt (by with_unfolding_all rfl) trivial rfl rfl
    refine rn_go 80 (by with_unfolding_all rfl) ?_
    refine rn_cl (by with_unfolding_all rfl) (ev_up (by decide) (x8_isEither w)) ?_
    refine rn_go 80 (by with_unfolding_all rfl) ?_
    refine rn_br (by with_unfolding_all rfl) (fun c5 => ?_) (fun c5 => ?_)
    · refine rn_go 80 (by with_unfolding_all rfl) ?_
      exact rn_rt (by with_unfolding_all rfl) trivial rfl rfl
    exfalso
    rcases hq with q | q | q | q | q
    · exact c1 q
    · exact c2 (Int32.not_le.mp q)
    · exact c3 q
    · exact c4 (Int32.not_le.mp q)
    · exact c5 q
  · rw [if_neg hq]
    have q2 : ¬ d < 0 := fun q => hq (Or.inl q)
    have q3 : d ≤ 60 := Classical.not_not.mp (fun q => hq (Or.inr (Or.inl q)))
    have q4 : ¬ s < 1 := fun q => hq (Or.inr (Or.inr (Or.inl q)))
    have q5 : s ≤ 999999 := Classical.not_not.mp (fun q => hq (Or.inr (Or.inr (Or.inr (Or.inl q)))))
    have q6 : ¬ ie w = 0 := fun q => hq (Or.inr (Or.inr (Or.inr (Or.inr q))))
    obtain ⟨k, hk, rfl⟩ := le_of40 (m := 60) (by decide) q2 q3
    rw [nI_clamp (by omega)]
    refine ⟨upd g 12 (g 11), dys (dsf s.toInt64) n mo dy (T 0) k, fun j hj => up_ne hj, ?_⟩
    have key : am_ev 8 34 [.ref 34, .int (nI k), .int s, .int w] (wd g T A gm Am) (some (.int (if w = 0 then dyc (dsf s.toInt64) n mo dy (T 0) k else bsum (dys (dsf s.toInt64) n mo dy (T 0) k) n))) (wd (upd g 12 (g 11)) (tu T 1 (dys (dsf s.toInt64) n mo dy (T 0) k)) A gm Am) := by
      refine rn_ev am_m_X2_sessions rfl rfl ?_
      refine rn_go 80 (by with_unfolding_all rfl) ?_
      refine rn_cl (by with_unfolding_all rfl) (ev_up (by decide) (xh_become_1_0 hb)) ?_
      refine rn_to 21 80 (by with_unfolding_all rfl) ?_
      refine rn_of_le (d := 6) (by decide) ?_
      with_unfolding_all exact x2_sesL hX (by omega) s w q6 k 0 (by omega) _
    refine rn_ev am_m_X8_drawn rfl rfl ?_
    refine rn_go 80 (by with_unfolding_all rfl) ?_
    refine rn_br (by with_unfolding_all rfl) (fun c => absurd c (q1)) (fun _ => ?_)
    refine rn_go 80 (by with_unfolding_all rfl) ?_
    refine rn_br (by with_unfolding_all rfl) (fun c => absurd c (q2)) (fun _ => ?_)
    refine rn_go 80 (by with_unfolding_all rfl) ?_
    refine rn_br (by with_unfolding_all rfl) (fun c => absurd c (Int32.not_lt.mpr q3)) (fun _ => ?_)
    refine rn_go 80 (by with_unfolding_all rfl) ?_
    refine rn_br (by with_unfolding_all rfl) (fun c => absurd c (q4)) (fun _ => ?_)
    refine rn_go 80 (by with_unfolding_all rfl) ?_
    refine rn_br (by with_unfolding_all rfl) (fun c => absurd c (Int32.not_lt.mpr q5)) (fun _ => ?_)
    refine rn_go 80 (by with_unfolding_all rfl) ?_
    refine rn_cl (by with_unfolding_all rfl) (ev_up (by decide) (x8_isEither w)) ?_
    refine rn_go 80 (by with_unfolding_all rfl) ?_
    refine rn_br (by with_unfolding_all rfl) (fun c => absurd c (q6)) (fun _ => ?_)
    refine rn_go 80 (by with_unfolding_all rfl) ?_
    refine rn_cl (by with_unfolding_all rfl) (ev_up (by decide) (key)) ?_
    refine rn_go 80 (by with_unfolding_all rfl) ?_
    exact rn_rt (by with_unfolding_all rfl) trivial rfl rfl
set_option maxRecDepth 10000 in
theorem xm_bsumL {r : Nat → Int32} (hX : okX x n mo dy) (hn : r 1 = nI n) (he : Eqv n mo x (tv r 567)) (d s w many : Int32) (xl : Int64) : ∀ k i, i + k = n → rn none 11 am_t_X9_drawn (118, [some (.ref 43), some (.int d), some (.int s), some (.int w), some (.long xl), none, some (.int many), some (.int (bsum x i)), some (.int (nI i))], [], wd g T A gm (tu Am 0 r)) (some (.int (if w = 0 then many else bsum x n))) (wd g T A gm (tu Am 0 r))
  | 0, i, hi => by
    have hin : i = n := by omega
    subst hin
    refine rn_go 80 (by with_unfolding_all rfl) ?_
    refine rn_ld (1) (by with_unfolding_all rfl) rfl (by omega) (by decide) ?_
    rw [tu_s, hn]
    refine rn_go 80 (by with_unfolding_all rfl) ?_
    refine rn_br (by with_unfolding_all rfl) (fun _ => ?_) (fun c => absurd (Int32.le_refl _) c)
    refine rn_go 80 (by with_unfolding_all rfl) ?_
    refine rn_br (by with_unfolding_all rfl) (fun c => ?_) (fun c => ?_)
    · rw [if_pos c]
      refine rn_go 80 (by with_unfolding_all rfl) ?_
      exact rn_rt (by with_unfolding_all rfl) trivial rfl rfl
    · rw [if_neg c]
      refine rn_go 80 (by with_unfolding_all rfl) ?_
      exact rn_rt (by with_unfolding_all rfl) trivial rfl rfl
  | k + 1, i, hi => by
    have ih := xm_bsumL hX hn he d s w many xl k (i + 1) (by omega)
    have h4 := hX.2.2.1
    rw [← nI_1] at ih
    refine rn_go 80 (by with_unfolding_all rfl) ?_
    refine rn_ld (1) (by with_unfolding_all rfl) rfl (by omega) (by decide) ?_
    rw [tu_s, hn]
    refine rn_go 80 (by with_unfolding_all rfl) ?_
    refine rn_br (by with_unfolding_all rfl) (fun c => absurd c (nI_ge (show i < n by omega) (by omega))) (fun _ => ?_)
    refine rn_go 80 (by with_unfolding_all rfl) ?_
    refine rn_ld (567 + (13 + i)) (by with_unfolding_all rfl) (by rw [show (580 : Int32) = nI 580 from rfl, nI_add, show 580 + i = 567 + (13 + i) by omega]) (by omega) (by decide) ?_
    rw [tu_s, show r (567 + (13 + i)) = x (13 + i) from ((he.2.2 i (by omega)).2.1).symm]
    refine rn_to 118 80 (by with_unfolding_all rfl) ?_
    with_unfolding_all exact ih
set_option maxRecDepth 10000 in
theorem xm_drawnL {d : Nat} {r0 : Nat → Int32} (hX : okX x n mo dy) (hn : r0 1 = nI n) (hd : dy + d < 2000) (s w : Int32) : ∀ k i, i + k = d → ∀ r, Lo r0 r → Eqv n mo (dys (dsf s.toInt64) n mo dy x i) (tv r 567) → ∀ o, ∃ r', Lo r0 r' ∧ rn none 11 am_t_X9_drawn (61, [some (.ref 43), some (.int (nI d)), some (.int s), some (.int w), some (.long (drw s.toInt64 i)), none, some (.int (dyc (dsf s.toInt64) n mo dy x i)), some (.int (nI i)), o], [], wd g T A gm (tu Am 0 r)) (some (.int (if w = 0 then dyc (dsf s.toInt64) n mo dy x d else bsum (dys (dsf s.toInt64) n mo dy x d) n))) (wd g T A gm (tu Am 0 r'))
  | 0, i, hi, r, hl, he => by
    intro o
    have hin : i = d := by omega
    subst hin
    refine ⟨r, hl, ?_⟩
    refine rn_go 80 (by with_unfolding_all rfl) ?_
    refine rn_br (by with_unfolding_all rfl) (fun _ => ?_) (fun c => absurd (Int32.le_refl _) c)
    refine rn_to 118 80 (by with_unfolding_all rfl) ?_
    with_unfolding_all exact xm_bsumL (ox_dys (sf_dsf s.toInt64) hX i (by omega)) (by rw [hl 1 (by omega)]; exact hn) he _ s w _ _ n 0 (by omega)
  | k + 1, i, hi, r, hl, he => by
    intro o
    have hXi := ox_dys (sf_dsf s.toInt64) hX i (by omega)
    obtain ⟨r1, ho, he1, hev⟩ := xx_pass (g := g) (T := T) (A := A) (gm := gm) (Am := Am) (B := 567) (by omega) he hXi (sf_dsf s.toInt64 _ _ hX.2.2.1 i)
    obtain ⟨r2, hl2, ih⟩ := xm_drawnL hX hn hd s w k (i + 1) (by omega) r1 (lo_out (by omega) hl ho) he1 o
    rw [← nI_1] at ih
    refine ⟨r2, hl2, ?_⟩
    refine rn_go 80 (by with_unfolding_all rfl) ?_
    refine rn_br (by with_unfolding_all rfl) (fun c => absurd c (nI_ge (show i < d by omega) (by omega))) (fun _ => ?_)
    refine rn_go 80 (by with_unfolding_all rfl) ?_
    refine rn_ck (by with_unfolding_all rfl) (by decide) ?_
    refine rn_go 80 (by with_unfolding_all rfl) ?_
    refine rn_cl (by with_unfolding_all rfl) (ev_up (by decide) (xx_can (by omega) he hXi)) ?_
    refine rn_go 80 (by with_unfolding_all rfl) ?_
    refine rn_ck (by with_unfolding_all rfl) (by decide) ?_
    refine rn_go 80 (by with_unfolding_all rfl) ?_
    refine rn_cl (by with_unfolding_all rfl) (ev_up (by decide) (hev)) ?_
    refine rn_to 61 80 (by with_unfolding_all rfl) ?_
    with_unfolding_all exact ih
set_option maxRecDepth 10000 in
theorem xm_drawn (hX : gm 0 = 0 ∨ okX x n mo dy) (he : Eqv n mo x (tv (Am 0) 0)) (hdy : dy ≤ 999) (d s w : Int32) : ∃ r', Lo (Am 0) r' ∧ am_ev 12 208 [.ref 43, .int d, .int s, .int w] (wd g T A gm Am) (some (.int (sDrawn (gm 0) x n mo dy d s w))) (wd g T A gm (tu Am 0 r')) := by
  unfold sDrawn
  by_cases q1 : gm 0 = 0
  · rw [if_pos q1]
    refine ⟨Am 0, fun _ _ => rfl, ?_⟩
    rw [tu_id]
    refine rn_ev am_m_X9_drawn rfl rfl ?_
    refine rn_go 80 (by with_unfolding_all rfl) ?_
    refine rn_br (by with_unfolding_all rfl) (fun _ => ?_) (fun c => absurd (q1) c)
    refine rn_go 80 (by with_unfolding_all rfl) ?_
    exact rn_rt (by with_unfolding_all rfl) trivial rfl rfl
  have hX := hX.resolve_left q1
  rw [if_neg q1]
  by_cases hq : (d < 0 ∨ ¬ d ≤ 60 ∨ s < 1 ∨ ¬ s ≤ 999999 ∨ ie w = 0)
  · rw [if_pos hq]
    refine ⟨Am 0, fun _ _ => rfl, ?_⟩
    rw [tu_id]
    refine rn_ev am_m_X9_drawn rfl rfl ?_
    refine rn_go 80 (by with_unfolding_all rfl) ?_
    refine rn_br (by with_unfolding_all rfl) (fun c => absurd c (q1)) (fun _ => ?_)
    refine rn_go 80 (by with_unfolding_all rfl) ?_
    refine rn_cl (by with_unfolding_all rfl) (ev_up (by decide) (xm_in _ _ _)) ?_
    rw [inn_b (a := 0) (b := 60) (P := 0) (Q := 60) (by decide) (by decide)]
    refine rn_go 80 (by with_unfolding_all rfl) ?_
    refine rn_br (by with_unfolding_all rfl) (fun c1 => ?_) (fun c1 => ?_)
    · refine rn_go 80 (by with_unfolding_all rfl) ?_
      exact rn_rt (by with_unfolding_all rfl) trivial rfl rfl
    refine rn_go 80 (by with_unfolding_all rfl) ?_
    refine rn_cl (by with_unfolding_all rfl) (ev_up (by decide) (xm_in _ _ _)) ?_
    rw [inn_b (a := 1) (b := 999999) (P := 1) (Q := 999999) (by decide) (by decide)]
    refine rn_go 80 (by with_unfolding_all rfl) ?_
    refine rn_br (by with_unfolding_all rfl) (fun c2 => ?_) (fun c2 => ?_)
    · refine rn_go 80 (by with_unfolding_all rfl) ?_
      exact rn_rt (by with_unfolding_all rfl) trivial rfl rfl
    refine rn_go 80 (by with_unfolding_all rfl) ?_
    refine rn_cl (by with_unfolding_all rfl) (ev_up (by decide) (xm_in _ _ _)) ?_
    rw [inn_b (a := 0) (b := 1) (P := 0) (Q := 1) (by decide) (by decide), ie_btw]
    refine rn_go 80 (by with_unfolding_all rfl) ?_
    refine rn_br (by with_unfolding_all rfl) (fun c3 => ?_) (fun c3 => ?_)
    · refine rn_go 80 (by with_unfolding_all rfl) ?_
      exact rn_rt (by with_unfolding_all rfl) trivial rfl rfl
    exfalso
    have c1 := btw_f c1
    have c2 := btw_f c2
    rcases hq with q | q | q | q | q
    · exact c1.1 q
    · exact q c1.2
    · exact c2.1 q
    · exact q c2.2
    · exact c3 q
  · rw [if_neg hq]
    have q2 : ¬ d < 0 := fun q => hq (Or.inl q)
    have q3 : d ≤ 60 := Classical.not_not.mp (fun q => hq (Or.inr (Or.inl q)))
    have q4 : ¬ s < 1 := fun q => hq (Or.inr (Or.inr (Or.inl q)))
    have q5 : s ≤ 999999 := Classical.not_not.mp (fun q => hq (Or.inr (Or.inr (Or.inr (Or.inl q)))))
    have q6 : ¬ ie w = 0 := fun q => hq (Or.inr (Or.inr (Or.inr (Or.inr q))))
    obtain ⟨k, hk, rfl⟩ := le_of40 (m := 60) (by decide) q2 q3
    rw [nI_clamp (by omega)]
    obtain ⟨r1, hl1, he1, hev⟩ := lay0 (g := g) (T := T) (A := A) (gm := gm) hX.2.2.1 hX.2.2.2.2.2.1 he
    have hn1 : Am 0 1 = nI n := by
      have := he.1 1 (by decide)
      unfold tv at this
      rw [← hX.2.1, this]
    obtain ⟨r2, hl2, hrun⟩ := xm_drawnL (g := g) (T := T) (A := A) (gm := gm) (Am := Am) (d := k) (r0 := Am 0) hX hn1 (by omega) s w k 0 (by omega) r1 hl1 he1 none
    refine ⟨r2, hl2, ?_⟩
    refine rn_ev am_m_X9_drawn rfl rfl ?_
    refine rn_go 80 (by with_unfolding_all rfl) ?_
    refine rn_br (by with_unfolding_all rfl) (fun c => absurd c (q1)) (fun _ => ?_)
    refine rn_go 80 (by with_unfolding_all rfl) ?_
    refine rn_cl (by with_unfolding_all rfl) (ev_up (by decide) (xm_in _ _ _)) ?_
    rw [inn_b (a := 0) (b := 60) (P := 0) (Q := 60) (by decide) (by decide)]
    refine rn_go 80 (by with_unfolding_all rfl) ?_
    refine rn_br (by with_unfolding_all rfl) (fun c => absurd c (btw_t q2 q3)) (fun _ => ?_)
    refine rn_go 80 (by with_unfolding_all rfl) ?_
    refine rn_cl (by with_unfolding_all rfl) (ev_up (by decide) (xm_in _ _ _)) ?_
    rw [inn_b (a := 1) (b := 999999) (P := 1) (Q := 999999) (by decide) (by decide)]
    refine rn_go 80 (by with_unfolding_all rfl) ?_
    refine rn_br (by with_unfolding_all rfl) (fun c => absurd c (btw_t q4 q5)) (fun _ => ?_)
    refine rn_go 80 (by with_unfolding_all rfl) ?_
    refine rn_cl (by with_unfolding_all rfl) (ev_up (by decide) (xm_in _ _ _)) ?_
    rw [inn_b (a := 0) (b := 1) (P := 0) (Q := 1) (by decide) (by decide), ie_btw]
    refine rn_go 80 (by with_unfolding_all rfl) ?_
    refine rn_br (by with_unfolding_all rfl) (fun c => absurd c (q6)) (fun _ => ?_)
    refine rn_go 80 (by with_unfolding_all rfl) ?_
    refine rn_cl (by with_unfolding_all rfl) (ev_up (by decide) (hev)) ?_
    refine rn_to 61 80 (by with_unfolding_all rfl) ?_
    with_unfolding_all exact hrun
end
end

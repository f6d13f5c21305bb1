/-! what is foretold: alike -/
set_option maxRecDepth 10000 in
theorem inv_g12 {g g' gm : Nat → Int32} {T A Am : Nat → Nat → Int32} (hg : ∀ k, k ≠ 12 → g' k = g k) (h : Inv g T A gm Am) : Inv g' T A gm Am := inv_g (fun k a _ _ => hg k a) h
set_option maxRecDepth 10000 in
theorem sim_power (p w : Int32) : Sim 108 190 [.int p, .int w] := fun g gm T A Am hI => by
  obtain ⟨j0, n, mo, dy, hH, hP⟩ := hI.2.2.2.2.2.1
  obtain ⟨h1, h2, h3, h4, h5, h6, h7, h8, he⟩ := id hH
  exact ⟨_, g, gm, T, A, Am, x8_power h2 h3 (iH_N hH) p w, xm_power h2 h3 he (iH_N hH) p w, hI⟩
set_option maxRecDepth 10000 in
theorem sim_fewest (w : Int32) : Sim 109 191 [.int w] := fun g gm T A Am hI => by
  obtain ⟨j0, n, mo, dy, hH, hP⟩ := hI.2.2.2.2.2.1
  obtain ⟨h1, h2, h3, h4, h5, h6, h7, h8, he⟩ := id hH
  exact ⟨_, g, gm, T, A, Am, x8_fewest (iH_X hH) w, by rw [← j0]; exact xm_fewest he (by rw [j0]; exact iH_X hH) w, hI⟩
set_option maxRecDepth 10000 in
theorem sim_plan (q k : Int32) : Sim 110 194 [.int q, .int k] := fun g gm T A Am hI => by
  obtain ⟨j0, n, mo, dy, hH, hP⟩ := hI.2.2.2.2.2.1
  obtain ⟨h1, h2, h3, h4, h5, h6, h7, h8, he⟩ := id hH
  obtain ⟨g', t', a6, a7, a8, hg, hx⟩ := x8_plan (gm := gm) (A := A) (Am := Am) (iH_z hH) (iH_X hH) h7 q k
  obtain ⟨r', s', b', hl, hm⟩ := xm_plan (g := g') (T := tu T 1 t') (A := tu (tu (tu A 6 a6) 7 a7) 8 a8) (gm := gm) (Am := Am) (x := T 0) (by rw [j0]; exact iH_X hH) he h7 q k
  rw [j0] at hm
  exact ⟨_, g', gm, tu T 1 t', tu (tu (tu A 6 a6) 7 a7) 8 a8, tu (tu (tu Am 7 s') 8 b') 0 r', hx, hm, inv_lo (Am := tu (tu Am 7 s') 8 b') hl (inv_g hg hI)⟩
set_option maxRecDepth 10000 in
theorem sim_agenda (k : Int32) : Sim 111 196 [.int k] := fun g gm T A Am hI => by
  obtain ⟨j0, n, mo, dy, hH, hP⟩ := hI.2.2.2.2.2.1
  obtain ⟨h1, h2, h3, h4, h5, h6, h7, h8, he⟩ := id hH
  obtain ⟨g', t', a', hg, hx⟩ := x8_agenda (gm := gm) (A := A) (Am := Am) (iH_z hH) (iH_X hH) h7 k
  obtain ⟨r', b', hl, hm⟩ := xm_agenda (g := g') (T := tu T 1 t') (A := tu A 5 a') (gm := gm) (Am := Am) (x := T 0) (by rw [j0]; exact iH_X hH) he h7 k
  rw [j0] at hm
  exact ⟨_, g', gm, tu T 1 t', tu A 5 a', tu (tu Am 9 b') 0 r', hx, hm, inv_lo (Am := tu Am 9 b') hl (inv_g12 hg hI)⟩
set_option maxRecDepth 10000 in
theorem sim_lozenges (k : Int32) : Sim 112 200 [.int k] := fun g gm T A Am hI => by
  obtain ⟨j0, n, mo, dy, hH, hP⟩ := hI.2.2.2.2.2.1
  obtain ⟨h1, h2, h3, h4, h5, h6, h7, h8, he⟩ := id hH
  obtain ⟨g', t', hg, hx⟩ := x8_lozenges (gm := gm) (A := A) (Am := Am) (iH_z hH) (iH_X hH) k
  obtain ⟨r', hl, hm⟩ := xm_lozenges (g := g') (T := tu T 1 t') (A := A) (gm := gm) (Am := Am) (x := T 0) (by rw [j0]; exact iH_X hH) he k
  rw [j0] at hm
  exact ⟨_, g', gm, tu T 1 t', A, tu Am 0 r', hx, hm, inv_lo hl (inv_g12 hg hI)⟩
set_option maxRecDepth 10000 in
theorem sim_later (p d : Int32) : Sim 113 201 [.int p, .int d] := fun g gm T A Am hI => by
  obtain ⟨j0, n, mo, dy, hH, hP⟩ := hI.2.2.2.2.2.1
  obtain ⟨h1, h2, h3, h4, h5, h6, h7, h8, he⟩ := id hH
  obtain ⟨g', t', hg, hx⟩ := x8_later (gm := gm) (A := A) (Am := Am) (iH_z hH) h2 h3 (iH_N hH) h7 p d
  obtain ⟨r', hl, hm⟩ := xm_later (g := g') (T := tu T 1 t') (A := A) (gm := gm) (Am := Am) (x := T 0) h2 h3 he (iH_N hH) h7 p d
  exact ⟨_, g', gm, tu T 1 t', A, tu Am 0 r', hx, hm, inv_lo hl (inv_g12 hg hI)⟩
set_option maxRecDepth 10000 in
theorem sim_carried (d : Int32) : Sim 114 202 [.int d] := fun g gm T A Am hI => by
  obtain ⟨j0, n, mo, dy, hH, hP⟩ := hI.2.2.2.2.2.1
  obtain ⟨h1, h2, h3, h4, h5, h6, h7, h8, he⟩ := id hH
  obtain ⟨g', t', hg, hx⟩ := x8_carried (gm := gm) (A := A) (Am := Am) (iH_z hH) (iH_X hH) h7 d
  obtain ⟨r', hl, hm⟩ := xm_carried (g := g') (T := tu T 1 t') (A := A) (gm := gm) (Am := Am) (x := T 0) (by rw [j0]; exact iH_X hH) he h7 d
  rw [j0] at hm
  exact ⟨_, g', gm, tu T 1 t', A, tu Am 0 r', hx, hm, inv_lo hl (inv_g12 hg hI)⟩
set_option maxRecDepth 10000 in
theorem sim_colds (c w : Int32) : Sim 117 207 [.int c, .int w] := fun g gm T A Am hI => by
  obtain ⟨j0, n, mo, dy, hH, hP⟩ := hI.2.2.2.2.2.1
  obtain ⟨h1, h2, h3, h4, h5, h6, h7, h8, he⟩ := id hH
  obtain ⟨g', t', hg, hx⟩ := x8_colds (gm := gm) (A := A) (Am := Am) (iH_z hH) (iH_X hH) c w
  obtain ⟨r', hl, hm⟩ := xm_colds (g := g') (T := tu T 1 t') (A := A) (gm := gm) (Am := Am) (x := T 0) (by rw [j0]; exact iH_X hH) he c w
  rw [j0] at hm
  exact ⟨_, g', gm, tu T 1 t', A, tu Am 0 r', hx, hm, inv_lo hl (inv_g12 hg hI)⟩
set_option maxRecDepth 10000 in
theorem sim_drawn (d s w : Int32) : Sim 118 208 [.int d, .int s, .int w] := fun g gm T A Am hI => by
  obtain ⟨j0, n, mo, dy, hH, hP⟩ := hI.2.2.2.2.2.1
  obtain ⟨h1, h2, h3, h4, h5, h6, h7, h8, he⟩ := id hH
  obtain ⟨g', t', hg, hx⟩ := x8_drawn (gm := gm) (A := A) (Am := Am) (iH_z hH) (iH_X hH) h7 d s w
  obtain ⟨r', hl, hm⟩ := xm_drawn (g := g') (T := tu T 1 t') (A := A) (gm := gm) (Am := Am) (x := T 0) (by rw [j0]; exact iH_X hH) he h7 d s w
  rw [j0] at hm
  exact ⟨_, g', gm, tu T 1 t', A, tu Am 0 r', hx, hm, inv_lo hl (inv_g12 hg hI)⟩
set_option maxRecDepth 10000 in
theorem inv_s {g gm : Nat → Int32} {T A Am : Nat → Nat → Int32} {s : Int32} (h : Inv g T A gm Am) : Inv (upd g 1 s) T A (upd gm 4 s) Am := by
  obtain ⟨i1, i2, i3, i4, i5, i6, i7, i8⟩ := h
  exact ⟨i1, rfl, i3, i4, i5, i6, i7, i8⟩
set_option maxRecDepth 10000 in
theorem sim_fits (p r i k w : Int32) : Sim 115 205 [.int p, .int r, .int i, .int k, .int w] := fun g gm T A Am hI => by
  obtain ⟨i1, i2, i3, ⟨e0, e1, e2, i4⟩, i5, i6, i7, i8⟩ := id hI
  obtain ⟨j0, n, mo, dy, hH, hP⟩ := i6
  obtain ⟨h1, h2, h3, h4, h5, h6, h7, h8, he⟩ := id hH
  obtain ⟨⟨v, s⟩, hq⟩ : ∃ q, sFits (T 0) n mo dy p r i k w (A 1) (A 2) (g 1) = q := ⟨_, rfl⟩
  obtain ⟨g', t', hg, hx⟩ := x8_fits (gm := gm) (A := A) (Am := Am) (iH_z hH) h2 h3 (iH_N hH) h7 i4 p r i k w hq
  obtain ⟨r', hl, hm⟩ := xm_fits (g := g') (T := tu T 1 t') (A := A) (gm := gm) (Am := Am) (x := T 0) h2 h3 he (iH_N hH) h7 (by rw [e0, e1]; exact i4) p r i k w (v := v) (s := s) (by rw [i2, e1, e2]; exact hq)
  exact ⟨v, g', upd gm 4 s, tu T 1 t', A, tu Am 0 r', hx, hm, inv_lo hl (inv_g12 hg (inv_s hI))⟩
set_option maxRecDepth 10000 in
theorem sim_costs (r i k : Int32) : Sim 116 206 [.int r, .int i, .int k] := fun g gm T A Am hI => by
  obtain ⟨i1, i2, i3, ⟨e0, e1, e2, i4⟩, i5, i6, i7, i8⟩ := id hI
  obtain ⟨j0, n, mo, dy, hH, hP⟩ := i6
  obtain ⟨h1, h2, h3, h4, h5, h6, h7, h8, he⟩ := id hH
  obtain ⟨⟨v, s⟩, hq⟩ : ∃ q, sCosts (g 11) (T 0) n mo dy r i k (A 1) (A 2) (g 1) = q := ⟨_, rfl⟩
  obtain ⟨g', t', hg, hx⟩ := x8_costs (gm := gm) (A := A) (Am := Am) (iH_z hH) (iH_X hH) h7 i4 r i k hq
  obtain ⟨r', hl, hm⟩ := xm_costs (g := g') (T := tu T 1 t') (A := A) (gm := gm) (Am := Am) (x := T 0) (by rw [j0]; exact iH_X hH) he h7 (by rw [e0, e1]; exact i4) r i k (v := v) (s := s) (by rw [i2, j0, e1, e2]; exact hq)
  exact ⟨v, g', upd gm 4 s, tu T 1 t', A, tu Am 0 r', hx, hm, inv_lo hl (inv_g12 hg (inv_s hI))⟩
/-! acts: alike -/
set_option maxRecDepth 10000 in
theorem iH_one {z : Int32} {t r : Nat → Int32} {n mo dy : Nat} (h : iH z t r n mo dy) (hz : ¬ z = 0) : z = 1 := (iH_z h).resolve_left hz
set_option maxRecDepth 10000 in
theorem iH_n1 {z : Int32} {t r : Nat → Int32} {n mo dy : Nat} (h : iH z t r n mo dy) (hn : 0 < n + mo) : z = 1 := by
  obtain ⟨-, -, -, -, -, -, -, h8, -⟩ := h
  rcases h8 with q | q
  · exact absurd hn (by omega)
  · exact q.1
set_option maxRecDepth 10000 in
theorem may_sub {t : Nat → Int32} {n : Nat} {s : Int32} (h4 : n ≤ 4) (h : s &&& (ta t n ^^^ -1) = 0) : sMay t n s := fun _ hi hb => tb_sub h4 h hi hb
set_option maxRecDepth 10000 in
theorem sp_none {z : Int32} {t : Nat → Int32} {n : Nat} {s : Int32} (h : sSpeak z t n s = none) : ¬ z = 0 ∧ s &&& (ta t n ^^^ -1) = 0 ∧ t 3 < 999 := by
  unfold sSpeak at h
  by_cases c1 : z = 0
  · rw [if_pos c1] at h
    cases h
  rw [if_neg c1] at h
  by_cases c2 : hst t s = 0
  · rw [if_pos c2] at h
    cases h
  rw [if_neg c2] at h
  by_cases c3 : s &&& (ta t n ^^^ -1) = 0
  · rw [if_pos c3] at h
    by_cases c4 : t 3 < 999
    · exact ⟨c1, c3, c4⟩
    · rw [if_neg c4] at h
      cases h
  · rw [if_neg c3] at h
    cases h
set_option maxRecDepth 10000 in
theorem tv0_up {r : Nat → Int32} {j : Nat} {x : Int32} : tv (upd r j x) 0 = upd (tv r 0) j x := by
  have h := tv_up (r := r) (B := 0) (j := j) (x := x)
  rw [Nat.zero_add] at h
  exact h
set_option maxRecDepth 10000 in
theorem sim_speak (s : Int32) : Sim 100 179 [.int s] := fun g gm T A Am hI => by
  obtain ⟨j0, n, mo, dy, hH, hm1, nx, kp, e1, e2, e3, e4, hP⟩ := hI.2.2.2.2.2.1
  obtain ⟨h1, h2, h3, h4, h5, h6, h7, h8, he⟩ := id hH
  have ex := x8_speak (g := g) (T := T) (A := A) (gm := gm) (Am := Am) h2 h3 h4 (iH_1 hH) h5 h6 (by omega) e1 e2 e3 e4 s
  have em := fun g' T' A' => xm_speak (g := g') (T := T') (A := A') (gm := gm) (Am := Am) (cg_ok he h1) (by rw [← he.1 1 (by decide)]; exact h2) h3 (by rw [← he.1 0 (by decide)]; exact h4) (by rw [j0]; exact iH_1 hH) h5 (by rw [← he.1 3 (by decide)]; exact h6) h7 (hm1.trans e3) e4 s
  cases hq : sSpeak (g 11) (T 0) n s with
  | some v => exact ⟨v, g, gm, T, A, Am, ex.1 v hq, (em g T A).1 v (by rw [j0, ← cg_speak he]; exact hq), hI⟩
  | none =>
    obtain ⟨q1, q2, q3⟩ := sp_none hq
    have hz := iH_one hH q1
    have hX := (iH_X hH).resolve_left q1
    rw [h6] at q3
    have hd : dy < 999 := (nI_ltI (b := 999) (by omega) (by decide)).mp q3
    have e := (em (gk g nx kp) (tu T 0 (pd (T 0) s n (cw (T 0) s (ta (T 0) n) n dy mo))) (tu A 4 (ekn (A 4) (10 * nx) (T 0) 10))).2 (by rw [j0, ← cg_speak he]; exact hq)
    rw [← cg_ta he n (Nat.le_refl _), ← cg_cw he hX.2.2.2.2.1] at e
    refine ⟨_, gk g nx kp, _, _, _, _, ex.2 hq, e, ?_⟩
    refine inv_act hI hX h7 he e2 e4 hP hz (ox_pd hX (may_sub h3 q2) (by omega) _) (show dy + 1 ≤ 999 by omega) (fun k hk => ?_) (fun k a b => rs_out (Or.inr (by omega))) ?_
    · unfold acP at hk
      exact pd_lo (by omega) (by omega) (by omega)
    · exact eqv_tr (cg_pd he h3 h5 _) (eqv_21 h3 h5 (fun k hk => (tv_rs hk).symm))
set_option maxRecDepth 10000 in
theorem ac_br {n k j : Nat} (hn : n ≤ 4) (hk : k < n) (h : ¬ acP j) : j ≠ 13 + k := by
  unfold acP at h
  omega
set_option maxRecDepth 10000 in
theorem ac_nd {n k j : Nat} (hn : n ≤ 4) (hk : k < n) (h : ¬ acP j) : j ≠ 5 + k := by
  unfold acP at h
  omega
set_option maxRecDepth 10000 in
theorem sim_lozenge (p : Int32) : Sim 101 180 [.int p] := fun g gm T A Am hI => by
  obtain ⟨j0, n, mo, dy, hH, hm1, nx, kp, e1, e2, e3, e4, hP⟩ := hI.2.2.2.2.2.1
  obtain ⟨h1, h2, h3, h4, h5, h6, h7, h8, he⟩ := id hH
  have ex := x8_lozenge (g := g) (T := T) (A := A) (gm := gm) (Am := Am) h2 h3 e1 e2 e3 e4 p
  have em := fun g' T' A' => xm_lozenge (g := g') (T := T') (A := A') (gm := gm) (Am := Am) (cg_ok he h1) (by rw [← he.1 1 (by decide)]; exact h2) h3 (hm1.trans e3) e4 p
  by_cases hq : hm (T 0) p = 0
  · exact ⟨_, g, gm, T, A, Am, ex.1 hq, (em g T A).1 (by rw [← cg_hm he]; exact hq), hI⟩
  · obtain ⟨k, hk, hp⟩ := hm_of h2 h3 hq
    have hz := iH_n1 hH (by omega)
    have hX := (iH_N hH).resolve_left (by omega)
    obtain ⟨b, hb, eb⟩ := (h1.1 k hk).2.1
    obtain ⟨c, hc, ec⟩ := mn5 hb
    have e := (em (gk g nx kp) (tu T 0 (upd (T 0) (13 + k) (mn20 (T 0 (13 + k) + 5)))) (tu A 4 (ekn (A 4) (10 * nx) (T 0) 10))).2 k hk hp
    rw [← (he.2.2 k hk).2.1] at e
    refine ⟨_, gk g nx kp, _, _, _, _, ex.2 k hk hp, e, ?_⟩
    rw [eb, ec]
    refine inv_act hI hX h7 he e2 e4 hP hz (ox_br hX hk hc) h7 (fun j hj => up_ne (ac_br h3 hk hj)) (fun j a b => up_ne (by omega)) ?_
    rw [tv0_up]
    exact eqv_up (cgv h3 h5 he (kpr_eq e4))
set_option maxRecDepth 10000 in
theorem sim_cold (p v : Int32) : Sim 102 181 [.int p, .int v] := fun g gm T A Am hI => by
  obtain ⟨j0, n, mo, dy, hH, hm1, nx, kp, e1, e2, e3, e4, hP⟩ := hI.2.2.2.2.2.1
  obtain ⟨h1, h2, h3, h4, h5, h6, h7, h8, he⟩ := id hH
  have ex := x8_cold (g := g) (T := T) (A := A) (gm := gm) (Am := Am) h2 h3 e1 e2 e3 e4 p v
  have em := fun g' T' A' => xm_cold (g := g') (T := T') (A := A') (gm := gm) (Am := Am) (by rw [← he.1 1 (by decide)]; exact h2) h3 (hm1.trans e3) e4 p v
  by_cases hq : hm (T 0) p = 0 ∨ v < 0 ∨ ¬ v ≤ 20
  · exact ⟨_, g, gm, T, A, Am, ex.1 hq, (em g T A).1 (by rw [← cg_hm he]; exact hq), hI⟩
  · have q1 : ¬ v < 0 := fun q => hq (Or.inr (Or.inl q))
    have q2 : v ≤ 20 := Decidable.byContradiction (fun q => hq (Or.inr (Or.inr q)))
    obtain ⟨k, hk, hp⟩ := hm_of h2 h3 (fun q => hq (Or.inl q))
    have hz := iH_n1 hH (by omega)
    have hX := (iH_N hH).resolve_left (by omega)
    obtain ⟨c, hc, ec⟩ := le_of40 (m := 20) (by decide) q1 q2
    have e := (em (gk g nx kp) (tu T 0 (upd (T 0) (13 + k) v)) (tu A 4 (ekn (A 4) (10 * nx) (T 0) 10))).2 k hk hp q1 q2
    rw [← (he.2.2 k hk).2.1] at e
    refine ⟨_, gk g nx kp, _, _, _, _, ex.2 k hk hp q1 q2, e, ?_⟩
    rw [ec]
    refine inv_act hI hX h7 he e2 e4 hP hz (ox_br hX hk hc) h7 (fun j hj => up_ne (ac_br h3 hk hj)) (fun j a b => up_ne (by omega)) ?_
    rw [tv0_up]
    exact eqv_up (cgv h3 h5 he (kpr_eq e4))
set_option maxRecDepth 10000 in
theorem sim_needs (p v : Int32) : Sim 103 183 [.int p, .int v] := fun g gm T A Am hI => by
  obtain ⟨j0, n, mo, dy, hH, hm1, nx, kp, e1, e2, e3, e4, hP⟩ := hI.2.2.2.2.2.1
  obtain ⟨h1, h2, h3, h4, h5, h6, h7, h8, he⟩ := id hH
  have ex := x8_needs (g := g) (T := T) (A := A) (gm := gm) (Am := Am) h4 h5 e1 e2 e3 e4 p v
  have em := fun g' T' A' => xm_needs (g := g') (T := T') (A := A') (gm := gm) (Am := Am) (by rw [← he.1 0 (by decide)]; exact h4) h5 (hm1.trans e3) e4 p v
  by_cases hq : hmo (T 0) p = 0 ∨ v < 0 ∨ ¬ v ≤ 99
  · exact ⟨_, g, gm, T, A, Am, ex.1 hq, (em g T A).1 (by rw [← cg_hmo he]; exact hq), hI⟩
  · have q1 : ¬ v < 0 := fun q => hq (Or.inr (Or.inl q))
    have q2 : v ≤ 99 := Decidable.byContradiction (fun q => hq (Or.inr (Or.inr q)))
    obtain ⟨k, hk, hp⟩ := hmo_of h4 h5 (fun q => hq (Or.inl q))
    have hz := iH_n1 hH (by omega)
    have hX := (iH_X hH).resolve_left (by rw [hz]; decide)
    have e := (em (gk g nx kp) (tu T 0 (upd (T 0) (5 + k) v)) (tu A 4 (ekn (A 4) (10 * nx) (T 0) 10))).2 k hk hp q1 q2
    rw [← he.2.1 k hk] at e
    refine ⟨_, gk g nx kp, _, _, _, _, ex.2 k hk hp q1 q2, e, ?_⟩
    refine inv_act hI hX h7 he e2 e4 hP hz (ox_nd hX (by omega) v) h7 (fun j hj => up_ne (ac_nd h5 hk hj)) (fun j a b => up_ne (by omega)) ?_
    rw [tv0_up]
    exact eqv_up (cgv h3 h5 he (kpr_eq e4))
set_option maxRecDepth 10000 in
theorem tv_out {r t : Nat → Int32} {B C : Nat} (h : B + 21 ≤ C ∨ C + 21 ≤ B) : ∀ k, k < 21 → tv r C k = tv (rs r B t) C k := fun k hk => by
  unfold tv
  rw [rs_out (by omega)]
set_option maxRecDepth 10000 in
theorem sim_undo : Sim 104 166 [] := fun g gm T A Am hI => by
  obtain ⟨i1, i2, i3, i4, i5, i6, i7, i8⟩ := id hI
  obtain ⟨j0, n, mo, dy, hH, hm1, nx, kp, e1, e2, e3, e4, hP⟩ := i6
  obtain ⟨h1, h2, h3, h4, h5, h6, h7, h8, he⟩ := id hH
  have ex := x8_undo (g := g) (T := T) (A := A) (gm := gm) (Am := Am) e1 e2 e3 e4
  have em := fun g' T' A' => xm_undo (g := g') (T := T') (A := A') (gm := gm) (Am := Am) (hm1.trans e3) e4
  match kp, e3, e4, hP, ex, em with
  | 0, e3, e4, hP, ex, em => exact ⟨_, g, gm, T, A, Am, ev_up (by decide) (ex.1 rfl), ev_up (by decide) ((em g T A).1 rfl), hI⟩
  | k + 1, e3, e4, hP, ex, em =>
    obtain ⟨d', a1, a2, a3⟩ := hP k (by omega)
    have ep : pse (T 0) (A 4) nx (k + 1) k = un (T 0) (fun j => A 4 (10 * ((nx + 23) % 24) + j)) := by
      unfold pse
      rw [show (nx + (24 - (k + 1)) + k) % 24 = (nx + 23) % 24 by omega]
    rw [ep] at a2 a3
    have hz : g 11 = 1 := iH_n1 hH (by have := a2.2.2.2.2.1; omega)
    refine ⟨_, _, _, _, A, _, ev_up (by decide) (ex.2 k rfl), ev_up (by decide) ((em _ _ A).2 k rfl), i1, i2, i3, i4, i5, ?_, ?_, ?_⟩
    · show iHP (g 11) (gm 0) (nI k) (nI k) (nI ((nx + 23) % 24)) (un (T 0) (fun j => A 4 (10 * ((nx + 23) % 24) + j))) (A 4) (rs (Am 0) 0 (tv (Am 0) (21 + 21 * k)))
      rw [j0, hz]
      refine ⟨rfl, n, mo, d', iH_of a2 a1 (cgv h3 h5 a3 (fun i hi => (tv_rs hi).symm)), rfl, (nx + 23) % 24, k, rfl, Nat.mod_lt _ (by decide), rfl, by omega, ?_⟩
      exact pst_t (fun i hi => un_ac hi) (pst_lo h3 h5 (by omega) (fun i a b => rs_out (Or.inr (by omega))) (pst_undo e4 e2 hP))
    · exact iI_lo (tv_out (r := Am 0) (B := 0) (C := 525) (by decide)) i7
    · exact iI_lo (tv_out (r := Am 0) (B := 0) (C := 546) (by decide)) i8
/-! images: alike -/
set_option maxRecDepth 10000 in
theorem iHP_im {z m0 p m x : Int32} {t f r r' : Nat → Int32} (hl : ∀ k, k < 525 → r' k = r k) (h : iHP z m0 p m x t f r) : iHP z m0 p m x t f r' := by
  obtain ⟨h0, n, mo, dy, hH, hm, nx, kp, e1, e2, e3, e4, hP⟩ := h
  exact ⟨h0, n, mo, dy, iH_lo hH (fun k hk => (hl _ (by omega)).symm), hm, nx, kp, e1, e2, e3, e4, pst_lo hH.2.2.1 hH.2.2.2.2.1 e4 (fun k _ hk => hl k hk) hP⟩
set_option maxRecDepth 10000 in
theorem sim_image (k : Int32) : Sim 119 209 [.int k] := fun g gm T A Am hI => by
  obtain ⟨i1, i2, i3, i4, i5, i6, i7, i8⟩ := id hI
  obtain ⟨j0, n, mo, dy, hH, hP⟩ := id i6
  obtain ⟨h1, h2, h3, h4, h5, h6, h7, h8, he⟩ := id hH
  by_cases c : ie k = 0
  · exact ⟨_, g, gm, T, A, Am, x8_imageB c, xm_imageB c, hI⟩
  rcases ie_of c with rfl | rfl
  · by_cases cz : g 11 = 0
    · exact ⟨_, g, gm, T, A, Am, (x8_image0 (iH_z hH)).1 cz, (xm_image0).1 (j0.trans cz), hI⟩
    · have hz := iH_one hH cz
      refine ⟨_, _, gm, _, A, _, (x8_image0 (iH_z hH)).2 cz, (xm_image0).2 (by rw [j0]; exact cz), i1, i2, i3, i4, i5, iHP_im (fun j hj => rs_out (Or.inl hj)) i6, ?_, iI_lo (tv_out (r := Am 0) (B := 525) (C := 546) (by decide)) i8⟩
      show iI (g 11) (g 11) 1 (T 0) (tv (rs (Am 0) 525 (tv (Am 0) 0)) 525)
      rw [hz]
      exact ⟨rfl, Or.inr ⟨rfl, rfl, n, mo, dy, h7, (iH_X hH).resolve_left cz, cgv h3 h5 he (fun j hj => (tv_rs hj).symm)⟩⟩
  · by_cases cz : g 11 = 0
    · exact ⟨_, g, gm, T, A, Am, (x8_image1 (iH_z hH)).1 cz, (xm_image1).1 (j0.trans cz), hI⟩
    · have hz := iH_one hH cz
      refine ⟨_, _, gm, _, A, _, (x8_image1 (iH_z hH)).2 cz, (xm_image1).2 (by rw [j0]; exact cz), i1, i2, i3, i4, i5, iHP_im (fun j hj => rs_out (Or.inl (by omega))) i6, iI_lo (tv_out (r := Am 0) (B := 546) (C := 525) (by decide)) i7, ?_⟩
      show iI (g 11) (g 11) 1 (T 0) (tv (rs (Am 0) 546 (tv (Am 0) 0)) 546)
      rw [hz]
      exact ⟨rfl, Or.inr ⟨rfl, rfl, n, mo, dy, h7, (iH_X hH).resolve_left cz, cgv h3 h5 he (fun j hj => (tv_rs hj).symm)⟩⟩
set_option maxRecDepth 10000 in
theorem re_HP {r t f r' : Nat → Int32} {n mo dy : Nat} (hX : okX t n mo dy) (hd : dy ≤ 999) (he : Eqv n mo t r) (hr : ∀ k, k < 21 → r k = tv r' 0 k) : iHP 1 1 0 0 0 t f r' := ⟨rfl, n, mo, dy, iH_of hX hd (cgv hX.2.2.1 hX.2.2.2.2.2.1 he hr), rfl, 0, 0, rfl, by decide, rfl, by decide, fun _ hj => absurd hj (Nat.not_lt_zero _)⟩
set_option maxRecDepth 10000 in
theorem sim_restore (k : Int32) : Sim 120 210 [.int k] := fun g gm T A Am hI => by
  obtain ⟨i1, i2, i3, i4, i5, i6, i7, i8⟩ := id hI
  obtain ⟨j0, n, mo, dy, hH, hP⟩ := id i6
  by_cases c : ie k = 0
  · exact ⟨_, g, gm, T, A, Am, x8_restoreB c, xm_restoreB c, hI⟩
  rcases ie_of c with rfl | rfl
  · obtain ⟨y0, y1⟩ := id i7
    rcases y1 with q | ⟨q1, q2, n', mo', dy', q3, q4, q5⟩
    · exact ⟨_, g, gm, T, A, Am, (x8_restore0 (Or.inl q)).1 q, (xm_restore0).1 (y0.trans q), hI⟩
    · have nz : ¬ g 14 = 0 := by rw [q1]; decide
      refine ⟨_, _, _, _, A, _, (x8_restore0 (Or.inr q1)).2 nz, (xm_restore0).2 (by rw [y0]; exact nz), i1, i2, i3, i4, i5, ?_, ?_, ?_⟩
      · show iHP (g 14) (gm 0) 0 0 0 (T 3) (A 4) (rs (Am 0) 0 (tv (Am 0) 525))
        rw [j0, q1, q2]
        exact re_HP q4 q3 q5 (fun j hj => (tv_rs hj).symm)
      · show iI (g 14) (g 14) (Am 1 0) (T 3) (tv (rs (Am 0) 0 (tv (Am 0) 525)) 525)
        refine iI_lo (u := tv (Am 0) 525) (fun i hi => by unfold tv; exact (rs_out (Or.inr (by omega))).symm) ?_
        exact ⟨y0, Or.inr ⟨q1, q1, n', mo', dy', q3, q4, q5⟩⟩
      · show iI (g 14) (g 15) (Am 1 1) (T 4) (tv (rs (Am 0) 0 (tv (Am 0) 525)) 546)
        refine iI_lo (u := tv (Am 0) 546) (fun i hi => by unfold tv; exact (rs_out (Or.inr (by omega))).symm) ?_
        rw [q1, ← q2]
        exact i8
  · obtain ⟨y0, y1⟩ := id i8
    rcases y1 with q | ⟨q1, q2, n', mo', dy', q3, q4, q5⟩
    · exact ⟨_, g, gm, T, A, Am, (x8_restore1 (Or.inl q)).1 q, (xm_restore1).1 (y0.trans q), hI⟩
    · have nz : ¬ g 15 = 0 := by rw [q1]; decide
      refine ⟨_, _, _, _, A, _, (x8_restore1 (Or.inr q1)).2 nz, (xm_restore1).2 (by rw [y0]; exact nz), i1, i2, i3, i4, i5, ?_, ?_, ?_⟩
      · show iHP (g 15) (gm 0) 0 0 0 (T 4) (A 4) (rs (Am 0) 0 (tv (Am 0) 546))
        rw [j0, q1, q2]
        exact re_HP q4 q3 q5 (fun j hj => (tv_rs hj).symm)
      · show iI (g 15) (g 14) (Am 1 0) (T 3) (tv (rs (Am 0) 0 (tv (Am 0) 546)) 525)
        refine iI_lo (u := tv (Am 0) 525) (fun i hi => by unfold tv; exact (rs_out (Or.inr (by omega))).symm) ?_
        rw [q1, ← q2]
        exact i7
      · show iI (g 15) (g 15) (Am 1 1) (T 4) (tv (rs (Am 0) 0 (tv (Am 0) 546)) 546)
        refine iI_lo (u := tv (Am 0) 546) (fun i hi => by unfold tv; exact (rs_out (Or.inr (by omega))).symm) ?_
        exact ⟨y0, Or.inr ⟨q1, q1, n', mo', dy', q3, q4, q5⟩⟩
/-! a hill is read: alike -/
set_option maxRecDepth 10000 in
theorem sim_hill : Sim 98 162 [] := fun g gm T A Am hI => by
  obtain ⟨i1, i2, ⟨e0, e1, l, hl, e2⟩, i4, i5, i6, i7, i8⟩ := id hI
  by_cases he : (hB (A 3) l (T 2)).1 = 0
  · have ex := x8_hillS (g := g) (T := T) (A := A) (gm := gm) (Am := Am) e2 hl he
    have hX := hB_ok (f := A 3) (len := l) (x := T 2) he
    have em := fun g' T' A' => xm_hillS (g := g') (T := T') (A := A') (gm := gm) (Am := Am) (len := l) (y := T 2) (e0.trans e2) hl (by rw [e1]; exact he)
    rw [e1] at em
    generalize hM (A 3) l (T 2) = S2 at hX em
    generalize hB (A 3) l (T 2) = S at ex he hX em
    obtain ⟨w', x', r', hlo, hv, em'⟩ := em (upd (upd (upd (upd (upd (st (upd g 13 0) S.1 S.2.1) 13 1) 2 0) 11 1) 5 0) 6 0) (tu (tu T 2 S.2.2.2) 0 S.2.2.2) A
    rw [← hv.1 1 (by decide)] at em'
    have hlo2 : ∀ B, 21 ≤ B → B ≤ 546 → ∀ k, k < 21 → tv (Am 0) B k = tv (rs r' 0 (tv r' 567)) B k := fun B h1 h2 k hk => by
      unfold tv
      rw [rs_out (Or.inr (by omega)), hlo _ (by omega)]
    refine ⟨_, _, _, _, A, _, ex, em', i1, i2, ⟨rfl, e1, 0, by decide, rfl⟩, i4, i5, ?_, ?_, ?_⟩
    · exact re_HP hX (by decide) hv (fun j hj => (tv_rs hj).symm)
    · refine iI_lo (hlo2 525 (by decide) (by decide)) ?_
      obtain ⟨y0, y1⟩ := i7
      refine ⟨y0, y1.imp_right (fun q => ⟨q.1, rfl, q.2.2⟩)⟩
    · refine iI_lo (hlo2 546 (by decide) (by decide)) ?_
      obtain ⟨y0, y1⟩ := i8
      refine ⟨y0, y1.imp_right (fun q => ⟨q.1, rfl, q.2.2⟩)⟩
  · have ex := x8_hillF (g := g) (T := T) (A := A) (gm := gm) (Am := Am) e2 hl he
    have em := fun g' T' A' => xm_hillF (g := g') (T := T') (A := A') (gm := gm) (Am := Am) (len := l) (y := T 2) (e0.trans e2) hl (by rw [e1]; exact he)
    rw [e1] at em
    generalize hB (A 3) l (T 2) = S at ex he em
    obtain ⟨x', r', hlo, em'⟩ := em (upd (upd (upd (st (upd g 13 0) S.1 S.2.1) 13 0) 2 0) 0 (nI S.1)) (tu T 2 S.2.2.2) A
    exact ⟨_, _, _, _, A, _, ex, em', rfl, i2, ⟨rfl, e1, 0, by decide, rfl⟩, i4, i5, iHP_lo hlo i6, iI_lo (lo_tv hlo (by decide)) i7, iI_lo (lo_tv hlo (by decide)) i8⟩

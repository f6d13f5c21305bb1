/-! what both answer of hills that agree -/
section
variable {n mo dy : Nat} {t t' : Nat → Int32}
set_option maxRecDepth 10000 in
theorem cg_at5 (h : Eqv n mo t t') (hm0 : t 0 = nI mo) (hm4 : mo ≤ 4) (p : Int32) : sAt t 5 (hmo t p) p = sAt t' 5 (hmo t' p) p := by
  unfold sAt
  rw [← cg_hmo h p]
  by_cases c : hmo t p = 0
  · rw [if_pos c, if_pos c]
  · rw [if_neg c, if_neg c]
    obtain ⟨k, hk, rfl⟩ := hmo_of hm0 hm4 c
    rw [nI_clamp (by omega)]
    exact h.2.1 k hk
set_option maxRecDepth 10000 in
theorem cg_at9 (h : Eqv n mo t t') (hn : t 1 = nI n) (hn4 : n ≤ 4) (p : Int32) : sAt t 9 (hm t p) p = sAt t' 9 (hm t' p) p := by
  unfold sAt
  rw [← cg_hm h p]
  by_cases c : hm t p = 0
  · rw [if_pos c, if_pos c]
  · rw [if_neg c, if_neg c]
    obtain ⟨k, hk, rfl⟩ := hm_of hn hn4 c
    rw [nI_clamp (by omega)]
    exact (h.2.2 k hk).1
set_option maxRecDepth 10000 in
theorem cg_member (h : Eqv n mo t t') (hn : t 1 = nI n) (hn4 : n ≤ 4) (p w : Int32) : sMember t n p w = sMember t' n p w := by
  unfold sMember
  rw [← cg_hm h p]
  by_cases c : hm t p = 0
  · rw [if_pos c, if_pos c]
  · rw [if_neg c, if_neg c]
    obtain ⟨k, hk, rfl⟩ := hm_of hn hn4 c
    rw [nI_clamp (by omega)]
    unfold sMem
    rw [← cg_ta h n (Nat.le_refl _), ← cg_tw h hk, ← cg_tc h hk, ← (h.2.2 k hk).2.1, ← (h.2.2 k hk).2.2]
set_option maxRecDepth 10000 in
theorem cg_weight (h : Eqv n mo t t') (z s : Int32) : sWeight z t n s = sWeight z t' n s := by
  unfold sWeight
  rw [cg_hst h s, cg_ta h n (Nat.le_refl _), cg_ts h n (Nat.le_refl _)]
set_option maxRecDepth 10000 in
theorem cg_count (h : Eqv n mo t t') (w : Int32) (f : Nat → Int32) (u l : Int32) : sCount w f t n u l = sCount w f t' n u l := by
  unfold sCount
  rw [h.1 0 (by decide), h.1 1 (by decide), h.1 2 (by decide), h.1 3 (by decide), h.1 4 (by decide), cg_ta h n (Nat.le_refl _)]
set_option maxRecDepth 10000 in
theorem cg_as (h : Eqv n mo t t') (hn : t 1 = nI n) (hn4 : n ≤ 4) (p k s : Int32) : sAs (hm t p) p k (t (9 + p.toNatClampNeg)) s = sAs (hm t' p) p k (t' (9 + p.toNatClampNeg)) s := by
  rw [← cg_hm h p]
  by_cases c : hm t p = 0
  · unfold sAs
    rw [if_pos c, if_pos c]
  · obtain ⟨j, hj, rfl⟩ := hm_of hn hn4 c
    rw [nI_clamp (by omega), (h.2.2 j hj).1]
set_option maxRecDepth 10000 in
theorem cg_speak (h : Eqv n mo t t') (z s : Int32) : sSpeak z t n s = sSpeak z t' n s := by
  unfold sSpeak
  rw [cg_hst h s, cg_ta h n (Nat.le_refl _), h.1 3 (by decide)]
set_option maxRecDepth 10000 in
theorem cg_size (h : Eqv n mo t t') {p : Nat} (hp : p < n) : sSize t p = sSize t' p ∧ sSizeT t p = sSizeT t' p ∧ sMark t p = sMark t' p ∧ sMarkT t p = sMarkT t' p := by
  unfold sSize sSizeT sMark sMarkT
  rw [(h.2.2 p hp).1, (h.2.2 p hp).2.1, (h.2.2 p hp).2.2]
  exact ⟨rfl, rfl, rfl, rfl⟩
set_option maxRecDepth 10000 in
theorem sz_len {p : Nat} : (sSizeT t p).length ≤ 16 := by
  unfold sSizeT
  split
  · decide
  split
  · decide
  split
  · decide
  split
  · decide
  · decide
set_option maxRecDepth 10000 in
theorem mk_len {p : Nat} : (sMarkT t p).length ≤ 16 := by
  unfold sMarkT
  split
  · decide
  split
  · decide
  split
  · decide
  split
  · decide
  · decide
set_option maxRecDepth 10000 in
theorem eqv_up {j : Nat} {v : Int32} (h : Eqv n mo t t') : Eqv n mo (upd t j v) (upd t' j v) := ⟨fun k hk => up2 (h.1 k hk), fun m hm => up2 (h.2.1 m hm), fun p hp => ⟨up2 (h.2.2 p hp).1, up2 (h.2.2 p hp).2.1, up2 (h.2.2 p hp).2.2⟩⟩
set_option maxRecDepth 10000 in
theorem ox_nd (h : okX t n mo dy) {k : Nat} (hk : k < 4) (v : Int32) : okX (upd t (5 + k) v) n mo dy := by
  obtain ⟨h1, h2, h3, h4, h5, h6, h7, h8⟩ := h
  refine ⟨⟨fun p hp => ?_, ?_⟩, ?_, h3, ?_, h5, h6, ?_, h8⟩
  · rw [up_ne (by omega), up_ne (by omega), up_ne (by omega)]
    exact h1.1 p hp
  · rw [up_ne (by omega)]
    exact h1.2
  · rw [up_ne (by omega)]
    exact h2
  · rw [up_ne (by omega)]
    exact h4
  · rw [up_ne (by omega)]
    exact h7
set_option maxRecDepth 10000 in
theorem mn5 {b : Nat} (hb : b ≤ 20) : ∃ c : Nat, c ≤ 20 ∧ mn20 (nI b + 5) = nI c := by
  unfold mn20
  rw [show nI b + 5 = nI (b + 5) from nI_add b 5]
  by_cases q : b + 5 < 20
  · rw [if_pos (show nI (b + 5) < 20 from nI_lt (b := 20) q (by decide))]
    exact ⟨b + 5, by omega, rfl⟩
  · rw [if_neg (show ¬ nI (b + 5) < 20 from nI_nlt (b := 20) (by omega) (by omega))]
    exact ⟨20, by omega, rfl⟩
set_option maxRecDepth 10000 in
theorem feed_ok {x : Int32} {l : Nat} {f : Nat → Int32} {v s : Int32} {f' : Nat → Int32} (hl : l ≤ 100) (hq : sFeed x (nI l) f = (v, s, f')) : ∃ k : Nat, k ≤ 100 ∧ s = nI k := by
  unfold sFeed at hq
  by_cases c1 : x < 0
  · rw [if_pos c1] at hq
    cases hq
    exact ⟨l, hl, rfl⟩
  rw [if_neg c1] at hq
  by_cases c2 : x ≤ 255
  · rw [if_pos c2] at hq
    by_cases c3 : nI l < 100
    · rw [if_pos c3] at hq
      cases hq
      exact ⟨l + 1, (nI_ltI (b := 100) (by omega) (by decide)).mp c3, nI_1 l⟩
    · rw [if_neg c3] at hq
      cases hq
      exact ⟨l, hl, rfl⟩
  · rw [if_neg c2] at hq
    cases hq
    exact ⟨l, hl, rfl⟩
set_option maxRecDepth 10000 in
theorem okR_row {r l m s : Int32} {a0 a1 a2 : Nat → Int32} {v s' : Int32} {b0 b1 b2 : Nat → Int32} (hok : okR a0 a1) (hq : sRow r l m s a0 a1 a2 = (v, s', b0, b1, b2)) : okR b0 b1 := by
  unfold sRow at hq
  by_cases c0 : ir r = 0
  · rw [if_pos c0] at hq
    cases hq
    exact hok
  rw [if_neg c0] at hq
  by_cases c1 : l < 0
  · rw [if_pos c1] at hq
    cases hq
    exact hok
  rw [if_neg c1] at hq
  by_cases c2 : 2 < l
  · rw [if_pos c2] at hq
    cases hq
    exact hok
  rw [if_neg c2] at hq
  by_cases c3 : m ≤ 40
  · rw [if_pos c3] at hq
    by_cases c4 : 0 ≤ m
    · rw [if_pos c4] at hq
      obtain ⟨i, hi, rfl⟩ := ir_of c0
      obtain ⟨c, hc, rfl⟩ := le_of40 (m := 40) (by decide) (Int32.not_lt.mpr c4) c3
      obtain ⟨d, hd, rfl⟩ := le_of40 (m := 2) (by decide) c1 (Int32.not_lt.mp c2)
      rw [nI_clamp (by omega)] at hq
      cases hq
      intro k hk
      by_cases q : k = i
      · subst q
        rw [up_eq, up_eq]
        refine ⟨Or.inr ⟨c, hc, rfl⟩, ?_⟩
        match d, hd with
        | 0, _ => exact Or.inl rfl
        | 1, _ => exact Or.inr (Or.inl rfl)
        | 2, _ => exact Or.inr (Or.inr rfl)
        | d + 3, hd => exact absurd hd (by omega)
      · rw [up_ne q, up_ne q]
        exact hok k hk
    · rw [if_neg c4] at hq
      cases hq
      exact hok
  · rw [if_neg c3] at hq
    cases hq
    exact hok
set_option maxRecDepth 10000 in
theorem okR_drop {r s : Int32} {a0 a1 : Nat → Int32} {v s' : Int32} {b1 : Nat → Int32} (hok : okR a0 a1) (hq : sDrop r s a1 = (v, s', b1)) : okR a0 b1 := by
  unfold sDrop at hq
  by_cases c0 : ir r = 0
  · rw [if_pos c0] at hq
    cases hq
    exact hok
  rw [if_neg c0] at hq
  by_cases c1 : a1 r.toNatClampNeg = -1
  · rw [if_pos c1] at hq
    cases hq
    exact hok
  rw [if_neg c1] at hq
  obtain ⟨i, hi, rfl⟩ := ir_of c0
  rw [nI_clamp (by omega)] at hq
  cases hq
  intro k hk
  by_cases q : k = i
  · subst q
    rw [up_eq]
    exact ⟨Or.inl rfl, (hok k hk).2⟩
  · rw [up_ne q]
    exact hok k hk
end
/-! rows, the tape, what is asked -/
set_option maxRecDepth 10000 in
theorem sim_row (r l n : Int32) : Sim 93 144 [.int r, .int l, .int n] := fun g gm T A Am hI => by
  obtain ⟨i1, i2, i3, ⟨e0, e1, e2, i4⟩, i5, i6, i7, i8⟩ := hI
  obtain ⟨⟨v, s, a0, a1, a2⟩, hq⟩ : ∃ q, sRow r l n (g 1) (A 0) (A 1) (A 2) = q := ⟨_, rfl⟩
  exact ⟨v, upd g 1 s, upd gm 4 s, T, tu (tu (tu A 0 a0) 1 a1) 2 a2, tu (tu (tu Am 2 a0) 3 a1) 4 a2, ev_up (by decide) (x8_row r l n hq), ev_up (by decide) (xm_row r l n (by rw [i2, e0, e1, e2]; exact hq)), i1, rfl, i3, ⟨rfl, rfl, rfl, okR_row i4 hq⟩, i5, i6, i7, i8⟩
set_option maxRecDepth 10000 in
theorem sim_set (r i x : Int32) : Sim 94 146 [.int r, .int i, .int x] := fun g gm T A Am hI => by
  obtain ⟨i1, i2, i3, ⟨e0, e1, e2, i4⟩, i5, i6, i7, i8⟩ := hI
  obtain ⟨⟨v, s, a2⟩, hq⟩ : ∃ q, sSet r i x (g 1) (A 0) (A 1) (A 2) = q := ⟨_, rfl⟩
  exact ⟨v, upd g 1 s, upd gm 4 s, T, tu A 2 a2, tu Am 4 a2, ev_up (by decide) (x8_set r i x i4 hq), ev_up (by decide) (xm_set r i x (by rw [e0, e1]; exact i4) (by rw [i2, e0, e1, e2]; exact hq)), i1, rfl, i3, ⟨e0, e1, rfl, i4⟩, i5, i6, i7, i8⟩
set_option maxRecDepth 10000 in
theorem sim_copy (a i b j n : Int32) : Sim 95 148 [.int a, .int i, .int b, .int j, .int n] := fun g gm T A Am hI => by
  obtain ⟨i1, i2, i3, ⟨e0, e1, e2, i4⟩, i5, i6, i7, i8⟩ := hI
  obtain ⟨⟨v, s, a2⟩, hq⟩ : ∃ q, sCopy a i b j n (g 1) (A 0) (A 1) (A 2) = q := ⟨_, rfl⟩
  exact ⟨v, upd g 1 s, upd gm 4 s, T, tu A 2 a2, tu Am 4 a2, ev_up (by decide) (x8_copy a i b j n i4 hq), ev_up (by decide) (xm_copy a i b j n (by rw [e0, e1]; exact i4) (by rw [i2, e0, e1, e2]; exact hq)), i1, rfl, i3, ⟨e0, e1, rfl, i4⟩, i5, i6, i7, i8⟩
set_option maxRecDepth 10000 in
theorem sim_drop (r : Int32) : Sim 96 149 [.int r] := fun g gm T A Am hI => by
  obtain ⟨i1, i2, i3, ⟨e0, e1, e2, i4⟩, i5, i6, i7, i8⟩ := hI
  obtain ⟨⟨v, s, a1⟩, hq⟩ : ∃ q, sDrop r (g 1) (A 1) = q := ⟨_, rfl⟩
  exact ⟨v, upd g 1 s, upd gm 4 s, T, tu A 1 a1, tu Am 3 a1, ev_up (by decide) (x8_drop r hq), ev_up (by decide) (xm_drop r (by rw [e0, e1]; exact i4) (by rw [i2, e1]; exact hq)), i1, rfl, i3, ⟨e0, rfl, e2, okR_drop i4 hq⟩, i5, i6, i7, i8⟩
set_option maxRecDepth 10000 in
theorem sim_feed (x : Int32) : Sim 97 150 [.int x] := fun g gm T A Am hI => by
  obtain ⟨i1, i2, ⟨e0, e1, l, hl, e2⟩, i4, i5, i6, i7, i8⟩ := hI
  obtain ⟨⟨v, s, f⟩, hq⟩ : ∃ q, sFeed x (g 2) (A 3) = q := ⟨_, rfl⟩
  have hs : ∃ k : Nat, k ≤ 100 ∧ s = nI k := feed_ok hl (by rw [← e2]; exact hq)
  exact ⟨v, upd g 2 s, upd gm 2 s, T, tu A 3 f, tu Am 5 f, ev_up (by decide) (x8_feed e2 hl x hq), ev_up (by decide) (xm_feed (e0.trans e2) hl x (by rw [e0, e1]; exact hq)), i1, i2, ⟨rfl, rfl, hs⟩, i4, i5, i6, i7, i8⟩
set_option maxRecDepth 10000 in
theorem sim_fault : Sim 99 163 [] := fun g gm T A Am hI => ⟨g 0, g, gm, T, A, Am, x8_fault, by rw [← hI.1]; exact xm_fault, hI⟩
set_option maxRecDepth 10000 in
theorem sim_status : Sim 126 226 [] := fun g gm T A Am hI => ⟨g 1, g, gm, T, A, Am, x8_status, by rw [← hI.2.1]; exact xm_status, hI⟩
set_option maxRecDepth 10000 in
theorem sim_motion (p : Int32) : Sim 106 185 [.int p] := fun g gm T A Am hI => by
  obtain ⟨j0, n, mo, dy, ⟨h1, h2, h3, h4, h5, h6, h7, h8, he⟩, hP⟩ := hI.2.2.2.2.2.1
  exact ⟨_, g, gm, T, A, Am, x8_motion h4 h5 p, by rw [cg_at5 he h4 h5]; exact xm_motion (by rw [← he.1 0 (by decide)]; exact h4) h5 p, hI⟩
set_option maxRecDepth 10000 in
theorem sim_kind (p : Int32) : Sim 121 211 [.int p] := fun g gm T A Am hI => by
  obtain ⟨j0, n, mo, dy, ⟨h1, h2, h3, h4, h5, h6, h7, h8, he⟩, hP⟩ := hI.2.2.2.2.2.1
  exact ⟨_, g, gm, T, A, Am, x8_kind h2 h3 p, by rw [cg_at9 he h2 h3]; exact xm_kind (by rw [← he.1 1 (by decide)]; exact h2) h3 p, hI⟩
set_option maxRecDepth 10000 in
theorem sim_member (p w : Int32) : Sim 105 184 [.int p, .int w] := fun g gm T A Am hI => by
  obtain ⟨j0, n, mo, dy, ⟨h1, h2, h3, h4, h5, h6, h7, h8, he⟩, hP⟩ := hI.2.2.2.2.2.1
  exact ⟨_, g, gm, T, A, Am, x8_member h2 h3 p w, by rw [cg_member he h2 h3]; exact xm_member (cg_ok he h1) (by rw [← he.1 1 (by decide)]; exact h2) h3 p w, hI⟩
set_option maxRecDepth 10000 in
theorem sim_weight (s : Int32) : Sim 107 186 [.int s] := fun g gm T A Am hI => by
  obtain ⟨j0, n, mo, dy, ⟨h1, h2, h3, h4, h5, h6, h7, h8, he⟩, hP⟩ := hI.2.2.2.2.2.1
  exact ⟨_, g, gm, T, A, Am, x8_weight h2 h3 s, by rw [cg_weight he, ← j0]; exact xm_weight (cg_ok he h1) (by rw [← he.1 1 (by decide)]; exact h2) h3 s, hI⟩
set_option maxRecDepth 10000 in
theorem sim_as (p k : Int32) : Sim 122 213 [.int p, .int k] := fun g gm T A Am hI => by
  obtain ⟨i1, i2, i3, i4, i5, i6, i7, i8⟩ := hI
  obtain ⟨j0, n, mo, dy, ⟨h1, h2, h3, h4, h5, h6, h7, h8, he⟩, hP⟩ := id i6
  obtain ⟨⟨v, s⟩, hq⟩ : ∃ q, sAs (hm (T 0) p) p k (T 0 (9 + p.toNatClampNeg)) (g 1) = q := ⟨_, rfl⟩
  exact ⟨v, upd g 1 s, upd gm 4 s, T, A, Am, x8_as h2 h3 p k hq, xm_as (by rw [← he.1 1 (by decide)]; exact h2) h3 p k (by rw [i2, ← cg_as he h2 h3]; exact hq), i1, rfl, i3, i4, i5, i6, i7, i8⟩
set_option maxRecDepth 10000 in
theorem sim_count (w : Int32) : Sim 125 225 [.int w] := fun g gm T A Am hI => by
  obtain ⟨i1, i2, i3, i4, i5, i6, i7, i8⟩ := id hI
  obtain ⟨j0, n, mo, dy, ⟨h1, h2, h3, h4, h5, h6, h7, h8, he⟩, hP⟩ := id i6
  exact ⟨_, g, gm, T, A, Am, x8_count h2 h3 w, by rw [cg_count he, ← hP.1, ← i3.1, ← i4.2.1]; exact xm_count (by rw [i4.1, i4.2.1]; exact i4.2.2.2) (cg_ok he h1) (by rw [← he.1 1 (by decide)]; exact h2) h3 w, hI⟩
set_option maxRecDepth 10000 in
theorem sim_trace (i : Int32) : Sim 124 224 [.int i] := fun g gm T A Am hI => by
  obtain ⟨e0, e1, c, hc, e2⟩ := hI.2.2.2.2.1
  exact ⟨_, g, gm, T, A, Am, x8_trace e2 hc i, by rw [← e0, ← e1]; exact xm_trace (e0.trans e2) hc i, hI⟩
set_option maxRecDepth 10000 in
theorem sim_ask (q w : Int32) : Sim 123 223 [.int q, .int w] := fun g gm T A Am hI => by
  obtain ⟨i1, i2, i3, i4, ⟨e0, e1, e2⟩, i6, i7, i8⟩ := id hI
  obtain ⟨j0, n, mo, dy, ⟨h1, h2, h3, h4, h5, h6, h7, h8, he⟩, hP⟩ := id i6
  have hn' : tv (Am 0) 0 1 = nI n := by rw [← he.1 1 (by decide)]; exact h2
  have ex := x8_ask (g := g) (T := T) (A := A) (gm := gm) (Am := Am) h2 h3 (fun p hp => (h1.1 p hp).1) q w
  have em := fun g' T' A' => xm_ask (g := g') (T := T') (A := A') (gm := gm) (Am := Am) hn' h3 (fun p hp => ((cg_ok he h1).1 p hp).1) q w
  by_cases c : hm (T 0) q = 0 ∨ ie w = 0
  · exact ⟨_, g, gm, T, A, Am, ex.1 c, (em g T A).1 (by rw [← cg_hm he]; exact c), hI⟩
  · obtain ⟨p, hp, hqp⟩ := hm_of h2 h3 (fun z => c (Or.inl z))
    obtain ⟨z1, z2, z3, z4⟩ := cg_size he hp
    rcases ie_of (fun z => c (Or.inr z)) with hw | hw
    · refine ⟨sSize (T 0) p, upd (upd g 10 (nI p)) 9 (nI (sSizeT (T 0) p).length), upd gm 5 (nI (sSizeT (T 0) p).length), T, tu A 9 (tr (A 9) 0 (sSizeT (T 0) p)), tu Am 6 (tr (A 9) 0 (sSizeT (T 0) p)), (ex.2 p hp hqp).1 hw, ?_, i1, i2, i3, i4, ⟨rfl, rfl, _, sz_len, rfl⟩, i6, i7, i8⟩
      have e := ((em (upd (upd g 10 (nI p)) 9 (nI (sSizeT (T 0) p).length)) T (tu A 9 (tr (A 9) 0 (sSizeT (T 0) p)))).2 p hp hqp).1 hw
      rw [← z1, ← z2, e1] at e
      exact e
    · refine ⟨sMark (T 0) p, upd (upd g 10 (nI p)) 9 (nI (sMarkT (T 0) p).length), upd gm 5 (nI (sMarkT (T 0) p).length), T, tu A 9 (tr (A 9) 0 (sMarkT (T 0) p)), tu Am 6 (tr (A 9) 0 (sMarkT (T 0) p)), (ex.2 p hp hqp).2 hw, ?_, i1, i2, i3, i4, ⟨rfl, rfl, _, mk_len, rfl⟩, i6, i7, i8⟩
      have e := ((em (upd (upd g 10 (nI p)) 9 (nI (sMarkT (T 0) p).length)) T (tu A 9 (tr (A 9) 0 (sMarkT (T 0) p)))).2 p hp hqp).2 hw
      rw [← z3, ← z4, e1] at e
      exact e

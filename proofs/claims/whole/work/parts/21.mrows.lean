/-! the reference's rows and tape -/
set_option maxRecDepth 10000 in
theorem wid_lt (a b : Int32) : a.toInt64 < b.toInt64 ↔ a < b := by rw [Int64.lt_iff_toInt_lt, Int32.lt_iff_toInt_lt, Int32.toInt_toInt64, Int32.toInt_toInt64]
set_option maxRecDepth 10000 in
theorem inn_b {x a b : Int32} {P Q : Int64} (hP : P = a.toInt64) (hQ : Q = b.toInt64) : inn x.toInt64 P Q = btw x a b := by
  subst hP
  subst hQ
  unfold inn btw
  by_cases h1 : x < a
  · rw [if_pos ((lg_cmp_lt _ _).mpr ((wid_lt _ _).mpr h1)), if_pos h1]
  · rw [if_neg (fun q => h1 ((wid_lt _ _).mp ((lg_cmp_lt _ _).mp q))), if_neg h1]
    by_cases h2 : b < x
    · rw [if_pos ((lg_cmp_gt _ _).mpr ((wid_lt _ _).mpr h2)), if_pos h2]
    · rw [if_neg (fun q => h2 ((wid_lt _ _).mp ((lg_cmp_gt _ _).mp q))), if_neg h2]
set_option maxRecDepth 10000 in
theorem btw_01 (x a b : Int32) : btw x a b = 0 ∨ btw x a b = 1 := by
  unfold btw
  split
  · exact Or.inl rfl
  · split
    · exact Or.inl rfl
    · exact Or.inr rfl
set_option maxRecDepth 10000 in
theorem btw_n {x : Int32} {n : Nat} (hn : n < 1000) : btw x 0 (nI n - 1) = if x < 0 then 0 else if nI n ≤ x then 0 else 1 := by
  unfold btw
  have e : (nI n - 1).toInt = (n : Int) - 1 := pk_sub_toInt (a := n) (b := 1) (by omega) (by decide)
  have e2 : (nI n).toInt = n := nI_toInt (by omega)
  by_cases h1 : x < 0
  · rw [if_pos h1, if_pos h1]
  · rw [if_neg h1, if_neg h1]
    by_cases h2 : nI n ≤ x
    · rw [if_pos h2, if_pos (by rw [Int32.lt_iff_toInt_lt, e]; rw [Int32.le_iff_toInt_le, e2] at h2; omega)]
    · rw [if_neg h2, if_neg (by rw [Int32.lt_iff_toInt_lt, e]; rw [Int32.le_iff_toInt_le, e2] at h2; omega)]
set_option maxRecDepth 10000 in
theorem ir_btw (x : Int32) : btw x 0 7 = ir x := by
  have := btw_n (x := x) (n := 8) (by decide)
  exact this
set_option maxRecDepth 10000 in
theorem hp1 {l : Nat} (hl : l ≤ 40) (i : Int32) : btw i 0 (nI l - 1) = hp (nI l) i 1 := by
  rw [btw_n (by omega)]
  unfold hp
  by_cases h1 : i < 0
  · rw [if_pos h1, if_pos h1]
  rw [if_neg h1, if_neg h1, if_neg (show ¬ (1 : Int32) < 0 by decide)]
  obtain ⟨a, ha, rfl⟩ := nI_of h1
  by_cases h2 : l < a
  · rw [if_pos (nI_le (by omega) ha), if_pos (nI_lt h2 ha)]
  · rw [if_neg (show ¬ nI l < nI a from nI_nlt (by omega) (by omega)), pk_sub (show a ≤ l by omega)]
    by_cases h3 : l = a
    · subst h3
      rw [if_pos (Int32.le_refl _), Nat.sub_self, if_pos (by decide)]
    · rw [if_neg (nI_ge (show a < l by omega) (by omega)), if_neg (show ¬ nI (l - a) < (1 : Int32) from (show ¬ nI (l - a) < nI 1 from nI_nlt (by omega) (by omega)))]
def msp (len i n : Int32) : Int32 := if i < 0 then 0 else if n < 0 then 0 else if 0 < lg_cmp (i.toInt64 + n.toInt64) len.toInt64 then 0 else 1
set_option maxRecDepth 10000 in
theorem msp_hp {l : Nat} (hl : l ≤ 40) (i n : Int32) : msp (nI l) i n = hp (nI l) i n := by
  unfold msp hp
  by_cases h1 : i < 0
  · rw [if_pos h1, if_pos h1]
  rw [if_neg h1, if_neg h1]
  by_cases h2 : n < 0
  · rw [if_pos h2, if_pos h2]
  rw [if_neg h2, if_neg h2]
  obtain ⟨a, ha, rfl⟩ := nI_of h1
  obtain ⟨c, hc, rfl⟩ := nI_of h2
  have e : (0 < lg_cmp ((nI a).toInt64 + (nI c).toInt64) (nI l).toInt64) ↔ l < a + c := by
    rw [lg_cmp_gt, nI_l ha, nI_l hc, nI_l (by omega), lN_add, pk_lLT (by omega) (by omega)]
  by_cases h3 : l < a
  · rw [if_pos (nI_lt h3 ha), if_pos (e.mpr (by omega))]
  · rw [if_neg (show ¬ nI l < nI a from nI_nlt (by omega) (by omega)), pk_sub (show a ≤ l by omega)]
    by_cases h4 : l < a + c
    · rw [if_pos (e.mpr h4), if_pos (nI_lt (by omega) hc)]
    · rw [if_neg (fun q => h4 (e.mp q)), if_neg (nI_nlt (by omega) (by omega))]
def cpb (f : Nat → Int32) (s d n k : Nat) : Nat → Int32 := fun x => if d + (n - k) ≤ x ∧ x < d + n then f (s + (x - d)) else f x
section
variable {g gm : Nat → Int32} {T A Am : Nat → Nat → Int32} {h : am_H}
set_option maxRecDepth 10000 in
theorem xm_find (k : Int32) : am_ev 1 141 [.ref 43, .int k] (wd g T A gm Am) (some (.int (-1000010 - k))) (wd g T A (upd gm 4 k) Am) := by
  refine rn_ev am_m_X9_find rfl rfl ?_
  refine rn_to 5 80 (by with_unfolding_all rfl) ?_
  refine rn_hp (by with_unfolding_all exact (wN_4)) ?_
  refine rn_go 80 (by with_unfolding_all rfl) ?_
  exact rn_rt (by with_unfolding_all rfl) trivial rfl rfl
set_option maxRecDepth 10000 in
theorem xm_well (k : Int32) : am_ev 1 142 [.ref 43, .int k] (wd g T A gm Am) (some (.int k)) (wd g T A (upd gm 4 0) Am) := by
  refine rn_ev am_m_X9_well rfl rfl ?_
  refine rn_to 5 80 (by with_unfolding_all rfl) ?_
  refine rn_hp (by with_unfolding_all exact (wN_4)) ?_
  refine rn_go 80 (by with_unfolding_all rfl) ?_
  exact rn_rt (by with_unfolding_all rfl) trivial rfl rfl
set_option maxRecDepth 10000 in
theorem xm_isRow (x : Int32) : am_ev 2 143 [.int x] h (some (.int (ir x))) h := by
  refine rn_ev am_m_X9_isRow rfl rfl ?_
  refine rn_go 80 (by with_unfolding_all rfl) ?_
  refine rn_cl (by with_unfolding_all rfl) (ev_up (by decide) (xm_in _ _ _)) ?_
  rw [inn_b (a := 0) (b := 7) (P := 0) (Q := 7) (by decide) (by decide)]
  refine rn_go 80 (by with_unfolding_all rfl) ?_
  exact rn_rt (by with_unfolding_all rfl) (btw_01 x 0 7) (by rw [ir_btw]) (rfl)
set_option maxRecDepth 10000 in
theorem xm_narrow (v l : Int32) : am_ev 1 145 [.int v, .int l] h (some (.int (nar l v))) h := by
  refine rn_ev am_m_X9_narrow rfl rfl ?_
  refine rn_go 80 (by with_unfolding_all rfl) ?_
  unfold nar
  refine rn_br (by with_unfolding_all rfl) (fun c => ?_) (fun c => ?_)
  · rw [if_pos c]
    refine rn_go 80 (by with_unfolding_all rfl) ?_
    exact rn_rt (by with_unfolding_all rfl) trivial rfl rfl
  rw [if_neg c]
  refine rn_go 80 (by with_unfolding_all rfl) ?_
  refine rn_br (by with_unfolding_all rfl) (fun c2 => ?_) (fun c2 => ?_)
  · rw [if_pos c2]
    refine rn_go 80 (by with_unfolding_all rfl) ?_
    exact rn_rt (by with_unfolding_all rfl) trivial rfl rfl
  rw [if_neg c2]
  refine rn_go 80 (by with_unfolding_all rfl) ?_
  exact rn_rt (by with_unfolding_all rfl) trivial rfl rfl
set_option maxRecDepth 10000 in
theorem xm_isSpan {k : Nat} (hk : k < 8) (i n : Int32) : am_ev 1 147 [.ref 43, .int (nI k), .int i, .int n] (wd g T A gm Am) (some (.int (msp (Am 3 k) i n))) (wd g T A gm Am) := by
  refine rn_ev am_m_X9_isSpan rfl rfl ?_
  refine rn_go 80 (by with_unfolding_all rfl) ?_
  unfold msp
  refine rn_br (by with_unfolding_all rfl) (fun c => ?_) (fun c => ?_)
  · rw [if_pos c]
    refine rn_go 80 (by with_unfolding_all rfl) ?_
    exact rn_rt (by with_unfolding_all rfl) (Or.inl rfl) (rfl) (rfl)
  rw [if_neg c]
  refine rn_go 80 (by with_unfolding_all rfl) ?_
  refine rn_br (by with_unfolding_all rfl) (fun c2 => ?_) (fun c2 => ?_)
  · rw [if_pos c2]
    refine rn_go 80 (by with_unfolding_all rfl) ?_
    exact rn_rt (by with_unfolding_all rfl) (Or.inl rfl) (rfl) (rfl)
  rw [if_neg c2]
  refine rn_go 80 (by with_unfolding_all rfl) ?_
  refine rn_ld (k) (by with_unfolding_all rfl) rfl hk (by decide) ?_
  refine rn_go 80 (by with_unfolding_all rfl) ?_
  refine rn_br (by with_unfolding_all rfl) (fun c3 => ?_) (fun c3 => ?_)
  · rw [if_pos c3]
    refine rn_go 80 (by with_unfolding_all rfl) ?_
    exact rn_rt (by with_unfolding_all rfl) (Or.inl rfl) (rfl) (rfl)
  rw [if_neg c3]
  refine rn_go 80 (by with_unfolding_all rfl) ?_
  exact rn_rt (by with_unfolding_all rfl) (Or.inr rfl) (rfl) (rfl)
set_option maxRecDepth 10000 in
theorem xm_rowL {k : Nat} (hk : k < 8) (l n : Int32) : ∀ m i, i + m = 40 → rn none 1 am_t_X9_row (55, [some (.ref 43), some (.int (nI k)), some (.int l), some (.int n), some (.int (nI i))], [], wd g T A gm (tu Am 4 (z40 (Am 4) (40 * k) i))) (some (.int n)) (wd g T A (upd gm 4 0) (tu Am 4 (z40 (Am 4) (40 * k) 40)))
  | 0, i, hi => by
    have hi : i = 40 := by omega
    subst hi
    refine rn_go 80 (by with_unfolding_all rfl) ?_
    refine rn_br (by with_unfolding_all rfl) (fun c => ?_) (fun c => ?_)
    · refine rn_go 80 (by with_unfolding_all rfl) ?_
      refine rn_cl (by with_unfolding_all rfl) (ev_up (by decide) (xm_well n)) ?_
      refine rn_go 80 (by with_unfolding_all rfl) ?_
      exact rn_rt (by with_unfolding_all rfl) trivial rfl rfl
    · exact absurd (by decide) c
  | m + 1, i, hi => by
    have ih := xm_rowL hk l n m (i + 1) (by omega)
    refine rn_go 80 (by with_unfolding_all rfl) ?_
    refine rn_br (by with_unfolding_all rfl) (fun c => ?_) (fun c => ?_)
    · exact absurd c (nI_ge (show i < 40 by omega) (by decide))
    refine rn_go 80 (by with_unfolding_all rfl) ?_
    refine rn_st (40 * k + i) (by with_unfolding_all rfl) (by rw [show (40 : Int32) = nI 40 from rfl, pk_mul, nI_add]) (by omega) (by decide) ?_
    refine rn_hp (by with_unfolding_all exact (wM_4)) ?_
    refine rn_to 55 80 (by with_unfolding_all rfl) ?_
    rw [tu_tu, tu_s]
    rw [z40_eq, ← nI_1] at ih
    with_unfolding_all exact ih
set_option maxRecDepth 10000 in
theorem xm_row (r l n : Int32) {v s : Int32} {a0 a1 a2 : Nat → Int32} (hq : sRow r l n (gm 4) (Am 2) (Am 3) (Am 4) = (v, s, a0, a1, a2)) : am_ev 3 144 [.ref 43, .int r, .int l, .int n] (wd g T A gm Am) (some (.int v)) (wd g T A (upd gm 4 s) (tu (tu (tu Am 2 a0) 3 a1) 4 a2)) := by
  unfold sRow at hq
  refine rn_ev am_m_X9_row rfl rfl ?_
  refine rn_go 80 (by with_unfolding_all rfl) ?_
  refine rn_cl (by with_unfolding_all rfl) (ev_up (by decide) (xm_isRow r)) ?_
  refine rn_go 80 (by with_unfolding_all rfl) ?_
  refine rn_br (by with_unfolding_all rfl) (fun c => ?_) (fun c => ?_)
  · rw [if_pos c] at hq
    cases hq
    refine rn_go 80 (by with_unfolding_all rfl) ?_
    exact rn_rt (by with_unfolding_all rfl) (trivial) (rfl) (by with_unfolding_all rfl)
  rw [if_neg c] at hq
  refine rn_go 80 (by with_unfolding_all rfl) ?_
  refine rn_cl (by with_unfolding_all rfl) (ev_up (by decide) (xm_in _ _ _)) ?_
  rw [inn_b (a := 0) (b := 2) (P := 0) (Q := 2) (by decide) (by decide)]
  refine rn_go 80 (by with_unfolding_all rfl) ?_
  refine rn_br (by with_unfolding_all rfl) (fun c2 => ?_) (fun c2 => ?_)
  · have e : v = -1000001 ∧ wd g T A (upd gm 4 s) (tu (tu (tu Am 2 a0) 3 a1) 4 a2) = wd g T A gm Am := by
      unfold btw at c2
      by_cases q1 : l < 0
      · rw [if_pos q1] at hq
        cases hq
        exact ⟨rfl, by with_unfolding_all rfl⟩
      · rw [if_neg q1] at c2 hq
        by_cases q2 : 2 < l
        · rw [if_pos q2] at hq
          cases hq
          exact ⟨rfl, by with_unfolding_all rfl⟩
        · rw [if_neg q2] at c2
          exact absurd c2 (by decide)
    rw [e.2, e.1]
    refine rn_go 80 (by with_unfolding_all rfl) ?_
    exact rn_rt (by with_unfolding_all rfl) trivial rfl rfl
  have q1 : ¬ l < 0 := fun q => c2 (by unfold btw; rw [if_pos q])
  have q2 : ¬ 2 < l := fun q => c2 (by unfold btw; rw [if_neg q1, if_pos q])
  rw [if_neg q1, if_neg q2] at hq
  obtain ⟨k, hk, rfl⟩ := ir_of c
  have e1 : (nI k).toNatClampNeg = k := nI_clamp (by omega)
  rw [e1] at hq
  refine rn_go 80 (by with_unfolding_all rfl) ?_
  refine rn_br (by with_unfolding_all rfl) (fun c4 => ?_) (fun c4 => ?_)
  · rw [if_pos c4] at hq
    refine rn_go 80 (by with_unfolding_all rfl) ?_
    refine rn_br (by with_unfolding_all rfl) (fun c5 => ?_) (fun c5 => ?_)
    · rw [if_pos c5] at hq
      cases hq
      refine rn_go 80 (by with_unfolding_all rfl) ?_
      refine rn_st (k) (by with_unfolding_all rfl) rfl hk (by decide) ?_
      refine rn_hp (by with_unfolding_all exact (wM_2)) ?_
      refine rn_go 80 (by with_unfolding_all rfl) ?_
      refine rn_st (k) (by with_unfolding_all rfl) rfl hk (by decide) ?_
      refine rn_hp (by with_unfolding_all exact (wM_3)) ?_
      refine rn_to 55 80 (by with_unfolding_all rfl) ?_
      refine rn_of_le (d := 1) (by decide) ?_
      have key := xm_rowL (g := g) (T := T) (A := A) (gm := gm) (Am := tu (tu Am 2 (upd (Am 2) k l)) 3 (upd (Am 3) k n)) hk l n 40 0 rfl
      with_unfolding_all exact key
    rw [if_neg c5] at hq
    cases hq
    refine rn_go 80 (by with_unfolding_all rfl) ?_
    refine rn_cl (by with_unfolding_all rfl) (ev_up (by decide) (xm_find 4)) ?_
    refine rn_go 80 (by with_unfolding_all rfl) ?_
    exact rn_rt (by with_unfolding_all rfl) (trivial) (rfl) (by with_unfolding_all rfl)
  rw [if_neg c4] at hq
  cases hq
  refine rn_go 80 (by with_unfolding_all rfl) ?_
  exact rn_rt (by with_unfolding_all rfl) (trivial) (rfl) (by with_unfolding_all rfl)
set_option maxRecDepth 10000 in
theorem okR_neg {a0 a1 : Nat → Int32} (hok : okR a0 a1) {k : Nat} (hk : k < 8) : (0 ≤ a1 k ↔ ¬ a1 k = -1) ∧ (a1 k < 0 ↔ a1 k = -1) := by
  rcases (hok k hk).1 with e | ⟨l, hl, e⟩
  · rw [e]; exact ⟨by decide, by decide⟩
  · rw [e]
    have h1 : ¬ nI l < 0 := nI_pos (by omega)
    have h2 : ¬ nI l = -1 := fun q => h1 (by rw [q]; decide)
    exact ⟨⟨fun _ => h2, fun _ => nI_pos' (by omega)⟩, ⟨fun q => absurd q h1, fun q => absurd q h2⟩⟩
set_option maxRecDepth 10000 in
theorem xm_set (r i v0 : Int32) (hok : okR (Am 2) (Am 3)) {v s : Int32} {a2 : Nat → Int32} (hq : sSet r i v0 (gm 4) (Am 2) (Am 3) (Am 4) = (v, s, a2)) : am_ev 3 146 [.ref 43, .int r, .int i, .int v0] (wd g T A gm Am) (some (.int v)) (wd g T A (upd gm 4 s) (tu Am 4 a2)) := by
  unfold sSet at hq
  refine rn_ev am_m_X9_set rfl rfl ?_
  refine rn_go 80 (by with_unfolding_all rfl) ?_
  refine rn_cl (by with_unfolding_all rfl) (ev_up (by decide) (xm_isRow r)) ?_
  refine rn_go 80 (by with_unfolding_all rfl) ?_
  refine rn_br (by with_unfolding_all rfl) (fun c => ?_) (fun c => ?_)
  · rw [if_pos c] at hq
    cases hq
    refine rn_go 80 (by with_unfolding_all rfl) ?_
    exact rn_rt (by with_unfolding_all rfl) (trivial) (rfl) (by with_unfolding_all rfl)
  rw [if_neg c] at hq
  obtain ⟨k, hk, rfl⟩ := ir_of c
  have e1 : (nI k).toNatClampNeg = k := nI_clamp (by omega)
  rw [e1] at hq
  have hng := okR_neg hok hk
  refine rn_go 80 (by with_unfolding_all rfl) ?_
  refine rn_ld (k) (by with_unfolding_all rfl) rfl hk (by decide) ?_
  refine rn_go 80 (by with_unfolding_all rfl) ?_
  refine rn_br (by with_unfolding_all rfl) (fun c2 => ?_) (fun c2 => ?_)
  · have c2' := hng.1.mp c2
    rw [if_neg c2'] at hq
    obtain ⟨l, hl, hl2⟩ := (hok k hk).1.resolve_left c2'
    refine rn_go 80 (by with_unfolding_all rfl) ?_
    refine rn_ld (k) (by with_unfolding_all rfl) rfl hk (by decide) ?_
    refine rn_go 80 (by with_unfolding_all rfl) ?_
    refine rn_cl (by with_unfolding_all rfl) (ev_up (by decide) (xm_in _ _ _)) ?_
    rw [inn_b (a := 0) (b := Am 3 k - 1) (P := 0) (by decide) rfl, hl2, hp1 hl, ← hl2]
    refine rn_go 80 (by with_unfolding_all rfl) ?_
    refine rn_br (by with_unfolding_all rfl) (fun c3 => ?_) (fun c3 => ?_)
    · rw [if_pos c3] at hq
      cases hq
      refine rn_go 80 (by with_unfolding_all rfl) ?_
      refine rn_cl (by with_unfolding_all rfl) (ev_up (by decide) (xm_find 2)) ?_
      refine rn_go 80 (by with_unfolding_all rfl) ?_
      exact rn_rt (by with_unfolding_all rfl) (trivial) (rfl) (by with_unfolding_all rfl)
    rw [if_neg c3] at hq
    rw [hl2] at c3
    obtain ⟨a, b, rfl, hb, hab⟩ := hp_of hl c3
    have hb1 : b = 1 := by
      rcases Nat.lt_or_ge b (2 ^ 31) with q | q
      · exact ((nI_eq (by decide) q).mp (show nI 1 = nI b from hb)).symm
      · omega
    have e2 : (nI a).toNatClampNeg = a := nI_clamp (by omega)
    rw [e2] at hq
    cases hq
    refine rn_go 80 (by with_unfolding_all rfl) ?_
    refine rn_ld (k) (by with_unfolding_all rfl) rfl hk (by decide) ?_
    refine rn_go 80 (by with_unfolding_all rfl) ?_
    refine rn_cl (by with_unfolding_all rfl) (ev_up (by decide) (xm_narrow _ _)) ?_
    refine rn_go 80 (by with_unfolding_all rfl) ?_
    refine rn_st (40 * k + a) (by with_unfolding_all rfl) (by rw [show (40 : Int32) = nI 40 from rfl, pk_mul, nI_add]) (by omega) (by decide) ?_
    refine rn_hp (by with_unfolding_all exact (wM_4)) ?_
    refine rn_go 80 (by with_unfolding_all rfl) ?_
    refine rn_ld (40 * k + a) (by with_unfolding_all rfl) (by rw [show (40 : Int32) = nI 40 from rfl, pk_mul, nI_add]) (by omega) (by decide) ?_
    rw [tu_s, up_eq]
    refine rn_go 80 (by with_unfolding_all rfl) ?_
    refine rn_cl (by with_unfolding_all rfl) (ev_up (by decide) (xm_well _)) ?_
    refine rn_go 80 (by with_unfolding_all rfl) ?_
    exact rn_rt (by with_unfolding_all rfl) trivial rfl rfl
  have c2' : Am 3 k = -1 := Classical.not_not.mp (fun q => c2 (hng.1.mpr q))
  rw [if_pos c2'] at hq
  cases hq
  refine rn_go 80 (by with_unfolding_all rfl) ?_
  refine rn_cl (by with_unfolding_all rfl) (ev_up (by decide) (xm_find 1)) ?_
  refine rn_go 80 (by with_unfolding_all rfl) ?_
  exact rn_rt (by with_unfolding_all rfl) (trivial) (rfl) (by with_unfolding_all rfl)
set_option maxRecDepth 10000 in
theorem xm_drop (r : Int32) (hok : okR (Am 2) (Am 3)) {v s : Int32} {a1 : Nat → Int32} (hq : sDrop r (gm 4) (Am 3) = (v, s, a1)) : am_ev 3 149 [.ref 43, .int r] (wd g T A gm Am) (some (.int v)) (wd g T A (upd gm 4 s) (tu Am 3 a1)) := by
  unfold sDrop at hq
  refine rn_ev am_m_X9_drop rfl rfl ?_
  refine rn_go 80 (by with_unfolding_all rfl) ?_
  refine rn_cl (by with_unfolding_all rfl) (ev_up (by decide) (xm_isRow r)) ?_
  refine rn_go 80 (by with_unfolding_all rfl) ?_
  refine rn_br (by with_unfolding_all rfl) (fun c => ?_) (fun c => ?_)
  · rw [if_pos c] at hq
    cases hq
    refine rn_go 80 (by with_unfolding_all rfl) ?_
    exact rn_rt (by with_unfolding_all rfl) (trivial) (rfl) (by with_unfolding_all rfl)
  rw [if_neg c] at hq
  obtain ⟨k, hk, rfl⟩ := ir_of c
  have e1 : (nI k).toNatClampNeg = k := nI_clamp (by omega)
  rw [e1] at hq
  have hng := okR_neg hok hk
  refine rn_go 80 (by with_unfolding_all rfl) ?_
  refine rn_ld (k) (by with_unfolding_all rfl) rfl hk (by decide) ?_
  refine rn_go 80 (by with_unfolding_all rfl) ?_
  refine rn_br (by with_unfolding_all rfl) (fun c2 => ?_) (fun c2 => ?_)
  · rw [if_neg (hng.1.mp c2)] at hq
    cases hq
    refine rn_go 80 (by with_unfolding_all rfl) ?_
    refine rn_ld (k) (by with_unfolding_all rfl) rfl hk (by decide) ?_
    refine rn_go 80 (by with_unfolding_all rfl) ?_
    refine rn_st (k) (by with_unfolding_all rfl) rfl hk (by decide) ?_
    refine rn_hp (by with_unfolding_all exact (wM_3)) ?_
    refine rn_go 80 (by with_unfolding_all rfl) ?_
    refine rn_cl (by with_unfolding_all rfl) (ev_up (by decide) (xm_well _)) ?_
    refine rn_go 80 (by with_unfolding_all rfl) ?_
    exact rn_rt (by with_unfolding_all rfl) trivial rfl rfl
  have c2' : Am 3 k = -1 := Classical.not_not.mp (fun q => c2 (hng.1.mpr q))
  rw [if_pos c2'] at hq
  cases hq
  refine rn_go 80 (by with_unfolding_all rfl) ?_
  refine rn_cl (by with_unfolding_all rfl) (ev_up (by decide) (xm_find 1)) ?_
  refine rn_go 80 (by with_unfolding_all rfl) ?_
  exact rn_rt (by with_unfolding_all rfl) (trivial) (rfl) (by with_unfolding_all rfl)
end

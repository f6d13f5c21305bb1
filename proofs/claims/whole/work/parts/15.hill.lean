/-! the hill: what the class's Hill does, by numbers: t the hill's numbers (0 motions, 1 members, 2 cost, 3 day, 4 carried, 5.. needs, 9.. kinds, 13.. breaths, 17.. mends) -/
set_option maxRecDepth 10000 in
theorem wa_at {t : Nat → Int32} {b k : Nat} (h : k < 4) : wa t b k = t (b + k) := by unfold wa; rw [if_pos h]
def us (x y : Int32) : Int32 := (x.toUInt32 >>> (y.toUInt32 &&& Int32.toUInt32 31)).toInt32
def bc1 (x : Int32) : Int32 := x - (us x 1 &&& 1431655765)
def bc2 (x : Int32) : Int32 := (x &&& 858993459) + (us x 2 &&& 858993459)
def bc3 (x : Int32) : Int32 := (x + us x 4) &&& 252645135
def bc4 (x : Int32) : Int32 := x + us x 8
def bc5 (x : Int32) : Int32 := x + us x 16
def bc (x : Int32) : Int32 := bc5 (bc4 (bc3 (bc2 (bc1 x)))) &&& 63
def tc (t : Nat → Int32) (p : Nat) : Int32 := if t (9 + p) = 1 then t 2 else if t (9 + p) = 2 then t 2 + 1 else if t (9 + p) = 3 then t 2 else 0
def ta (t : Nat → Int32) : Nat → Int32
  | 0 => 0
  | i + 1 => if t (13 + i) < tc t i then ta t i else ta t i ||| (1 <<< (nI i &&& 31))
def tw (t : Nat → Int32) (p : Nat) (a : Int32) : Int32 := if t (9 + p) = 1 then 20 - t (13 + p) else if t (9 + p) = 2 then 2 * (20 - t (13 + p)) else if t (9 + p) = 3 then 20 - t (13 + p) else if t (9 + p) = 4 then 5 else 5 + t 1 - bc a
def tb (s : Int32) (i : Nat) : Int32 := s >>> (nI i &&& 31) &&& 1
def ts (t : Nat → Int32) (s a : Int32) : Nat → Int32
  | 0 => 0
  | i + 1 => if tb s i = 0 then ts t s a i else ts t s a i + tw t i a
def tn (t : Nat → Int32) (dy mo : Nat) : Int32 := t (5 + dy % mo)
section
variable {g gm : Nat → Int32} {T A Am : Nat → Nat → Int32} {h : am_H}
set_option maxRecDepth 10000 in
theorem xj_bitCount (x : Int32) : am_ev 1 227 [.int x] h (some (.int (bc x))) h := by
  refine rn_ev am_m_J6_bitCount_0f7a4 rfl rfl ?_
  refine rn_go 80 (by with_unfolding_all rfl) ?_
  exact rn_rt (by with_unfolding_all rfl) trivial rfl rfl
set_option maxRecDepth 10000 in
theorem xh_costOf0 (p : Nat) (hp : p < 4) : am_ev 1 44 [.ref 5, .int (nI p)] (wd g T A gm Am) (some (.int (tc (T 0) p))) (wd g T A gm Am) := by
  refine rn_ev am_m_X3_costOf rfl rfl ?_
  refine rn_go 80 (by with_unfolding_all rfl) ?_
  refine rn_ld (p) (by with_unfolding_all rfl) rfl hp (by decide) ?_
  rw [wa_at hp]
  refine rn_one (by with_unfolding_all rfl) ?_
  unfold tc
  by_cases h1 : T 0 (9 + p) = 1
  · rw [if_pos h1]
    simp only [am_pick, if_pos h1]
    refine rn_go 80 (by with_unfolding_all rfl) ?_
    exact rn_rt (by with_unfolding_all rfl) trivial rfl rfl
  · rw [if_neg h1]
    by_cases h2 : T 0 (9 + p) = 2
    · rw [if_pos h2]
      simp only [am_pick, if_neg h1, if_pos h2]
      refine rn_go 80 (by with_unfolding_all rfl) ?_
      exact rn_rt (by with_unfolding_all rfl) trivial rfl rfl
    · rw [if_neg h2]
      by_cases h3 : T 0 (9 + p) = 3
      · rw [if_pos h3]
        simp only [am_pick, if_neg h1, if_neg h2, if_pos h3]
        refine rn_go 80 (by with_unfolding_all rfl) ?_
        exact rn_rt (by with_unfolding_all rfl) trivial rfl rfl
      · rw [if_neg h3]
        simp only [am_pick, if_neg h1, if_neg h2, if_neg h3]
        refine rn_go 80 (by with_unfolding_all rfl) ?_
        exact rn_rt (by with_unfolding_all rfl) trivial rfl rfl
set_option maxRecDepth 10000 in
theorem xh_ableL0 {n : Nat} (hn : T 0 1 = nI n) (hn4 : n ≤ 4) : ∀ k i, i + k = n → rn none 1 am_t_X3_ableSet (4, [some (.ref 5), some (.int (ta (T 0) i)), some (.int (nI i))], [], wd g T A gm Am) (some (.int (ta (T 0) n))) (wd g T A gm Am)
  | 0, i, hi => by
    refine rn_go 80 (by with_unfolding_all rfl) ?_
    refine rn_br (by with_unfolding_all rfl) (fun c => ?_) (fun c => ?_)
    · refine rn_go 80 (by with_unfolding_all rfl) ?_
      exact rn_rt (by with_unfolding_all rfl) (trivial) (by rw [show n = i by omega]) (rfl)
    · exact absurd (by rw [hn, show n = i by omega]; exact Int32.le_refl _) c
  | k + 1, i, hi => by
    have ih := xh_ableL0 hn hn4 k (i + 1) (by omega)
    refine rn_go 80 (by with_unfolding_all rfl) ?_
    refine rn_br (by with_unfolding_all rfl) (fun c => ?_) (fun c => ?_)
    · exact absurd (by rw [hn] at c; exact c) (nI_ge (show i < n by omega) (by omega))
    · refine rn_go 80 (by with_unfolding_all rfl) ?_
      refine rn_ld (i) (by with_unfolding_all rfl) rfl (by omega) (by decide) ?_
      rw [wa_at (show i < 4 by omega)]
      refine rn_go 80 (by with_unfolding_all rfl) ?_
      refine rn_cl (by with_unfolding_all rfl) (ev_up (by decide) (xh_costOf0 i (by omega))) ?_
      refine rn_go 80 (by with_unfolding_all rfl) ?_
      refine rn_br (by with_unfolding_all rfl) (fun c2 => ?_) (fun c2 => ?_)
      · refine rn_to 4 80 (by with_unfolding_all rfl) ?_
        rw [show ta (T 0) (i + 1) = ta (T 0) i by simp only [ta, if_pos c2], ← nI_1] at ih
        with_unfolding_all exact ih
      · refine rn_to 4 80 (by with_unfolding_all rfl) ?_
        rw [show ta (T 0) (i + 1) = ta (T 0) i ||| (1 <<< (nI i &&& 31)) by simp only [ta, if_neg c2], ← nI_1] at ih
        with_unfolding_all exact ih
set_option maxRecDepth 10000 in
theorem xh_ableSet0 {n : Nat} (hn : T 0 1 = nI n) (hn4 : n ≤ 4) : am_ev 2 45 [.ref 5] (wd g T A gm Am) (some (.int (ta (T 0) n))) (wd g T A gm Am) := by
  refine rn_ev am_m_X3_ableSet rfl rfl ?_
  refine rn_to 4 80 (by with_unfolding_all rfl) ?_
  with_unfolding_all exact xh_ableL0 hn hn4 n 0 (by omega)
set_option maxRecDepth 10000 in
theorem xh_weighs0 (p : Nat) (hp : p < 4) (b : Int32) : am_ev 2 46 [.ref 5, .int (nI p), .int b] (wd g T A gm Am) (some (.int (tw (T 0) p b))) (wd g T A gm Am) := by
  refine rn_ev am_m_X3_weighs rfl rfl ?_
  refine rn_go 80 (by with_unfolding_all rfl) ?_
  refine rn_ld (p) (by with_unfolding_all rfl) rfl hp (by decide) ?_
  rw [wa_at hp]
  refine rn_one (by with_unfolding_all rfl) ?_
  unfold tw
  by_cases h1 : T 0 (9 + p) = 1
  · rw [if_pos h1]
    simp only [am_pick, if_pos h1]
    refine rn_go 80 (by with_unfolding_all rfl) ?_
    refine rn_ld (p) (by with_unfolding_all rfl) rfl hp (by decide) ?_
    rw [wa_at hp]
    refine rn_go 80 (by with_unfolding_all rfl) ?_
    exact rn_rt (by with_unfolding_all rfl) trivial rfl rfl
  · rw [if_neg h1]
    by_cases h2 : T 0 (9 + p) = 2
    · rw [if_pos h2]
      simp only [am_pick, if_neg h1, if_pos h2]
      refine rn_go 80 (by with_unfolding_all rfl) ?_
      refine rn_ld (p) (by with_unfolding_all rfl) rfl hp (by decide) ?_
      rw [wa_at hp]
      refine rn_go 80 (by with_unfolding_all rfl) ?_
      exact rn_rt (by with_unfolding_all rfl) trivial rfl rfl
    · rw [if_neg h2]
      by_cases h3 : T 0 (9 + p) = 3
      · rw [if_pos h3]
        simp only [am_pick, if_neg h1, if_neg h2, if_pos h3]
        refine rn_go 80 (by with_unfolding_all rfl) ?_
        refine rn_ld (p) (by with_unfolding_all rfl) rfl hp (by decide) ?_
        rw [wa_at hp]
        refine rn_go 80 (by with_unfolding_all rfl) ?_
        exact rn_rt (by with_unfolding_all rfl) trivial rfl rfl
      · rw [if_neg h3]
        by_cases h4 : T 0 (9 + p) = 4
        · rw [if_pos h4]
          simp only [am_pick, if_neg h1, if_neg h2, if_neg h3, if_pos h4]
          refine rn_go 80 (by with_unfolding_all rfl) ?_
          exact rn_rt (by with_unfolding_all rfl) trivial rfl rfl
        · rw [if_neg h4]
          simp only [am_pick, if_neg h1, if_neg h2, if_neg h3, if_neg h4]
          refine rn_go 80 (by with_unfolding_all rfl) ?_
          refine rn_cl (by with_unfolding_all rfl) (ev_up (by decide) (xj_bitCount b)) ?_
          refine rn_go 80 (by with_unfolding_all rfl) ?_
          exact rn_rt (by with_unfolding_all rfl) trivial rfl rfl
set_option maxRecDepth 10000 in
theorem xh_wsL0 {n : Nat} (hn : T 0 1 = nI n) (hn4 : n ≤ 4) (s b : Int32) : ∀ k i, i + k = n → rn none 2 am_t_X3_weighsSet (5, [some (.ref 5), some (.int s), some (.int b), some (.int (ts (T 0) s b i)), some (.int (nI i))], [], wd g T A gm Am) (some (.int (ts (T 0) s b n))) (wd g T A gm Am)
  | 0, i, hi => by
    refine rn_go 80 (by with_unfolding_all rfl) ?_
    refine rn_br (by with_unfolding_all rfl) (fun c => ?_) (fun c => ?_)
    · refine rn_go 80 (by with_unfolding_all rfl) ?_
      exact rn_rt (by with_unfolding_all rfl) (trivial) (by rw [show n = i by omega]) (rfl)
    · exact absurd (by rw [hn, show n = i by omega]; exact Int32.le_refl _) c
  | k + 1, i, hi => by
    have ih := xh_wsL0 hn hn4 s b k (i + 1) (by omega)
    refine rn_go 80 (by with_unfolding_all rfl) ?_
    refine rn_br (by with_unfolding_all rfl) (fun c => ?_) (fun c => ?_)
    · exact absurd (by rw [hn] at c; exact c) (nI_ge (show i < n by omega) (by omega))
    · refine rn_go 80 (by with_unfolding_all rfl) ?_
      refine rn_br (by with_unfolding_all rfl) (fun c2 => ?_) (fun c2 => ?_)
      · refine rn_to 5 80 (by with_unfolding_all rfl) ?_
        rw [show ts (T 0) s b (i + 1) = ts (T 0) s b i by simp only [ts]; exact if_pos c2, ← nI_1] at ih
        with_unfolding_all exact ih
      · refine rn_go 80 (by with_unfolding_all rfl) ?_
        refine rn_cl (by with_unfolding_all rfl) (ev_up (by decide) (xh_weighs0 i (by omega) b)) ?_
        refine rn_to 5 80 (by with_unfolding_all rfl) ?_
        rw [show ts (T 0) s b (i + 1) = ts (T 0) s b i + tw (T 0) i b by simp only [ts]; exact if_neg c2, ← nI_1] at ih
        with_unfolding_all exact ih
set_option maxRecDepth 10000 in
theorem xh_weighsSet0 {n : Nat} (hn : T 0 1 = nI n) (hn4 : n ≤ 4) (s b : Int32) : am_ev 3 47 [.ref 5, .int s, .int b] (wd g T A gm Am) (some (.int (ts (T 0) s b n))) (wd g T A gm Am) := by
  refine rn_ev am_m_X3_weighsSet rfl rfl ?_
  refine rn_to 5 80 (by with_unfolding_all rfl) ?_
  with_unfolding_all exact xh_wsL0 hn hn4 s b n 0 (by omega)
set_option maxRecDepth 10000 in
theorem xh_costOf1 (p : Nat) (hp : p < 4) : am_ev 1 44 [.ref 10, .int (nI p)] (wd g T A gm Am) (some (.int (tc (T 1) p))) (wd g T A gm Am) := by
  refine rn_ev am_m_X3_costOf rfl rfl ?_
  refine rn_go 80 (by with_unfolding_all rfl) ?_
  refine rn_ld (p) (by with_unfolding_all rfl) rfl hp (by decide) ?_
  rw [wa_at hp]
  refine rn_one (by with_unfolding_all rfl) ?_
  unfold tc
  by_cases h1 : T 1 (9 + p) = 1
  · rw [if_pos h1]
    simp only [am_pick, if_pos h1]
    refine rn_go 80 (by with_unfolding_all rfl) ?_
    exact rn_rt (by with_unfolding_all rfl) trivial rfl rfl
  · rw [if_neg h1]
    by_cases h2 : T 1 (9 + p) = 2
    · rw [if_pos h2]
      simp only [am_pick, if_neg h1, if_pos h2]
      refine rn_go 80 (by with_unfolding_all rfl) ?_
      exact rn_rt (by with_unfolding_all rfl) trivial rfl rfl
    · rw [if_neg h2]
      by_cases h3 : T 1 (9 + p) = 3
      · rw [if_pos h3]
        simp only [am_pick, if_neg h1, if_neg h2, if_pos h3]
        refine rn_go 80 (by with_unfolding_all rfl) ?_
        exact rn_rt (by with_unfolding_all rfl) trivial rfl rfl
      · rw [if_neg h3]
        simp only [am_pick, if_neg h1, if_neg h2, if_neg h3]
        refine rn_go 80 (by with_unfolding_all rfl) ?_
        exact rn_rt (by with_unfolding_all rfl) trivial rfl rfl
set_option maxRecDepth 10000 in
theorem xh_ableL1 {n : Nat} (hn : T 1 1 = nI n) (hn4 : n ≤ 4) : ∀ k i, i + k = n → rn none 1 am_t_X3_ableSet (4, [some (.ref 10), some (.int (ta (T 1) i)), some (.int (nI i))], [], wd g T A gm Am) (some (.int (ta (T 1) n))) (wd g T A gm Am)
  | 0, i, hi => by
    refine rn_go 80 (by with_unfolding_all rfl) ?_
    refine rn_br (by with_unfolding_all rfl) (fun c => ?_) (fun c => ?_)
    · refine rn_go 80 (by with_unfolding_all rfl) ?_
      exact rn_rt (by with_unfolding_all rfl) (trivial) (by rw [show n = i by omega]) (rfl)
    · exact absurd (by rw [hn, show n = i by omega]; exact Int32.le_refl _) c
  | k + 1, i, hi => by
    have ih := xh_ableL1 hn hn4 k (i + 1) (by omega)
    refine rn_go 80 (by with_unfolding_all rfl) ?_
    refine rn_br (by with_unfolding_all rfl) (fun c => ?_) (fun c => ?_)
    · exact absurd (by rw [hn] at c; exact c) (nI_ge (show i < n by omega) (by omega))
    · refine rn_go 80 (by with_unfolding_all rfl) ?_
      refine rn_ld (i) (by with_unfolding_all rfl) rfl (by omega) (by decide) ?_
      rw [wa_at (show i < 4 by omega)]
      refine rn_go 80 (by with_unfolding_all rfl) ?_
      refine rn_cl (by with_unfolding_all rfl) (ev_up (by decide) (xh_costOf1 i (by omega))) ?_
      refine rn_go 80 (by with_unfolding_all rfl) ?_
      refine rn_br (by with_unfolding_all rfl) (fun c2 => ?_) (fun c2 => ?_)
      · refine rn_to 4 80 (by with_unfolding_all rfl) ?_
        rw [show ta (T 1) (i + 1) = ta (T 1) i by simp only [ta, if_pos c2], ← nI_1] at ih
        with_unfolding_all exact ih
      · refine rn_to 4 80 (by with_unfolding_all rfl) ?_
        rw [show ta (T 1) (i + 1) = ta (T 1) i ||| (1 <<< (nI i &&& 31)) by simp only [ta, if_neg c2], ← nI_1] at ih
        with_unfolding_all exact ih
set_option maxRecDepth 10000 in
theorem xh_ableSet1 {n : Nat} (hn : T 1 1 = nI n) (hn4 : n ≤ 4) : am_ev 2 45 [.ref 10] (wd g T A gm Am) (some (.int (ta (T 1) n))) (wd g T A gm Am) := by
  refine rn_ev am_m_X3_ableSet rfl rfl ?_
  refine rn_to 4 80 (by with_unfolding_all rfl) ?_
  with_unfolding_all exact xh_ableL1 hn hn4 n 0 (by omega)
set_option maxRecDepth 10000 in
theorem xh_weighs1 (p : Nat) (hp : p < 4) (b : Int32) : am_ev 2 46 [.ref 10, .int (nI p), .int b] (wd g T A gm Am) (some (.int (tw (T 1) p b))) (wd g T A gm Am) := by
  refine rn_ev am_m_X3_weighs rfl rfl ?_
  refine rn_go 80 (by with_unfolding_all rfl) ?_
  refine rn_ld (p) (by with_unfolding_all rfl) rfl hp (by decide) ?_
  rw [wa_at hp]
  refine rn_one (by with_unfolding_all rfl) ?_
  unfold tw
  by_cases h1 : T 1 (9 + p) = 1
  · rw [if_pos h1]
    simp only [am_pick, if_pos h1]
    refine rn_go 80 (by with_unfolding_all rfl) ?_
    refine rn_ld (p) (by with_unfolding_all rfl) rfl hp (by decide) ?_
    rw [wa_at hp]
    refine rn_go 80 (by with_unfolding_all rfl) ?_
    exact rn_rt (by with_unfolding_all rfl) trivial rfl rfl
  · rw [if_neg h1]
    by_cases h2 : T 1 (9 + p) = 2
    · rw [if_pos h2]
      simp only [am_pick, if_neg h1, if_pos h2]
      refine rn_go 80 (by with_unfolding_all rfl) ?_
      refine rn_ld (p) (by with_unfolding_all rfl) rfl hp (by decide) ?_
      rw [wa_at hp]
      refine rn_go 80 (by with_unfolding_all rfl) ?_
      exact rn_rt (by with_unfolding_all rfl) trivial rfl rfl
    · rw [if_neg h2]
      by_cases h3 : T 1 (9 + p) = 3
      · rw [if_pos h3]
        simp only [am_pick, if_neg h1, if_neg h2, if_pos h3]
        refine rn_go 80 (by with_unfolding_all rfl) ?_
        refine rn_ld (p) (by with_unfolding_all rfl) rfl hp (by decide) ?_
        rw [wa_at hp]
        refine rn_go 80 (by with_unfolding_all rfl) ?_
        exact rn_rt (by with_unfolding_all rfl) trivial rfl rfl
      · rw [if_neg h3]
        by_cases h4 : T 1 (9 + p) = 4
        · rw [if_pos h4]
          simp only [am_pick, if_neg h1, if_neg h2, if_neg h3, if_pos h4]
          refine rn_go 80 (by with_unfolding_all rfl) ?_
          exact rn_rt (by with_unfolding_all rfl) trivial rfl rfl
        · rw [if_neg h4]
          simp only [am_pick, if_neg h1, if_neg h2, if_neg h3, if_neg h4]
          refine rn_go 80 (by with_unfolding_all rfl) ?_
          refine rn_cl (by with_unfolding_all rfl) (ev_up (by decide) (xj_bitCount b)) ?_
          refine rn_go 80 (by with_unfolding_all rfl) ?_
          exact rn_rt (by with_unfolding_all rfl) trivial rfl rfl
set_option maxRecDepth 10000 in
theorem xh_wsL1 {n : Nat} (hn : T 1 1 = nI n) (hn4 : n ≤ 4) (s b : Int32) : ∀ k i, i + k = n → rn none 2 am_t_X3_weighsSet (5, [some (.ref 10), some (.int s), some (.int b), some (.int (ts (T 1) s b i)), some (.int (nI i))], [], wd g T A gm Am) (some (.int (ts (T 1) s b n))) (wd g T A gm Am)
  | 0, i, hi => by
    refine rn_go 80 (by with_unfolding_all rfl) ?_
    refine rn_br (by with_unfolding_all rfl) (fun c => ?_) (fun c => ?_)
    · refine rn_go 80 (by with_unfolding_all rfl) ?_
      exact rn_rt (by with_unfolding_all rfl) (trivial) (by rw [show n = i by omega]) (rfl)
    · exact absurd (by rw [hn, show n = i by omega]; exact Int32.le_refl _) c
  | k + 1, i, hi => by
    have ih := xh_wsL1 hn hn4 s b k (i + 1) (by omega)
    refine rn_go 80 (by with_unfolding_all rfl) ?_
    refine rn_br (by with_unfolding_all rfl) (fun c => ?_) (fun c => ?_)
    · exact absurd (by rw [hn] at c; exact c) (nI_ge (show i < n by omega) (by omega))
    · refine rn_go 80 (by with_unfolding_all rfl) ?_
      refine rn_br (by with_unfolding_all rfl) (fun c2 => ?_) (fun c2 => ?_)
      · refine rn_to 5 80 (by with_unfolding_all rfl) ?_
        rw [show ts (T 1) s b (i + 1) = ts (T 1) s b i by simp only [ts]; exact if_pos c2, ← nI_1] at ih
        with_unfolding_all exact ih
      · refine rn_go 80 (by with_unfolding_all rfl) ?_
        refine rn_cl (by with_unfolding_all rfl) (ev_up (by decide) (xh_weighs1 i (by omega) b)) ?_
        refine rn_to 5 80 (by with_unfolding_all rfl) ?_
        rw [show ts (T 1) s b (i + 1) = ts (T 1) s b i + tw (T 1) i b by simp only [ts]; exact if_neg c2, ← nI_1] at ih
        with_unfolding_all exact ih
set_option maxRecDepth 10000 in
theorem xh_weighsSet1 {n : Nat} (hn : T 1 1 = nI n) (hn4 : n ≤ 4) (s b : Int32) : am_ev 3 47 [.ref 10, .int s, .int b] (wd g T A gm Am) (some (.int (ts (T 1) s b n))) (wd g T A gm Am) := by
  refine rn_ev am_m_X3_weighsSet rfl rfl ?_
  refine rn_to 5 80 (by with_unfolding_all rfl) ?_
  with_unfolding_all exact xh_wsL1 hn hn4 s b n 0 (by omega)
end

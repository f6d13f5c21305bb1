/-! the best agenda -/
def dn (ord k mo : Nat) : Nat := ord / 2 ^ (2 * (mo - 1 - k)) % 2 ^ 2
set_option maxRecDepth 10000 in
theorem dn_lt (ord k mo : Nat) : dn ord k mo < 4 := Nat.mod_lt _ (by decide)
set_option maxRecDepth 10000 in
theorem D4a : ∀ mo, mo < 5 → ∀ k, k < mo → ((2 * (nI mo - 1 - nI k) &&& 31).toBitVec.smod 32).toNat = 2 * (mo - 1 - k) := by decide +kernel
set_option maxRecDepth 10000 in
theorem D4 {mo k ord : Nat} (hm : mo < 5) (hk : k < mo) (ho : ord < 2 ^ 31) : dg (nI ord) (nI k) (nI mo) = nI (dn ord k mo) := by
  unfold dg dn
  rw [pk_shrN ho _ _ (D4a mo hm k hk), pk_andN (Nat.lt_of_le_of_lt (Nat.div_le_self _ _) (by omega)) 2 rfl]
def sn (ord mo : Nat) : Nat → Int32
  | 0 => 0
  | i + 1 => sn ord mo i ||| (1 <<< (nI (dn ord i mo) &&& 31))
def gdB (ord mo i : Nat) : Bool := decide (dn ord i mo < mo) && decide (tb (sn ord mo i) (dn ord i mo) = 0)
def allB (ord mo : Nat) : Nat → Bool
  | 0 => true
  | i + 1 => allB ord mo i && gdB ord mo i
set_option maxRecDepth 10000 in
theorem D5 : ∀ mo, mo < 5 → ∀ ord, ord < 256 → (decide (sn ord mo mo = (1 <<< (nI mo &&& 31)) - 1)) = allB ord mo mo := by decide +kernel
set_option maxRecDepth 10000 in
theorem allB_f {ord mo i : Nat} (h : allB ord mo i = false) : ∀ j, allB ord mo (i + j) = false
  | 0 => h
  | j + 1 => by
    show (allB ord mo (i + j) && gdB ord mo (i + j)) = false
    rw [allB_f h j]
    rfl
def fl (f s : Nat → Int32) (i : Nat) : Nat → Int32 := fun k => if k < i then s k else f k
set_option maxRecDepth 10000 in
theorem fl_0 {f s : Nat → Int32} : fl f s 0 = f := by
  funext k
  unfold fl
  rw [if_neg (by omega)]
set_option maxRecDepth 10000 in
theorem fl_s {f s : Nat → Int32} {i : Nat} : upd (fl f s i) i (s i) = fl f s (i + 1) := by
  funext k
  unfold fl upd
  by_cases h : k = i
  · rw [if_pos h, if_pos (by omega), h]
  · rw [if_neg h]
    show (if k < i then s k else f k) = _
    by_cases h2 : k < i
    · rw [if_pos h2, if_pos (by omega)]
    · rw [if_neg h2, if_neg (by omega)]
def sd (n mo dy : Nat) (x : Nat → Int32) (i : Nat) : Int32 := ts (dys all n mo dy x i) (ta (dys all n mo dy x i) n) (ta (dys all n mo dy x i) n) n
def cio (n mo dy : Nat) (x : Nat → Int32) (ord : Nat) : Nat → Int32
  | 0 => 0
  | i + 1 => if sd n mo dy x i < x (5 + dn ord i mo) then cio n mo dy x ord i else cio n mo dy x ord i + 1
def vo (n mo dy : Nat) (x : Nat → Int32) (ord : Nat) : Int32 := if allB ord mo mo = true then cio n mo dy x ord mo else -1
def mst (n mo dy : Nat) (x : Nat → Int32) : Nat → Int32
  | 0 => -1
  | k + 1 => if vo n mo dy x k ≤ mst n mo dy x k then mst n mo dy x k else vo n mo dy x k
def bst (n mo dy : Nat) (x : Nat → Int32) : Nat → Int32
  | 0 => 0
  | k + 1 => if vo n mo dy x k ≤ mst n mo dy x k then bst n mo dy x k else nI k
set_option maxRecDepth 10000 in
theorem cio_n (n mo dy : Nat) (x : Nat → Int32) (ord : Nat) : ∀ i, ∃ c : Nat, c ≤ i ∧ cio n mo dy x ord i = nI c
  | 0 => ⟨0, by omega, rfl⟩
  | i + 1 => by
    obtain ⟨c, hc, e⟩ := cio_n n mo dy x ord i
    unfold cio
    rw [e]
    split
    · exact ⟨c, by omega, rfl⟩
    · exact ⟨c + 1, by omega, nI_1 c⟩
set_option maxRecDepth 10000 in
theorem vo_n (n mo dy : Nat) (x : Nat → Int32) (ord : Nat) : vo n mo dy x ord = -1 ∨ ∃ c : Nat, c ≤ mo ∧ vo n mo dy x ord = nI c := by
  unfold vo
  split
  · exact Or.inr (cio_n n mo dy x ord mo)
  · exact Or.inl rfl
set_option maxRecDepth 10000 in
theorem mst_n (n mo dy : Nat) (x : Nat → Int32) : ∀ k, mst n mo dy x k = -1 ∨ ∃ c : Nat, c ≤ mo ∧ mst n mo dy x k = nI c
  | 0 => Or.inl rfl
  | k + 1 => by
    unfold mst
    split
    · exact mst_n n mo dy x k
    · exact vo_n n mo dy x k
set_option maxRecDepth 10000 in
theorem m1_le {c : Nat} (h : c < 2 ^ 31) : (-1 : Int32) ≤ nI c := Int32.le_trans (show (-1 : Int32) ≤ 0 by decide) (nI_pos' h)
set_option maxRecDepth 10000 in
theorem nI_m1 {c : Nat} (h : c < 2 ^ 31) : ¬ nI c = -1 := fun q => nI_pos h (by rw [q]; decide)
set_option maxRecDepth 10000 in
theorem mst_up {n mo dy : Nat} {x : Nat → Int32} {k : Nat} (hm : mo ≤ 4) (h : ¬ mst n mo dy x k = -1) : ∀ j, ¬ mst n mo dy x (k + j) = -1
  | 0 => h
  | j + 1 => by
    have ih := mst_up hm h j
    obtain ⟨c, hc, e⟩ := (mst_n n mo dy x (k + j)).resolve_left ih
    show ¬ (if vo n mo dy x (k + j) ≤ mst n mo dy x (k + j) then mst n mo dy x (k + j) else vo n mo dy x (k + j)) = -1
    split
    · exact ih
    · rename_i q
      rcases vo_n n mo dy x (k + j) with e2 | ⟨c2, hc2, e2⟩
      · rw [e2, e] at q
        exact absurd (m1_le (by omega)) q
      · rw [e2]
        exact nI_m1 (by omega)
def idO (mo : Nat) : Nat := if mo = 1 then 0 else if mo = 2 then 1 else if mo = 3 then 6 else 27
set_option maxRecDepth 10000 in
theorem idO_ok : ∀ mo, mo < 5 → 1 ≤ mo → (allB (idO mo) mo mo = true ∧ idO mo < 4 ^ mo) := by decide +kernel
set_option maxRecDepth 10000 in
theorem mst_end {n mo dy : Nat} {x : Nat → Int32} (h1 : 1 ≤ mo) (hm : mo ≤ 4) : ¬ mst n mo dy x (4 ^ mo) = -1 := by
  obtain ⟨h2, h3⟩ := idO_ok mo (by omega) h1
  have key : ¬ mst n mo dy x (idO mo + 1) = -1 := by
    obtain ⟨c, hc, e⟩ := cio_n n mo dy x (idO mo) mo
    have ev : vo n mo dy x (idO mo) = nI c := by unfold vo; rw [if_pos h2, e]
    show ¬ (if vo n mo dy x (idO mo) ≤ mst n mo dy x (idO mo) then mst n mo dy x (idO mo) else vo n mo dy x (idO mo)) = -1
    rw [ev]
    split
    · rename_i q
      intro q2
      rw [q2] at q
      exact absurd (Int32.le_trans (nI_pos' (by omega)) q) (by decide)
    · exact nI_m1 (by omega)
  have := mst_up hm key (4 ^ mo - (idO mo + 1))
  rwa [show idO mo + 1 + (4 ^ mo - (idO mo + 1)) = 4 ^ mo by omega] at this
def sAgenda (z : Int32) (x : Nat → Int32) (n mo dy : Nat) (k : Int32) : Int32 := if z = 0 then -1000002 else if (k < -1 ∨ ¬ k ≤ 3) then -1000001 else if nI mo ≤ k then -1000000 else if 0 ≤ k then dg (bst n mo dy x (4 ^ mo)) k (nI mo) else mst n mo dy x (4 ^ mo)
section
variable {g gm : Nat → Int32} {T A Am : Nat → Nat → Int32} {h : am_H} {n mo dy : Nat}
set_option maxRecDepth 10000 in
theorem x2_isOrdL {ord : Nat} (hm : mo < 5) (ho : ord < 256) : ∀ q i, i + q = mo → rn none 1 am_t_X2_isOrder (4, [some (.int (nI ord)), some (.int (nI mo)), some (.int (sn ord mo i)), some (.int (nI i))], [], h) (some (.int (if allB ord mo mo = true then 1 else 0))) h
  | 0, i, hi => by
    have hin : i = mo := by omega
    subst hin
    have d5 := D5 i hm ord ho
    refine rn_go 80 (by with_unfolding_all rfl) ?_
    refine rn_br (by with_unfolding_all rfl) (fun _ => ?_) (fun c_ => absurd (Int32.le_refl _) c_)
    refine rn_go 80 (by with_unfolding_all rfl) ?_
    refine rn_br (by with_unfolding_all rfl) (fun c => ?_) (fun c => ?_)
    · rw [decide_eq_true c] at d5
      rw [if_pos d5.symm]
      refine rn_go 80 (by with_unfolding_all rfl) ?_
      exact rn_rt (by with_unfolding_all rfl) (Or.inr rfl) (rfl) (rfl)
    · rw [decide_eq_false c] at d5
      rw [← d5]
      refine rn_go 80 (by with_unfolding_all rfl) ?_
      exact rn_rt (by with_unfolding_all rfl) (Or.inl rfl) (rfl) (rfl)
  | q + 1, i, hi => by
    have ih := x2_isOrdL hm ho q (i + 1) (by omega)
    rw [← nI_1] at ih
    refine rn_go 80 (by with_unfolding_all rfl) ?_
    refine rn_br (by with_unfolding_all rfl) (fun c_ => absurd c_ (nI_ge (show i < mo by omega) (by omega))) (fun _ => ?_)
    refine rn_go 80 (by with_unfolding_all rfl) ?_
    refine rn_cl (by with_unfolding_all rfl) (ev_up (by decide) (x2_digit _ _ _)) ?_
    rw [D4 hm (by omega) (by omega)]
    refine rn_to 4 80 (by with_unfolding_all rfl) ?_
    with_unfolding_all exact ih
set_option maxRecDepth 10000 in
theorem x2_isOrder {ord : Nat} (hm : mo < 5) (ho : ord < 256) : am_ev 2 26 [.int (nI ord), .int (nI mo)] h (some (.int (if allB ord mo mo = true then 1 else 0))) h := by
  refine rn_ev am_m_X2_isOrder rfl rfl ?_
  refine rn_to 4 80 (by with_unfolding_all rfl) ?_
  with_unfolding_all exact x2_isOrdL hm ho mo 0 (by omega)
set_option maxRecDepth 10000 in
theorem x2_cioL {ord : Nat} (hm : mo < 5) (ho : ord < 256) {y a : Nat → Int32} (ha : ∀ i, i < mo → a i = sd n mo dy (T 0) i) : ∀ q i, i + q = mo → rn none 1 am_t_X2_carriedInOrder (5, [some (.ref 34), some (.int (nI ord)), some (.int (nI mo)), some (.int (cio n mo dy (T 0) ord i)), some (.int (nI i))], [], wd g (tu T 1 y) (tu A 5 a) gm Am) (some (.int (cio n mo dy (T 0) ord mo))) (wd g (tu T 1 y) (tu A 5 a) gm Am)
  | 0, i, hi => by
    have hin : i = mo := by omega
    subst hin
    refine rn_go 80 (by with_unfolding_all rfl) ?_
    refine rn_br (by with_unfolding_all rfl) (fun _ => ?_) (fun c_ => absurd (Int32.le_refl _) c_)
    refine rn_go 80 (by with_unfolding_all rfl) ?_
    exact rn_rt (by with_unfolding_all rfl) trivial rfl rfl
  | q + 1, i, hi => by
    have ih := x2_cioL (y := y) hm ho ha q (i + 1) (by omega)
    rw [← nI_1] at ih
    have hd4 := dn_lt ord i mo
    refine rn_go 80 (by with_unfolding_all rfl) ?_
    refine rn_br (by with_unfolding_all rfl) (fun c_ => absurd c_ (nI_ge (show i < mo by omega) (by omega))) (fun _ => ?_)
    refine rn_go 80 (by with_unfolding_all rfl) ?_
    refine rn_ld (i) (by with_unfolding_all rfl) rfl (by omega) (by decide) ?_
    rw [tu_s, ha i (by omega)]
    refine rn_go 80 (by with_unfolding_all rfl) ?_
    refine rn_cl (by with_unfolding_all rfl) (ev_up (by decide) (x2_digit _ _ _)) ?_
    rw [D4 hm (by omega) (by omega)]
    refine rn_go 80 (by with_unfolding_all rfl) ?_
    refine rn_ld (dn ord i mo) (by with_unfolding_all rfl) rfl (by omega) (by decide) ?_
    rw [wa_at hd4, tu_n (by decide)]
    refine rn_go 80 (by with_unfolding_all rfl) ?_
    refine rn_br (by with_unfolding_all rfl) (fun c => ?_) (fun c => ?_)
    · refine rn_to 5 80 (by with_unfolding_all rfl) ?_
      rw [show cio n mo dy (T 0) ord (i + 1) = cio n mo dy (T 0) ord i by simp only [cio]; rw [if_pos c]] at ih
      with_unfolding_all exact ih
    · refine rn_to 5 80 (by with_unfolding_all rfl) ?_
      rw [show cio n mo dy (T 0) ord (i + 1) = cio n mo dy (T 0) ord i + 1 by simp only [cio]; rw [if_neg c]] at ih
      with_unfolding_all exact ih
set_option maxRecDepth 10000 in
theorem x2_cio {ord : Nat} (hm : mo < 5) (ho : ord < 256) {y a : Nat → Int32} (ha : ∀ i, i < mo → a i = sd n mo dy (T 0) i) : am_ev 2 27 [.ref 34, .int (nI ord), .int (nI mo)] (wd g (tu T 1 y) (tu A 5 a) gm Am) (some (.int (cio n mo dy (T 0) ord mo))) (wd g (tu T 1 y) (tu A 5 a) gm Am) := by
  refine rn_ev am_m_X2_carriedInOrder rfl rfl ?_
  refine rn_to 5 80 (by with_unfolding_all rfl) ?_
  with_unfolding_all exact x2_cioL hm ho ha mo 0 (by omega)
set_option maxRecDepth 10000 in
theorem x2_agL (hX : okX (T 0) n mo dy) {K : Int32} {y a : Nat → Int32} (ha : ∀ i, i < mo → a i = sd n mo dy (T 0) i) : ∀ q k, k + q = 4 ^ mo → ∀ o, rn none 6 am_t_X2_bestAgenda (86, [some (.ref 34), some (.int K), some (.int (nI mo)), some (.int (bst n mo dy (T 0) k)), some (.int (mst n mo dy (T 0) k)), some (.int (nI k)), o], [], wd g (tu T 1 y) (tu A 5 a) gm Am) (some (.int (if 0 ≤ K then dg (bst n mo dy (T 0) (4 ^ mo)) K (nI mo) else mst n mo dy (T 0) (4 ^ mo)))) (wd g (tu T 1 y) (tu A 5 a) gm Am)
  | 0, k, hk, o => by
    have hin : k = 4 ^ mo := by omega
    have m4 := hX.2.2.2.2.2.1
    rw [← hin]
    refine rn_go 80 (by with_unfolding_all rfl) ?_
    refine rn_br (by with_unfolding_all rfl) (fun _ => ?_) (fun c_ => absurd ((by rw [shn2 mo (by omega), hin]; exact Int32.le_refl _)) c_)
    refine rn_go 80 (by with_unfolding_all rfl) ?_
    refine rn_br (by with_unfolding_all rfl) (fun c => ?_) (fun c => ?_)
    · rw [if_pos c]
      refine rn_go 80 (by with_unfolding_all rfl) ?_
      refine rn_cl (by with_unfolding_all rfl) (ev_up (by decide) (x2_digit _ _ _)) ?_
      refine rn_go 80 (by with_unfolding_all rfl) ?_
      exact rn_rt (by with_unfolding_all rfl) trivial rfl rfl
    · rw [if_neg c]
      refine rn_go 80 (by with_unfolding_all rfl) ?_
      exact rn_rt (by with_unfolding_all rfl) trivial rfl rfl
  | q + 1, k, hk, o => by
    have m4 := hX.2.2.2.2.2.1
    have p4 : 4 ^ mo ≤ 4 ^ 4 := Nat.pow_le_pow_right (by decide) m4
    have ih := x2_agL hX (K := K) (y := y) ha q (k + 1) (by omega)
    rw [← nI_1] at ih
    have tail : rn none 6 am_t_X2_bestAgenda (118, [some (.ref 34), some (.int K), some (.int (nI mo)), some (.int (bst n mo dy (T 0) k)), some (.int (mst n mo dy (T 0) k)), some (.int (nI k)), some (.int (vo n mo dy (T 0) k))], [], wd g (tu T 1 y) (tu A 5 a) gm Am) (some (.int (if 0 ≤ K then dg (bst n mo dy (T 0) (4 ^ mo)) K (nI mo) else mst n mo dy (T 0) (4 ^ mo)))) (wd g (tu T 1 y) (tu A 5 a) gm Am) := by
      refine rn_go 80 (by with_unfolding_all rfl) ?_
      refine rn_br (by with_unfolding_all rfl) (fun c => ?_) (fun c => ?_)
      · refine rn_to 86 80 (by with_unfolding_all rfl) ?_
        have ih := ih (some (.int (vo n mo dy (T 0) k)))
        rw [show mst n mo dy (T 0) (k + 1) = mst n mo dy (T 0) k by simp only [mst]; rw [if_pos c], show bst n mo dy (T 0) (k + 1) = bst n mo dy (T 0) k by simp only [bst]; rw [if_pos c]] at ih
        with_unfolding_all exact ih
      · refine rn_to 86 80 (by with_unfolding_all rfl) ?_
        have ih := ih (some (.int (vo n mo dy (T 0) k)))
        rw [show mst n mo dy (T 0) (k + 1) = vo n mo dy (T 0) k by simp only [mst]; rw [if_neg c], show bst n mo dy (T 0) (k + 1) = nI k by simp only [bst]; rw [if_neg c]] at ih
        with_unfolding_all exact ih
    refine rn_go 80 (by with_unfolding_all rfl) ?_
    refine rn_br (by with_unfolding_all rfl) (fun c_ => absurd c_ ((by rw [shn2 mo (by omega)]; exact nI_ge (show k < 4 ^ mo by omega) (by omega)))) (fun _ => ?_)
    refine rn_go 80 (by with_unfolding_all rfl) ?_
    refine rn_cl (by with_unfolding_all rfl) (ev_up (by decide) (x2_isOrder (mo := mo) (by omega) (show k < 256 by omega))) ?_
    refine rn_go 80 (by with_unfolding_all rfl) ?_
    by_cases c : allB k mo mo = true
    · refine rn_br (by with_unfolding_all rfl) (fun c_ => absurd c_ ((by rw [if_pos c]; decide))) (fun _ => ?_)
      refine rn_go 80 (by with_unfolding_all rfl) ?_
      refine rn_cl (by with_unfolding_all rfl) (ev_up (by decide) (x2_cio (by omega) (by omega) ha)) ?_
      refine rn_to 118 80 (by with_unfolding_all rfl) ?_
      rw [show cio n mo dy (T 0) k mo = vo n mo dy (T 0) k by unfold vo; rw [if_pos c]]
      with_unfolding_all exact tail
    · refine rn_br (by with_unfolding_all rfl) (fun _ => ?_) (fun c_ => absurd ((by rw [if_neg c])) c_)
      refine rn_to 118 80 (by with_unfolding_all rfl) ?_
      rw [show (-1 : Int32) = vo n mo dy (T 0) k by unfold vo; rw [if_neg c]]
      with_unfolding_all exact tail
set_option maxRecDepth 10000 in
theorem x2_sdL (hX : okX (T 0) n mo dy) (hdy : dy ≤ 999) {K : Int32} : ∀ q i, i + q = mo → ∀ o o5 o6, ∃ y a, rn none 6 am_t_X2_bestAgenda (29, [some (.ref 34), some (.int K), some (.int (nI mo)), some (.int (nI i)), o, o5, o6], [], wd g (tu T 1 (dys all n mo dy (T 0) i)) (tu A 5 (fl (A 5) (sd n mo dy (T 0)) i)) gm Am) (some (.int (if 0 ≤ K then dg (bst n mo dy (T 0) (4 ^ mo)) K (nI mo) else mst n mo dy (T 0) (4 ^ mo)))) (wd g (tu T 1 y) (tu A 5 a) gm Am)
  | 0, i, hi, o, o5, o6 => by
    have hin : i = mo := by omega
    subst hin
    refine ⟨dys all n i dy (T 0) i, fl (A 5) (sd n i dy (T 0)) i, ?_⟩
    refine rn_go 80 (by with_unfolding_all rfl) ?_
    refine rn_br (by with_unfolding_all rfl) (fun _ => ?_) (fun c_ => absurd (Int32.le_refl _) c_)
    refine rn_to 86 80 (by with_unfolding_all rfl) ?_
    with_unfolding_all exact x2_agL hX (K := K) (fun j hj => by unfold fl; rw [if_pos hj]) (4 ^ i) 0 (by omega) _
  | q + 1, i, hi, o, o5, o6 => by
    have m4 := hX.2.2.2.2.2.1
    have hXi := ox_dys sf_all hX i (by omega)
    obtain ⟨y, a, ih⟩ := x2_sdL hX hdy (K := K) q (i + 1) (by omega) (some (.int (ta (dys all n mo dy (T 0) i) n))) o5 o6
    rw [← nI_1, ← fl_s] at ih
    refine ⟨y, a, ?_⟩
    refine rn_go 80 (by with_unfolding_all rfl) ?_
    refine rn_br (by with_unfolding_all rfl) (fun c_ => absurd c_ (nI_ge (show i < mo by omega) (by omega))) (fun _ => ?_)
    refine rn_go 80 (by with_unfolding_all rfl) ?_
    refine rn_cl (by with_unfolding_all rfl) (ev_up (by decide) (xk_able hXi)) ?_
    refine rn_go 80 (by with_unfolding_all rfl) ?_
    refine rn_cl (by with_unfolding_all rfl) (ev_up (by decide) (xk_weighsSet hXi _ _)) ?_
    refine rn_go 80 (by with_unfolding_all rfl) ?_
    refine rn_st (i) (by with_unfolding_all rfl) rfl (by omega) (by decide) ?_
    refine rn_hp (by with_unfolding_all exact (wA_5)) ?_
    rw [tu_tu, tu_s]
    refine rn_go 80 (by with_unfolding_all rfl) ?_
    refine rn_cl (by with_unfolding_all rfl) (ev_up (by decide) (xk_pass hXi _ _)) ?_
    refine rn_to 29 80 (by with_unfolding_all rfl) ?_
    with_unfolding_all exact ih
set_option maxRecDepth 10000 in
theorem x8_agenda (hb : g 11 = 0 ∨ g 11 = 1) (hX : g 11 = 0 ∨ okX (T 0) n mo dy) (hdy : dy ≤ 999) (K : Int32) : ∃ g' t' a', (∀ k, k ≠ 12 → g' k = g k) ∧ am_ev 12 111 [.ref 0, .int K] (wd g T A gm Am) (some (.int (sAgenda (g 11) (T 0) n mo dy K))) (wd g' (tu T 1 t') (tu A 5 a') gm Am) := by
  unfold sAgenda
  by_cases q1 : g 11 = 0
  · rw [if_pos q1]
    refine ⟨g, T 1, A 5, fun _ _ => rfl, ?_⟩
    rw [tu_id, tu_id]
    refine rn_ev am_m_X8_agenda rfl rfl ?_
    refine rn_go 80 (by with_unfolding_all rfl) ?_
    refine rn_br (by with_unfolding_all rfl) (fun _ => ?_) (fun c_ => absurd (q1) c_)
    refine rn_go 80 (by with_unfolding_all rfl) ?_
    exact rn_rt (by with_unfolding_all rfl) trivial rfl rfl
  rw [if_neg q1]
  have hX := hX.resolve_left q1
  by_cases hq : (K < -1 ∨ ¬ K ≤ 3)
  · rw [if_pos hq]
    refine ⟨g, T 1, A 5, fun _ _ => rfl, ?_⟩
    rw [tu_id, tu_id]
    refine rn_ev am_m_X8_agenda rfl rfl ?_
    refine rn_go 80 (by with_unfolding_all rfl) ?_
    refine rn_br (by with_unfolding_all rfl) (fun c_ => absurd c_ (q1)) (fun _ => ?_)
    refine rn_go 80 (by with_unfolding_all rfl) ?_
    refine rn_cl (by with_unfolding_all rfl) (ev_up (by decide) (x8_isPick K)) ?_
    refine rn_go 80 (by with_unfolding_all rfl) ?_
    refine rn_br (by with_unfolding_all rfl) (fun c5 => ?_) (fun c5 => ?_)
    · refine rn_go 80 (by with_unfolding_all rfl) ?_
      exact rn_rt (by with_unfolding_all rfl) trivial rfl rfl
    exfalso
    have c5 := btw_f c5
    rcases hq with q | q
    · exact c5.1 q
    · exact q c5.2
  rw [if_neg hq]
  have q2 : ¬ K < -1 := fun q => hq (Or.inl q)
  have q3 : K ≤ 3 := Classical.not_not.mp (fun q => hq (Or.inr q))
  by_cases q4 : nI mo ≤ K
  · rw [if_pos q4]
    refine ⟨g, T 1, A 5, fun _ _ => rfl, ?_⟩
    rw [tu_id, tu_id]
    have key : am_ev 8 24 [.ref 34, .int K] (wd g T A gm Am) (some (.int (-1000000))) (wd g T A gm Am) := by
      refine rn_ev am_m_X2_bestAgenda rfl rfl ?_
      refine rn_go 80 (by with_unfolding_all rfl) ?_
      refine rn_br (by with_unfolding_all rfl) (fun c_ => absurd c_ ((by rw [hX.2.2.2.1]; exact Int32.not_lt.mpr q4))) (fun _ => ?_)
      refine rn_go 80 (by with_unfolding_all rfl) ?_
      exact rn_rt (by with_unfolding_all rfl) trivial rfl rfl
    refine rn_ev am_m_X8_agenda rfl rfl ?_
    refine rn_go 80 (by with_unfolding_all rfl) ?_
    refine rn_br (by with_unfolding_all rfl) (fun c_ => absurd c_ (q1)) (fun _ => ?_)
    refine rn_go 80 (by with_unfolding_all rfl) ?_
    refine rn_cl (by with_unfolding_all rfl) (ev_up (by decide) (x8_isPick K)) ?_
    refine rn_go 80 (by with_unfolding_all rfl) ?_
    refine rn_br (by with_unfolding_all rfl) (fun c_ => absurd c_ (btw_t q2 q3)) (fun _ => ?_)
    refine rn_go 80 (by with_unfolding_all rfl) ?_
    refine rn_cl (by with_unfolding_all rfl) (ev_up (by decide) (key)) ?_
    refine rn_go 80 (by with_unfolding_all rfl) ?_
    exact rn_rt (by with_unfolding_all rfl) trivial rfl rfl
  · rw [if_neg q4]
    obtain ⟨y, a, hrun⟩ := x2_sdL (g := upd g 12 (g 11)) (A := A) (gm := gm) (Am := Am) hX hdy (K := K) mo 0 (by omega) none none none
    rw [fl_0, tu_id (T := A)] at hrun
    refine ⟨upd g 12 (g 11), y, a, fun j hj => up_ne hj, ?_⟩
    have key : am_ev 8 24 [.ref 34, .int K] (wd g T A gm Am) (some (.int (if 0 ≤ K then dg (bst n mo dy (T 0) (4 ^ mo)) K (nI mo) else mst n mo dy (T 0) (4 ^ mo)))) (wd (upd g 12 (g 11)) (tu T 1 y) (tu A 5 a) gm Am) := by
      refine rn_ev am_m_X2_bestAgenda rfl rfl ?_
      refine rn_go 80 (by with_unfolding_all rfl) ?_
      rw [hX.2.2.2.1]
      refine rn_br (by with_unfolding_all rfl) (fun _ => ?_) (fun c_ => absurd ((Int32.not_le.mp q4)) c_)
      refine rn_go 80 (by with_unfolding_all rfl) ?_
      refine rn_cl (by with_unfolding_all rfl) (ev_up (by decide) (xh_become_1_0 hb)) ?_
      refine rn_to 29 80 (by with_unfolding_all rfl) ?_
      refine rn_of_le (d := 6) (by decide) ?_
      with_unfolding_all exact hrun
    refine rn_ev am_m_X8_agenda rfl rfl ?_
    refine rn_go 80 (by with_unfolding_all rfl) ?_
    refine rn_br (by with_unfolding_all rfl) (fun c_ => absurd c_ (q1)) (fun _ => ?_)
    refine rn_go 80 (by with_unfolding_all rfl) ?_
    refine rn_cl (by with_unfolding_all rfl) (ev_up (by decide) (x8_isPick K)) ?_
    refine rn_go 80 (by with_unfolding_all rfl) ?_
    refine rn_br (by with_unfolding_all rfl) (fun c_ => absurd c_ (btw_t q2 q3)) (fun _ => ?_)
    refine rn_go 80 (by with_unfolding_all rfl) ?_
    refine rn_cl (by with_unfolding_all rfl) (ev_up (by decide) (key)) ?_
    refine rn_go 80 (by with_unfolding_all rfl) ?_
    exact rn_rt (by with_unfolding_all rfl) trivial rfl rfl
end

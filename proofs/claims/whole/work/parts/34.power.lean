/-! what power each has -/
section
variable {h : am_H}
set_option maxRecDepth 10000 in
theorem x2_ord0 : am_ev 1 22 [.int (nI 0)] h (some (.int (fo 0))) h := by
  refine rn_ev am_m_X2_ordersOf rfl rfl ?_
  refine rn_go 80 (by with_unfolding_all rfl) ?_
  refine rn_br (by with_unfolding_all rfl) (fun _ => ?_) (fun c_ => absurd ((by decide)) c_)
  refine rn_go 80 (by with_unfolding_all rfl) ?_
  exact rn_rt (by with_unfolding_all rfl) (trivial) (by with_unfolding_all rfl) (rfl)
set_option maxRecDepth 10000 in
theorem xm_fac0 : am_ev 1 189 [.int (nI 0)] h (some (.int (fo 0))) h := by
  refine rn_ev am_m_X9_factorial rfl rfl ?_
  refine rn_go 80 (by with_unfolding_all rfl) ?_
  refine rn_br (by with_unfolding_all rfl) (fun _ => ?_) (fun c_ => absurd ((by decide)) c_)
  refine rn_go 80 (by with_unfolding_all rfl) ?_
  exact rn_rt (by with_unfolding_all rfl) (trivial) (by with_unfolding_all rfl) (rfl)
set_option maxRecDepth 10000 in
theorem x2_ord1 : am_ev 1 22 [.int (nI 1)] h (some (.int (fo 1))) h := by
  refine rn_ev am_m_X2_ordersOf rfl rfl ?_
  refine rn_go 80 (by with_unfolding_all rfl) ?_
  refine rn_br (by with_unfolding_all rfl) (fun _ => ?_) (fun c_ => absurd ((by decide)) c_)
  refine rn_go 80 (by with_unfolding_all rfl) ?_
  exact rn_rt (by with_unfolding_all rfl) (trivial) (by with_unfolding_all rfl) (rfl)
set_option maxRecDepth 10000 in
theorem xm_fac1 : am_ev 1 189 [.int (nI 1)] h (some (.int (fo 1))) h := by
  refine rn_ev am_m_X9_factorial rfl rfl ?_
  refine rn_go 80 (by with_unfolding_all rfl) ?_
  refine rn_br (by with_unfolding_all rfl) (fun _ => ?_) (fun c_ => absurd ((by decide)) c_)
  refine rn_go 80 (by with_unfolding_all rfl) ?_
  exact rn_rt (by with_unfolding_all rfl) (trivial) (by with_unfolding_all rfl) (rfl)
set_option maxRecDepth 10000 in
theorem x2_ord2 : am_ev 1 22 [.int (nI 2)] h (some (.int (fo 2))) h := by
  refine rn_ev am_m_X2_ordersOf rfl rfl ?_
  refine rn_go 80 (by with_unfolding_all rfl) ?_
  refine rn_br (by with_unfolding_all rfl) (fun c_ => absurd c_ ((by decide))) (fun _ => ?_)
  refine rn_go 80 (by with_unfolding_all rfl) ?_
  refine rn_br (by with_unfolding_all rfl) (fun c_ => absurd c_ ((by decide))) (fun _ => ?_)
  refine rn_go 80 (by with_unfolding_all rfl) ?_
  refine rn_br (by with_unfolding_all rfl) (fun _ => ?_) (fun c_ => absurd ((by decide)) c_)
  refine rn_go 80 (by with_unfolding_all rfl) ?_
  exact rn_rt (by with_unfolding_all rfl) (trivial) (by with_unfolding_all rfl) (rfl)
set_option maxRecDepth 10000 in
theorem xm_fac2 : am_ev 1 189 [.int (nI 2)] h (some (.int (fo 2))) h := by
  refine rn_ev am_m_X9_factorial rfl rfl ?_
  refine rn_go 80 (by with_unfolding_all rfl) ?_
  refine rn_br (by with_unfolding_all rfl) (fun c_ => absurd c_ ((by decide))) (fun _ => ?_)
  refine rn_go 80 (by with_unfolding_all rfl) ?_
  refine rn_br (by with_unfolding_all rfl) (fun _ => ?_) (fun c_ => absurd ((by decide)) c_)
  refine rn_go 80 (by with_unfolding_all rfl) ?_
  exact rn_rt (by with_unfolding_all rfl) (trivial) (by with_unfolding_all rfl) (rfl)
set_option maxRecDepth 10000 in
theorem x2_ord3 : am_ev 1 22 [.int (nI 3)] h (some (.int (fo 3))) h := by
  refine rn_ev am_m_X2_ordersOf rfl rfl ?_
  refine rn_go 80 (by with_unfolding_all rfl) ?_
  refine rn_br (by with_unfolding_all rfl) (fun c_ => absurd c_ ((by decide))) (fun _ => ?_)
  refine rn_go 80 (by with_unfolding_all rfl) ?_
  refine rn_br (by with_unfolding_all rfl) (fun c_ => absurd c_ ((by decide))) (fun _ => ?_)
  refine rn_go 80 (by with_unfolding_all rfl) ?_
  refine rn_br (by with_unfolding_all rfl) (fun c_ => absurd c_ ((by decide))) (fun _ => ?_)
  refine rn_go 80 (by with_unfolding_all rfl) ?_
  refine rn_br (by with_unfolding_all rfl) (fun c_ => absurd c_ ((by decide))) (fun _ => ?_)
  refine rn_go 80 (by with_unfolding_all rfl) ?_
  refine rn_br (by with_unfolding_all rfl) (fun _ => ?_) (fun c_ => absurd ((by decide)) c_)
  refine rn_go 80 (by with_unfolding_all rfl) ?_
  exact rn_rt (by with_unfolding_all rfl) (trivial) (by with_unfolding_all rfl) (rfl)
set_option maxRecDepth 10000 in
theorem xm_fac3 : am_ev 1 189 [.int (nI 3)] h (some (.int (fo 3))) h := by
  refine rn_ev am_m_X9_factorial rfl rfl ?_
  refine rn_go 80 (by with_unfolding_all rfl) ?_
  refine rn_br (by with_unfolding_all rfl) (fun c_ => absurd c_ ((by decide))) (fun _ => ?_)
  refine rn_go 80 (by with_unfolding_all rfl) ?_
  refine rn_br (by with_unfolding_all rfl) (fun c_ => absurd c_ ((by decide))) (fun _ => ?_)
  refine rn_go 80 (by with_unfolding_all rfl) ?_
  refine rn_br (by with_unfolding_all rfl) (fun _ => ?_) (fun c_ => absurd ((by decide)) c_)
  refine rn_go 80 (by with_unfolding_all rfl) ?_
  exact rn_rt (by with_unfolding_all rfl) (trivial) (by with_unfolding_all rfl) (rfl)
set_option maxRecDepth 10000 in
theorem x2_ord4 : am_ev 1 22 [.int (nI 4)] h (some (.int (fo 4))) h := by
  refine rn_ev am_m_X2_ordersOf rfl rfl ?_
  refine rn_go 80 (by with_unfolding_all rfl) ?_
  refine rn_br (by with_unfolding_all rfl) (fun c_ => absurd c_ ((by decide))) (fun _ => ?_)
  refine rn_go 80 (by with_unfolding_all rfl) ?_
  refine rn_br (by with_unfolding_all rfl) (fun c_ => absurd c_ ((by decide))) (fun _ => ?_)
  refine rn_go 80 (by with_unfolding_all rfl) ?_
  refine rn_br (by with_unfolding_all rfl) (fun c_ => absurd c_ ((by decide))) (fun _ => ?_)
  refine rn_go 80 (by with_unfolding_all rfl) ?_
  refine rn_br (by with_unfolding_all rfl) (fun c_ => absurd c_ ((by decide))) (fun _ => ?_)
  refine rn_go 80 (by with_unfolding_all rfl) ?_
  refine rn_br (by with_unfolding_all rfl) (fun c_ => absurd c_ ((by decide))) (fun _ => ?_)
  refine rn_go 80 (by with_unfolding_all rfl) ?_
  refine rn_br (by with_unfolding_all rfl) (fun c_ => absurd c_ ((by decide))) (fun _ => ?_)
  refine rn_go 80 (by with_unfolding_all rfl) ?_
  refine rn_br (by with_unfolding_all rfl) (fun _ => ?_) (fun c_ => absurd ((by decide)) c_)
  refine rn_go 80 (by with_unfolding_all rfl) ?_
  exact rn_rt (by with_unfolding_all rfl) (trivial) (by with_unfolding_all rfl) (rfl)
set_option maxRecDepth 10000 in
theorem xm_fac4 : am_ev 1 189 [.int (nI 4)] h (some (.int (fo 4))) h := by
  refine rn_ev am_m_X9_factorial rfl rfl ?_
  refine rn_go 80 (by with_unfolding_all rfl) ?_
  refine rn_br (by with_unfolding_all rfl) (fun c_ => absurd c_ ((by decide))) (fun _ => ?_)
  refine rn_go 80 (by with_unfolding_all rfl) ?_
  refine rn_br (by with_unfolding_all rfl) (fun c_ => absurd c_ ((by decide))) (fun _ => ?_)
  refine rn_go 80 (by with_unfolding_all rfl) ?_
  refine rn_br (by with_unfolding_all rfl) (fun c_ => absurd c_ ((by decide))) (fun _ => ?_)
  refine rn_go 80 (by with_unfolding_all rfl) ?_
  refine rn_br (by with_unfolding_all rfl) (fun _ => ?_) (fun c_ => absurd ((by decide)) c_)
  refine rn_go 80 (by with_unfolding_all rfl) ?_
  exact rn_rt (by with_unfolding_all rfl) (trivial) (by with_unfolding_all rfl) (rfl)
set_option maxRecDepth 10000 in
theorem x2_orders : ∀ {j : Nat}, j ≤ 4 → am_ev 1 22 [.int (nI j)] h (some (.int (fo j))) h
  | 0, _ => x2_ord0
  | 1, _ => x2_ord1
  | 2, _ => x2_ord2
  | 3, _ => x2_ord3
  | 4, _ => x2_ord4
  | _ + 5, q => absurd q (by omega)
set_option maxRecDepth 10000 in
theorem xm_fac : ∀ {j : Nat}, j ≤ 4 → am_ev 1 189 [.int (nI j)] h (some (.int (fo j))) h
  | 0, _ => xm_fac0
  | 1, _ => xm_fac1
  | 2, _ => xm_fac2
  | 3, _ => xm_fac3
  | 4, _ => xm_fac4
  | _ + 5, q => absurd q (by omega)
end
set_option maxRecDepth 10000 in
theorem sub3 {a b : Nat} (h : b + 1 ≤ a) : nI a - 1 - nI b = nI (a - 1 - b) := by
  rw [show (1 : Int32) = nI 1 from rfl, pk_sub (by omega), pk_sub (by omega)]
def pw (x : Nat → Int32) (a nd own : Int32) (n p aN : Nat) : Nat → Int32
  | 0 => 0
  | k + 1 => if nI k &&& (a ^^^ -1) = 0 then (if tb (nI k) p = 0 then (if nd ≤ ts x (nI k) a n then pw x a nd own n p aN k else if ts x (nI k) a n + own < nd then pw x a nd own n p aN k else pw x a nd own n p aN k + fo (bcn k) * fo (bcn aN - 1 - bcn k)) else pw x a nd own n p aN k) else pw x a nd own n p aN k
set_option maxRecDepth 10000 in
theorem pw_n (x : Nat → Int32) (a nd own : Int32) (n p aN : Nat) : ∀ k, ∃ q : Nat, q ≤ k * 576 ∧ pw x a nd own n p aN k = nI q
  | 0 => ⟨0, by omega, rfl⟩
  | k + 1 => by
    obtain ⟨q, hq, e⟩ := pw_n x a nd own n p aN k
    have ih : ∃ q : Nat, q ≤ (k + 1) * 576 ∧ pw x a nd own n p aN k = nI q := ⟨q, by omega, e⟩
    unfold pw
    split
    · split
      · split
        · exact ih
        · split
          · exact ih
          · obtain ⟨u, hu1, hu2, eu⟩ := fo_n (bcn k)
            obtain ⟨v, hv1, hv2, ev⟩ := fo_n (bcn aN - 1 - bcn k)
            refine ⟨q + u * v, ?_, by rw [e, eu, ev, pk_mul, nI_add]⟩
            have := Nat.mul_le_mul hu2 hv2
            omega
      · exact ih
    · exact ih
def sPower (x : Nat → Int32) (n mo dy : Nat) (p w : Int32) : Int32 := if (hm x p = 0 ∨ ie w = 0) then -1000001 else if tb (ta x n) p.toNatClampNeg = 0 then w else lwI (pw x (ta x n) (tn x dy mo) (tw x p.toNatClampNeg (ta x n)) n p.toNatClampNeg (ta x n).toNatClampNeg 16) (fo (bcn (ta x n).toNatClampNeg)) w
set_option maxRecDepth 10000 in
theorem lw01 {w : Int32} (h : w = 0 ∨ w = 1) : lwI (nI 0) (nI 1) w = w := by
  rcases h with e | e <;> subst e <;> decide +kernel
set_option maxRecDepth 10000 in
theorem ta16 {x : Nat → Int32} {n : Nat} (hn : n ≤ 4) : ∃ a, a < 16 ∧ ta x n = nI a := by
  obtain ⟨k, hk, e⟩ := ta_lt x n hn
  exact ⟨k, Nat.lt_of_lt_of_le hk (Nat.pow_le_pow_right (by decide) hn), e⟩
section
variable {g gm : Nat → Int32} {T A Am : Nat → Nat → Int32} {h : am_H} {n mo dy : Nat}
set_option maxRecDepth 10000 in
theorem x2_pwL {p aN : Nat} (hX : okX (T 0) n mo dy) (hp : p < n) (ha : aN < 16) (hap : ¬ tb (nI aN) p = 0) (w nd own : Int32) : ∀ q k, k + q = 16 → ∀ o10 o11, rn none 5 am_t_X2_powerOf (59, [some (.ref 34), some (.int (nI p)), some (.int w), some (.int (nI aN)), some (.int (1 <<< (nI p &&& 31))), some (.int nd), some (.int own), some (.int (nI (bcn aN))), some (.int (pw (T 0) (nI aN) nd own n p aN k)), some (.int (nI k)), o10, o11], [], wd g T A gm Am) (some (.int (lwI (pw (T 0) (nI aN) nd own n p aN 16) (fo (bcn aN)) w))) (wd g T A gm Am)
  | 0, k, hk, o10, o11 => by
    have hin : k = 16 := by omega
    subst hin
    obtain ⟨u, hu, eu⟩ := pw_n (T 0) (nI aN) nd own n p aN 16
    obtain ⟨v, hv1, hv2, ev⟩ := fo_n (bcn aN)
    refine rn_go 80 (by with_unfolding_all rfl) ?_
    refine rn_br (by with_unfolding_all rfl) (fun _ => ?_) (fun c_ => absurd ((by decide)) c_)
    refine rn_go 80 (by with_unfolding_all rfl) ?_
    refine rn_cl (by with_unfolding_all rfl) (ev_up (by decide) (x2_orders (bcn4 aN ha))) ?_
    refine rn_go 80 (by with_unfolding_all rfl) ?_
    rw [eu, ev]
    refine rn_cl (by with_unfolding_all rfl) (ev_up (by decide) (x8_lowest (by omega) (by omega) (by omega) w)) ?_
    refine rn_go 80 (by with_unfolding_all rfl) ?_
    exact rn_rt (by with_unfolding_all rfl) trivial rfl rfl
  | q + 1, k, hk, o10, o11 => by
    have ih := x2_pwL hX hp ha hap w nd own q (k + 1) (by omega)
    rw [← nI_1] at ih
    have h4 := hX.2.2.1
    refine rn_go 80 (by with_unfolding_all rfl) ?_
    refine rn_br (by with_unfolding_all rfl) (fun c_ => absurd c_ ((show ¬ nI 16 ≤ nI k from nI_ge (by omega) (by omega)))) (fun _ => ?_)
    refine rn_go 80 (by with_unfolding_all rfl) ?_
    by_cases c : nI k &&& (nI aN ^^^ -1) = 0 ∧ tb (nI k) p = 0
    · refine rn_br (by with_unfolding_all rfl) (fun _ => ?_) (fun c_ => absurd ((D1 aN ha p (by omega) k (by omega)).mpr c) c_)
      refine rn_go 80 (by with_unfolding_all rfl) ?_
      refine rn_cl (by with_unfolding_all rfl) (ev_up (by decide) (xh_weighsSet0 hX.2.1 hX.2.2.1 _ _)) ?_
      refine rn_go 80 (by with_unfolding_all rfl) ?_
      refine rn_br (by with_unfolding_all rfl) (fun c3 => ?_) (fun c3 => ?_)
      · refine rn_to 59 80 (by with_unfolding_all rfl) ?_
        rw [show pw (T 0) (nI aN) nd own n p aN (k + 1) = pw (T 0) (nI aN) nd own n p aN k by simp only [pw]; rw [if_pos c.1, if_pos c.2, if_pos c3]] at ih
        with_unfolding_all exact ih _ _
      refine rn_go 80 (by with_unfolding_all rfl) ?_
      refine rn_br (by with_unfolding_all rfl) (fun c4 => ?_) (fun c4 => ?_)
      · refine rn_to 59 80 (by with_unfolding_all rfl) ?_
        rw [show pw (T 0) (nI aN) nd own n p aN (k + 1) = pw (T 0) (nI aN) nd own n p aN k by simp only [pw]; rw [if_pos c.1, if_pos c.2, if_neg c3, if_pos c4]] at ih
        with_unfolding_all exact ih _ _
      have d3 := D3 ha (show p < 4 by omega) (show k < 16 by omega) c.1 c.2 hap
      have b4 := bcn4 aN ha
      refine rn_go 80 (by with_unfolding_all rfl) ?_
      refine rn_cl (by with_unfolding_all rfl) (ev_up (by decide) (xj_bitCount _)) ?_
      rw [bc_n k (by omega)]
      refine rn_go 80 (by with_unfolding_all rfl) ?_
      refine rn_cl (by with_unfolding_all rfl) (ev_up (by decide) (xj_bitCount _)) ?_
      rw [bc_n k (by omega)]
      refine rn_go 80 (by with_unfolding_all rfl) ?_
      refine rn_cl (by with_unfolding_all rfl) (ev_up (by decide) (x2_orders (bcn4 k (by omega)))) ?_
      refine rn_go 80 (by with_unfolding_all rfl) ?_
      rw [sub3 d3.1]
      refine rn_cl (by with_unfolding_all rfl) (ev_up (by decide) (x2_orders (by omega))) ?_
      refine rn_to 59 80 (by with_unfolding_all rfl) ?_
      rw [show pw (T 0) (nI aN) nd own n p aN (k + 1) = pw (T 0) (nI aN) nd own n p aN k + fo (bcn k) * fo (bcn aN - 1 - bcn k) by simp only [pw]; rw [if_pos c.1, if_pos c.2, if_neg c3, if_neg c4]] at ih
      with_unfolding_all exact ih _ _
    · refine rn_br (by with_unfolding_all rfl) (fun c_ => absurd c_ ((fun q => c ((D1 aN ha p (by omega) k (by omega)).mp q)))) (fun _ => ?_)
      refine rn_to 59 80 (by with_unfolding_all rfl) ?_
      have e : pw (T 0) (nI aN) nd own n p aN (k + 1) = pw (T 0) (nI aN) nd own n p aN k := by
        simp only [pw]
        by_cases d1 : nI k &&& (nI aN ^^^ -1) = 0
        · rw [if_pos d1, if_neg (fun d2 => c ⟨d1, d2⟩)]
        · rw [if_neg d1]
      rw [e] at ih
      with_unfolding_all exact ih _ _
set_option maxRecDepth 10000 in
theorem x2_powerOf {p : Nat} (hX : okX (T 0) n mo dy) (hp : p < n) {w : Int32} (hw : w = 0 ∨ w = 1) : am_ev 6 21 [.ref 34, .int (nI p), .int w] (wd g T A gm Am) (some (.int (if tb (ta (T 0) n) p = 0 then w else lwI (pw (T 0) (ta (T 0) n) (tn (T 0) dy mo) (tw (T 0) p (ta (T 0) n)) n p (ta (T 0) n).toNatClampNeg 16) (fo (bcn (ta (T 0) n).toNatClampNeg)) w))) (wd g T A gm Am) := by
  have h4 := hX.2.2.1
  obtain ⟨aN, ha, e⟩ := ta16 (x := T 0) h4
  obtain ⟨h1, h2, h3, h4', h5, h6, h7, h8⟩ := hX
  have able := xh_ableSet0 (g := g) (A := A) (gm := gm) (Am := Am) h2 h3
  rw [e] at able ⊢
  rw [nI_clamp (show aN < 2 ^ 31 by omega)]
  refine rn_ev am_m_X2_powerOf rfl rfl ?_
  refine rn_go 80 (by with_unfolding_all rfl) ?_
  refine rn_cl (by with_unfolding_all rfl) (ev_up (by decide) (able)) ?_
  refine rn_go 80 (by with_unfolding_all rfl) ?_
  refine rn_br (by with_unfolding_all rfl) (fun c => ?_) (fun c => ?_)
  · rw [if_pos ((D2 aN ha p (by omega)).mp c)]
    refine rn_go 80 (by with_unfolding_all rfl) ?_
    refine rn_cl (by with_unfolding_all rfl) (ev_up (by decide) (x8_lowest (a := 0) (b := 1) (by decide) (by decide) (by decide) w)) ?_
    refine rn_go 80 (by with_unfolding_all rfl) ?_
    exact rn_rt (by with_unfolding_all rfl) (trivial) (by rw [lw01 hw]) (rfl)
  · have hap : ¬ tb (nI aN) p = 0 := fun q => c ((D2 aN ha p (by omega)).mpr q)
    rw [if_neg hap]
    refine rn_go 80 (by with_unfolding_all rfl) ?_
    refine rn_cl (by with_unfolding_all rfl) (ev_up (by decide) (xh_need0 h4' h5 h6 h7 h8)) ?_
    refine rn_go 80 (by with_unfolding_all rfl) ?_
    refine rn_cl (by with_unfolding_all rfl) (ev_up (by decide) (xh_weighs0 p (by omega) _)) ?_
    refine rn_go 80 (by with_unfolding_all rfl) ?_
    refine rn_cl (by with_unfolding_all rfl) (ev_up (by decide) (xj_bitCount _)) ?_
    rw [bc_n aN ha]
    refine rn_to 59 80 (by with_unfolding_all rfl) ?_
    with_unfolding_all exact x2_pwL ⟨h1, h2, h3, h4', h5, h6, h7, h8⟩ hp ha hap w _ _ 16 0 (by omega) none none
set_option maxRecDepth 10000 in
theorem x8_power (hn : T 0 1 = nI n) (hn4 : n ≤ 4) (hX : n = 0 ∨ okX (T 0) n mo dy) (p w : Int32) : am_ev 12 108 [.ref 0, .int p, .int w] (wd g T A gm Am) (some (.int (sPower (T 0) n mo dy p w))) (wd g T A gm Am) := by
  unfold sPower
  refine rn_ev am_m_X8_power rfl rfl ?_
  refine rn_go 80 (by with_unfolding_all rfl) ?_
  refine rn_cl (by with_unfolding_all rfl) (ev_up (by decide) (xh_hasMember p)) ?_
  refine rn_go 80 (by with_unfolding_all rfl) ?_
  refine rn_br (by with_unfolding_all rfl) (fun c => ?_) (fun c => ?_)
  · rw [if_pos (Or.inl c)]
    refine rn_go 80 (by with_unfolding_all rfl) ?_
    exact rn_rt (by with_unfolding_all rfl) trivial rfl rfl
  refine rn_go 80 (by with_unfolding_all rfl) ?_
  refine rn_cl (by with_unfolding_all rfl) (ev_up (by decide) (x8_isEither w)) ?_
  refine rn_go 80 (by with_unfolding_all rfl) ?_
  refine rn_br (by with_unfolding_all rfl) (fun c2 => ?_) (fun c2 => ?_)
  · rw [if_pos (Or.inr c2)]
    refine rn_go 80 (by with_unfolding_all rfl) ?_
    exact rn_rt (by with_unfolding_all rfl) trivial rfl rfl
  rw [if_neg (fun q => q.elim c c2)]
  obtain ⟨a, ha, rfl⟩ := hm_of hn hn4 c
  have hX := hX.resolve_left (by omega)
  rw [nI_clamp (show a < 2 ^ 31 by omega)]
  refine rn_go 80 (by with_unfolding_all rfl) ?_
  refine rn_cl (by with_unfolding_all rfl) (ev_up (by decide) (x2_powerOf hX ha (ie_of c2))) ?_
  refine rn_go 80 (by with_unfolding_all rfl) ?_
  exact rn_rt (by with_unfolding_all rfl) trivial rfl rfl
set_option maxRecDepth 10000 in
theorem xm_pwL {p aN : Nat} {x : Nat → Int32} (he : Eqv n mo x (tv (Am 0) 0)) (hX : okX x n mo dy) (hp : p < n) (ha : aN < 16) (hta : ta x n = nI aN) (hap : ¬ tb (nI aN) p = 0) (w nd own : Int32) (hown : own = tw x p (nI aN)) : ∀ q k, k + q = 16 → ∀ o7, rn none 11 am_t_X9_power (57, [some (.ref 43), some (.int (nI p)), some (.int w), some (.int (nI aN)), some (.int nd), some (.int (pw x (nI aN) nd own n p aN k)), some (.int (nI k)), o7], [], wd g T A gm Am) (some (.int (lwI (pw x (nI aN) nd own n p aN 16) (fo (bcn aN)) w))) (wd g T A gm Am)
  | 0, k, hk, o7 => by
    have hin : k = 16 := by omega
    subst hin
    obtain ⟨u, hu, eu⟩ := pw_n x (nI aN) nd own n p aN 16
    obtain ⟨v, hv1, hv2, ev⟩ := fo_n (bcn aN)
    refine rn_go 80 (by with_unfolding_all rfl) ?_
    refine rn_br (by with_unfolding_all rfl) (fun _ => ?_) (fun c_ => absurd ((by decide)) c_)
    refine rn_go 80 (by with_unfolding_all rfl) ?_
    refine rn_cl (by with_unfolding_all rfl) (ev_up (by decide) (xm_bits _)) ?_
    rw [mbs_bc aN ha, bc_n aN ha]
    refine rn_go 80 (by with_unfolding_all rfl) ?_
    refine rn_cl (by with_unfolding_all rfl) (ev_up (by decide) (xm_fac (bcn4 aN ha))) ?_
    refine rn_go 80 (by with_unfolding_all rfl) ?_
    rw [eu, ev]
    refine rn_cl (by with_unfolding_all rfl) (ev_up (by decide) (xm_tellPart (by omega) (by omega) (by omega) w)) ?_
    refine rn_go 80 (by with_unfolding_all rfl) ?_
    exact rn_rt (by with_unfolding_all rfl) trivial rfl rfl
  | q + 1, k, hk, o7 => by
    have ih := xm_pwL he hX hp ha hta hap w nd own hown q (k + 1) (by omega)
    rw [← nI_1] at ih
    have h4 := hX.2.2.1
    have wt := xy_weightOf (g := g) (T := T) (A := A) (gm := gm) he hX (nI k)
    have wh := xy_weighs (g := g) (T := T) (A := A) (gm := gm) he hX hp
    rw [hta] at wt wh
    rw [← hown] at wh
    have no : ∀ o, pw x (nI aN) nd own n p aN (k + 1) = pw x (nI aN) nd own n p aN k → rn none 11 am_t_X9_power (117, [some (.ref 43), some (.int (nI p)), some (.int w), some (.int (nI aN)), some (.int nd), some (.int (pw x (nI aN) nd own n p aN k)), some (.int (nI k)), o], [], wd g T A gm Am) (some (.int (lwI (pw x (nI aN) nd own n p aN 16) (fo (bcn aN)) w))) (wd g T A gm Am) := by
      intro o e
      rw [e] at ih
      refine rn_go 80 (by with_unfolding_all rfl) ?_
      refine rn_br (by with_unfolding_all rfl) (fun _ => ?_) (fun c_ => absurd (rfl) c_)
      refine rn_to 57 80 (by with_unfolding_all rfl) ?_
      rw [Int32.add_zero]
      with_unfolding_all exact ih _
    refine rn_go 80 (by with_unfolding_all rfl) ?_
    refine rn_br (by with_unfolding_all rfl) (fun c_ => absurd c_ ((show ¬ nI 16 ≤ nI k from nI_ge (by omega) (by omega)))) (fun _ => ?_)
    refine rn_go 80 (by with_unfolding_all rfl) ?_
    refine rn_br (by with_unfolding_all rfl) (fun c1 => ?_) (fun c1 => ?_)
    · refine rn_go 80 (by with_unfolding_all rfl) ?_
      refine rn_cl (by with_unfolding_all rfl) (ev_up (by decide) (xm_has (nI k) p)) ?_
      refine rn_go 80 (by with_unfolding_all rfl) ?_
      refine rn_br (by with_unfolding_all rfl) (fun c2 => ?_) (fun c2 => ?_)
      · refine rn_go 80 (by with_unfolding_all rfl) ?_
        refine rn_cl (by with_unfolding_all rfl) (ev_up (by decide) (wt)) ?_
        refine rn_go 80 (by with_unfolding_all rfl) ?_
        refine rn_br (by with_unfolding_all rfl) (fun c3 => ?_) (fun c3 => ?_)
        · with_unfolding_all exact no _ (by simp only [pw]; rw [if_pos c1, if_pos c2, if_pos c3])
        refine rn_go 80 (by with_unfolding_all rfl) ?_
        refine rn_cl (by with_unfolding_all rfl) (ev_up (by decide) (wt)) ?_
        refine rn_go 80 (by with_unfolding_all rfl) ?_
        refine rn_cl (by with_unfolding_all rfl) (ev_up (by decide) (wh)) ?_
        refine rn_go 80 (by with_unfolding_all rfl) ?_
        refine rn_br (by with_unfolding_all rfl) (fun c4 => ?_) (fun c4 => ?_)
        · with_unfolding_all exact no _ (by simp only [pw]; rw [if_pos c1, if_pos c2, if_neg c3, if_pos c4])
        have d3 := D3 ha (show p < 4 by omega) (show k < 16 by omega) c1 c2 hap
        have b4 := bcn4 aN ha
        refine rn_go 80 (by with_unfolding_all rfl) ?_
        refine rn_br (by with_unfolding_all rfl) (fun c_ => absurd c_ ((by decide))) (fun _ => ?_)
        refine rn_go 80 (by with_unfolding_all rfl) ?_
        refine rn_cl (by with_unfolding_all rfl) (ev_up (by decide) (xm_bits _)) ?_
        rw [mbs_bc k (by omega), bc_n k (by omega)]
        refine rn_go 80 (by with_unfolding_all rfl) ?_
        refine rn_cl (by with_unfolding_all rfl) (ev_up (by decide) (xm_fac (bcn4 k (by omega)))) ?_
        refine rn_go 80 (by with_unfolding_all rfl) ?_
        refine rn_cl (by with_unfolding_all rfl) (ev_up (by decide) (xm_bits _)) ?_
        refine rn_go 80 (by with_unfolding_all rfl) ?_
        rw [d3.2]
        refine rn_cl (by with_unfolding_all rfl) (ev_up (by decide) (xm_fac (by omega))) ?_
        refine rn_to 57 80 (by with_unfolding_all rfl) ?_
        rw [show pw x (nI aN) nd own n p aN (k + 1) = pw x (nI aN) nd own n p aN k + fo (bcn k) * fo (bcn aN - 1 - bcn k) by simp only [pw]; rw [if_pos c1, if_pos c2, if_neg c3, if_neg c4]] at ih
        with_unfolding_all exact ih _
      · with_unfolding_all exact no _ (by simp only [pw]; rw [if_pos c1, if_neg c2])
    · with_unfolding_all exact no _ (by simp only [pw]; rw [if_neg c1])
set_option maxRecDepth 10000 in
theorem xm_power {x : Nat → Int32} (hn : x 1 = nI n) (hn4 : n ≤ 4) (he : Eqv n mo x (tv (Am 0) 0)) (hX : n = 0 ∨ okX x n mo dy) (p w : Int32) : am_ev 12 190 [.ref 43, .int p, .int w] (wd g T A gm Am) (some (.int (sPower x n mo dy p w))) (wd g T A gm Am) := by
  have hn' : tv (Am 0) 0 1 = nI n := by rw [← he.1 1 (by decide)]; exact hn
  unfold sPower
  refine rn_ev am_m_X9_power rfl rfl ?_
  refine rn_go 80 (by with_unfolding_all rfl) ?_
  refine rn_cl (by with_unfolding_all rfl) (ev_up (by decide) (xm_isMember hn' hn4 p)) ?_
  rw [← cg_hm he]
  refine rn_go 80 (by with_unfolding_all rfl) ?_
  refine rn_br (by with_unfolding_all rfl) (fun c => ?_) (fun c => ?_)
  · rw [if_pos (Or.inl c)]
    refine rn_go 80 (by with_unfolding_all rfl) ?_
    exact rn_rt (by with_unfolding_all rfl) trivial rfl rfl
  refine rn_go 80 (by with_unfolding_all rfl) ?_
  refine rn_cl (by with_unfolding_all rfl) (ev_up (by decide) (xm_in _ _ _)) ?_
  rw [inn_b (a := 0) (b := 1) (P := 0) (Q := 1) (by decide) (by decide), ie_btw]
  refine rn_go 80 (by with_unfolding_all rfl) ?_
  refine rn_br (by with_unfolding_all rfl) (fun c2 => ?_) (fun c2 => ?_)
  · rw [if_pos (Or.inr c2)]
    refine rn_go 80 (by with_unfolding_all rfl) ?_
    exact rn_rt (by with_unfolding_all rfl) trivial rfl rfl
  rw [if_neg (fun q => q.elim c c2)]
  obtain ⟨a, ha, rfl⟩ := hm_of hn hn4 c
  have hX := hX.resolve_left (by omega)
  rw [nI_clamp (show a < 2 ^ 31 by omega)]
  obtain ⟨aN, haN, e⟩ := ta16 (x := x) hn4
  have able := xy_can (g := g) (T := T) (A := A) (gm := gm) he hX
  rw [e] at able ⊢
  rw [nI_clamp (show aN < 2 ^ 31 by omega)]
  have hlt : dy % mo < 4 := Nat.lt_of_lt_of_le (Nat.mod_lt _ hX.2.2.2.2.1) hX.2.2.2.2.2.1
  refine rn_go 80 (by with_unfolding_all rfl) ?_
  refine rn_cl (by with_unfolding_all rfl) (ev_up (by decide) (able)) ?_
  refine rn_go 80 (by with_unfolding_all rfl) ?_
  refine rn_cl (by with_unfolding_all rfl) (ev_up (by decide) (xy_motionOf he hX)) ?_
  refine rn_go 80 (by with_unfolding_all rfl) ?_
  refine rn_ld (5 + dy % mo) (by with_unfolding_all rfl) (nI_add 5 (dy % mo)) (by omega) (by decide) ?_
  rw [show Am 0 (5 + dy % mo) = tn x dy mo by unfold tn; rw [he.2.1 _ (Nat.mod_lt _ hX.2.2.2.2.1)]; unfold tv; rw [Nat.zero_add]]
  refine rn_go 80 (by with_unfolding_all rfl) ?_
  refine rn_cl (by with_unfolding_all rfl) (ev_up (by decide) (xm_has (nI aN) a)) ?_
  refine rn_go 80 (by with_unfolding_all rfl) ?_
  refine rn_br (by with_unfolding_all rfl) (fun c3 => ?_) (fun c3 => ?_)
  · rw [if_pos c3]
    refine rn_go 80 (by with_unfolding_all rfl) ?_
    exact rn_rt (by with_unfolding_all rfl) trivial rfl rfl
  rw [if_neg c3]
  refine rn_to 57 80 (by with_unfolding_all rfl) ?_
  with_unfolding_all exact xm_pwL he hX ha haN e c3 w _ _ rfl 16 0 (by omega) none
end

/-! colds that go about; the fewest lozenges -/
def ov (y f : Nat → Int32) (i : Nat) : Nat → Int32 := fun k => if 13 ≤ k ∧ k < 13 + i then f (k - 13) else y k
set_option maxRecDepth 10000 in
theorem ov_0 {y f : Nat → Int32} : ov y f 0 = y := by
  funext k
  unfold ov
  rw [if_neg (by omega)]
set_option maxRecDepth 10000 in
theorem ov_s {y f : Nat → Int32} {i : Nat} : upd (ov y f i) (13 + i) (f i) = ov y f (i + 1) := by
  funext k
  unfold ov upd
  by_cases h : k = 13 + i
  · rw [if_pos h, if_pos (by omega), h, Nat.add_sub_cancel_left]
  · rw [if_neg h]
    show (if 13 ≤ k ∧ k < 13 + i then f (k - 13) else y k) = _
    by_cases h2 : 13 ≤ k ∧ k < 13 + i
    · rw [if_pos h2, if_pos (by omega)]
    · rw [if_neg h2, if_neg (by omega)]
set_option maxRecDepth 10000 in
theorem ov_ov {x f f' : Nat → Int32} {n : Nat} : ov (ov x f' n) f n = ov x f n := by
  funext k
  unfold ov
  split
  · rfl
  · rfl
set_option maxRecDepth 10000 in
theorem ov_at {y f : Nat → Int32} {i m : Nat} (h : i < m) : ov y f m (13 + i) = f i := by
  unfold ov
  rw [if_pos (by omega), Nat.add_sub_cancel_left]
set_option maxRecDepth 10000 in
theorem ov_lo {y f : Nat → Int32} {k m : Nat} (h : k < 13 ∨ 13 + m ≤ k) : ov y f m k = y k := by
  unfold ov
  rw [if_neg (by omega)]
set_option maxRecDepth 10000 in
theorem ox_ov {x f : Nat → Int32} {n mo dy : Nat} (h : okX x n mo dy) (hf : ∀ i, i < n → ∃ b : Nat, b ≤ 20 ∧ f i = nI b) : okX (ov x f n) n mo dy := by
  obtain ⟨h1, h2, h3, h4, h5, h6, h7, h8⟩ := h
  refine ⟨⟨fun q hq => ?_, by rw [ov_lo (by omega)]; exact h1.2⟩, by rw [ov_lo (by omega)]; exact h2, h3, by rw [ov_lo (by omega)]; exact h4, h5, h6, by rw [ov_lo (by omega)]; exact h7, h8⟩
  obtain ⟨a, b, c⟩ := h1.1 q hq
  refine ⟨by rw [ov_lo (by omega)]; exact a, ?_, by rw [ov_lo (by omega)]; exact c⟩
  rw [ov_at hq]
  exact hf q hq
set_option maxRecDepth 10000 in
theorem mn_n {b : Nat} (hb : b < 2 ^ 31) : ∃ b' : Nat, b' ≤ 20 ∧ mn20 (nI b) = nI b' := by
  unfold mn20
  by_cases h1 : b < 20
  · exact ⟨b, by omega, if_pos (show nI b < (20 : Int32) from (show nI b < nI 20 from nI_lt h1 (by decide)))⟩
  · exact ⟨20, by omega, by rw [if_neg (show ¬ nI b < (20 : Int32) from (show ¬ nI b < nI 20 from nI_nlt (by omega) hb))]; rfl⟩
def cf (x : Nat → Int32) (s : Int32) (i : Nat) : Int32 := if tb s i = 0 then x (13 + i) else (if 0 < x (13 + i) - 5 then x (13 + i) - 5 else 0)
def wy (c s : Int32) : Nat → Int32
  | 0 => 1
  | i + 1 => wy c s i * (if tb s i = 0 then 10 - c else c)
def cdA (x : Nat → Int32) (c : Int32) (n dy mo : Nat) : Nat → Int32
  | 0 => 0
  | k + 1 => if cw (ov x (cf x (nI k)) n) (ta (ov x (cf x (nI k)) n) n) (ta (ov x (cf x (nI k)) n) n) n dy mo = 0 then cdA x c n dy mo k else cdA x c n dy mo k + wy c (nI k) n
def cdB (c : Int32) (n : Nat) : Nat → Int32
  | 0 => 0
  | k + 1 => cdB c n k + wy c (nI k) n
set_option maxRecDepth 10000 in
theorem wy_n {cc : Nat} (hc : cc ≤ 10) (s : Int32) : ∀ i, ∃ q : Nat, q ≤ 10 ^ i ∧ wy (nI cc) s i = nI q
  | 0 => ⟨1, by decide, rfl⟩
  | i + 1 => by
    obtain ⟨q, hq, e⟩ := wy_n hc s i
    unfold wy
    rw [e, Nat.pow_succ]
    split
    · exact ⟨q * (10 - cc), Nat.mul_le_mul hq (by omega), by rw [show (10 : Int32) = nI 10 from rfl, pk_sub hc, pk_mul]⟩
    · exact ⟨q * cc, Nat.mul_le_mul hq hc, by rw [pk_mul]⟩
set_option maxRecDepth 10000 in
theorem cdA_n {x : Nat → Int32} {cc n dy mo : Nat} (hc : cc ≤ 10) (hn : n ≤ 4) : ∀ k, ∃ q : Nat, q ≤ k * 10000 ∧ cdA x (nI cc) n dy mo k = nI q
  | 0 => ⟨0, by omega, rfl⟩
  | k + 1 => by
    obtain ⟨q, hq, e⟩ := cdA_n (x := x) (dy := dy) (mo := mo) hc hn k
    obtain ⟨u, hu, eu⟩ := wy_n hc (nI k) n
    have h10 : 10 ^ n ≤ 10 ^ 4 := Nat.pow_le_pow_right (by decide) hn
    unfold cdA
    rw [e, eu]
    split
    · exact ⟨q, Nat.le_trans hq (Nat.mul_le_mul_right _ (Nat.le_succ _)), rfl⟩
    · exact ⟨q + u, by omega, by rw [nI_add]⟩
set_option maxRecDepth 10000 in
theorem cdB_n : ∀ n, n < 5 → ∀ cc, cc < 11 → cdB (nI cc) n (2 ^ n) = nI (10 ^ n) := by decide +kernel
set_option maxRecDepth 10000 in
theorem shn : ∀ n, n < 5 → (1 : Int32) <<< (nI n &&& 31) = nI (2 ^ n) := by decide +kernel
set_option maxRecDepth 10000 in
theorem shn2 : ∀ n, n < 5 → (1 : Int32) <<< ((2 * nI n) &&& 31) = nI (4 ^ n) := by decide +kernel
set_option maxRecDepth 10000 in
theorem cf_m : ∀ b, b < 21 → mbt (nI b - 5) = (if 0 < nI b - 5 then nI b - 5 else 0) ∧ mbt (nI b - 0) = nI b := by decide +kernel
set_option maxRecDepth 10000 in
theorem cf_r : ∀ b, b < 21 → ∃ q, q < 21 ∧ (if 0 < nI b - 5 then nI b - 5 else 0) = nI q := by decide +kernel
set_option maxRecDepth 10000 in
theorem cf_ok {x : Nat → Int32} {n mo dy : Nat} (h : okX x n mo dy) (s : Int32) : ∀ i, i < n → ∃ b : Nat, b ≤ 20 ∧ cf x s i = nI b := by
  intro i hi
  obtain ⟨-, ⟨b, hb, e⟩, -⟩ := h.1.1 i hi
  unfold cf
  rw [e]
  split
  · exact ⟨b, hb, rfl⟩
  · obtain ⟨q, hq, e2⟩ := cf_r b (by omega)
    exact ⟨q, by omega, e2⟩
def sColds (z : Int32) (x : Nat → Int32) (n mo dy : Nat) (c w : Int32) : Int32 := if z = 0 then -1000002 else if (c < 0 ∨ ¬ c ≤ 10 ∨ ie w = 0) then -1000001 else lwI (cdA x c n dy mo (2 ^ n)) (cdB c n (2 ^ n)) w
def dg (a p m : Int32) : Int32 := a >>> ((2 * (m - 1 - p)) &&& 31) &&& 3
set_option maxRecDepth 10000 in
theorem dg_n (a p m : Int32) : ∃ d : Nat, d < 4 ∧ dg a p m = nI d := pk_andE _ (m := 3) 2 rfl
def lf (x : Nat → Int32) (m way : Int32) (i : Nat) : Int32 := mn20 (x (13 + i) + 5 * dg way (nI i) m)
set_option maxRecDepth 10000 in
theorem lf_ok {x : Nat → Int32} {n mo dy : Nat} (h : okX x n mo dy) (m way : Int32) : ∀ i, i < n → ∃ b : Nat, b ≤ 20 ∧ lf x m way i = nI b := by
  intro i hi
  obtain ⟨-, ⟨b, hb, e⟩, -⟩ := h.1.1 i hi
  obtain ⟨d, hd, e2⟩ := dg_n way (nI i) m
  unfold lf
  rw [e, e2, show (5 : Int32) = nI 5 from rfl, pk_mul, nI_add]
  exact mn_n (by omega)
set_option maxRecDepth 10000 in
theorem lf_m {x : Nat → Int32} {n mo dy : Nat} (h : okX x n mo dy) (m way : Int32) {i : Nat} (hi : i < n) : mbt (x (13 + i) + 5 * dg way (nI i) m) = lf x m way i := by
  obtain ⟨-, ⟨b, hb, e⟩, -⟩ := h.1.1 i hi
  obtain ⟨d, hd, e2⟩ := dg_n way (nI i) m
  unfold lf
  rw [e, e2, show (5 : Int32) = nI 5 from rfl, pk_mul, nI_add]
  exact mbt_mn (by omega)
def gv (m way : Int32) : Nat → Int32
  | 0 => 0
  | i + 1 => gv m way i + dg way (nI i) m
def lcw (x : Nat → Int32) (n dy mo : Nat) (k : Nat) : Int32 := cw (ov x (lf x (nI n) (nI k)) n) (ta (ov x (lf x (nI n) (nI k)) n) n) (ta (ov x (lf x (nI n) (nI k)) n) n) n dy mo
def bl (x : Nat → Int32) (n dy mo : Nat) : Nat → Int32
  | 0 => -1000000
  | k + 1 => if bl x n dy mo k = -1000000 then (if lcw x n dy mo k = 0 then bl x n dy mo k else nI k) else if gv (nI n) (bl x n dy mo k) n ≤ gv (nI n) (nI k) n then bl x n dy mo k else if lcw x n dy mo k = 0 then bl x n dy mo k else nI k
def fg (x : Nat → Int32) (n dy mo : Nat) (k : Nat) : Int32 := if bl x n dy mo k = -1000000 then 0 else gv (nI n) (bl x n dy mo k) n
set_option maxRecDepth 10000 in
theorem nI_noN {k : Nat} (h : k < 2 ^ 31) : ¬ nI k = -1000000 := fun q => nI_pos h (by rw [q]; decide)
set_option maxRecDepth 10000 in
theorem fg_same {x : Nat → Int32} {n dy mo k : Nat} (h : bl x n dy mo (k + 1) = bl x n dy mo k) : fg x n dy mo (k + 1) = fg x n dy mo k := by
  unfold fg
  rw [h]
set_option maxRecDepth 10000 in
theorem fg_new {x : Nat → Int32} {n dy mo k : Nat} (hk : k < 2 ^ 31) (h : bl x n dy mo (k + 1) = nI k) : fg x n dy mo (k + 1) = gv (nI n) (nI k) n := by
  unfold fg
  rw [h, if_neg (nI_noN hk)]
def sLoz (z : Int32) (x : Nat → Int32) (n mo dy : Nat) (k : Int32) : Int32 := if z = 0 then -1000002 else if (k < -1 ∨ ¬ k ≤ 3) then -1000001 else if nI n ≤ k then -1000000 else if bl x n dy mo (4 ^ n) = -1000000 then -1000000 else if 0 ≤ k then dg (bl x n dy mo (4 ^ n)) k (nI n) else gv (nI n) (bl x n dy mo (4 ^ n)) n
section
variable {g gm : Nat → Int32} {T A Am : Nat → Nat → Int32} {h : am_H} {n mo dy : Nat}
set_option maxRecDepth 10000 in
theorem x2_catchL (hX : okX (T 0) n mo dy) (s c : Int32) (y : Nat → Int32) : ∀ q i, i + q = n → ∀ o, rn none 0 am_t_X2_catchColds (5, [some (.ref 34), some (.int s), some (.int c), some (.int (wy c s i)), some (.int (nI i)), o], [], wd g (tu T 1 (ov y (cf (T 0) s) i)) A gm Am) (some (.int (wy c s n))) (wd g (tu T 1 (ov y (cf (T 0) s) n)) A gm Am)
  | 0, i, hi, o => by
    have hin : i = n := by omega
    subst hin
    refine rn_go 80 (by with_unfolding_all rfl) ?_
    refine rn_br (by with_unfolding_all rfl) (fun _ => ?_) (fun c_ => absurd ((by rw [tu_n (by decide), hX.2.1]; exact Int32.le_refl _)) c_)
    refine rn_go 80 (by with_unfolding_all rfl) ?_
    exact rn_rt (by with_unfolding_all rfl) trivial rfl rfl
  | q + 1, i, hi, o => by
    have ih := x2_catchL hX s c y q (i + 1) (by omega)
    rw [← nI_1, ← ov_s] at ih
    have h4 := hX.2.2.1
    refine rn_go 80 (by with_unfolding_all rfl) ?_
    refine rn_br (by with_unfolding_all rfl) (fun c_ => absurd c_ ((by rw [tu_n (by decide), hX.2.1]; exact nI_ge (show i < n by omega) (by omega)))) (fun _ => ?_)
    refine rn_go 80 (by with_unfolding_all rfl) ?_
    refine rn_br (by with_unfolding_all rfl) (fun c1 => ?_) (fun c1 => ?_)
    · have c1 : tb s i = 0 := c1
      rw [show cf (T 0) s i = T 0 (13 + i) by unfold cf; rw [if_pos c1], show wy c s (i + 1) = wy c s i * (10 - c) by simp only [wy]; rw [if_pos c1]] at ih
      refine rn_go 80 (by with_unfolding_all rfl) ?_
      refine rn_br (by with_unfolding_all rfl) (fun _ => ?_) (fun c_ => absurd (rfl) c_)
      refine rn_go 80 (by with_unfolding_all rfl) ?_
      refine rn_ld (i) (by with_unfolding_all rfl) rfl (by omega) (by decide) ?_
      rw [wa_at (by omega), tu_n (by decide)]
      refine rn_go 80 (by with_unfolding_all rfl) ?_
      refine rn_st (i) (by with_unfolding_all rfl) rfl (by omega) (by decide) ?_
      refine rn_hp (by with_unfolding_all exact (ww_1_13 (by omega))) ?_
      rw [tu_tu, tu_s]
      refine rn_go 80 (by with_unfolding_all rfl) ?_
      refine rn_br (by with_unfolding_all rfl) (fun _ => ?_) (fun c_ => absurd (rfl) c_)
      refine rn_to 5 80 (by with_unfolding_all rfl) ?_
      with_unfolding_all exact ih _
    · have c1 : ¬ tb s i = 0 := c1
      rw [show cf (T 0) s i = (if 0 < T 0 (13 + i) - 5 then T 0 (13 + i) - 5 else 0) by unfold cf; rw [if_neg c1], show wy c s (i + 1) = wy c s i * c by simp only [wy]; rw [if_neg c1]] at ih
      refine rn_go 80 (by with_unfolding_all rfl) ?_
      refine rn_br (by with_unfolding_all rfl) (fun c_ => absurd c_ ((by decide))) (fun _ => ?_)
      refine rn_go 80 (by with_unfolding_all rfl) ?_
      refine rn_ld (i) (by with_unfolding_all rfl) rfl (by omega) (by decide) ?_
      rw [wa_at (by omega), tu_n (by decide)]
      refine rn_go 80 (by with_unfolding_all rfl) ?_
      refine rn_st (i) (by with_unfolding_all rfl) rfl (by omega) (by decide) ?_
      refine rn_hp (by with_unfolding_all exact (ww_1_13 (by omega))) ?_
      rw [tu_tu, tu_s]
      refine rn_go 80 (by with_unfolding_all rfl) ?_
      refine rn_br (by with_unfolding_all rfl) (fun c_ => absurd c_ ((by decide))) (fun _ => ?_)
      refine rn_to 5 80 (by with_unfolding_all rfl) ?_
      with_unfolding_all exact ih _
set_option maxRecDepth 10000 in
theorem x2_catch (hX : okX (T 0) n mo dy) (s c : Int32) (y : Nat → Int32) : am_ev 1 33 [.ref 34, .int s, .int c] (wd g (tu T 1 y) A gm Am) (some (.int (wy c s n))) (wd g (tu T 1 (ov y (cf (T 0) s) n)) A gm Am) := by
  have key := x2_catchL (g := g) (A := A) (gm := gm) (Am := Am) hX s c y n 0 (by omega) none
  rw [ov_0] at key
  refine rn_ev am_m_X2_catchColds rfl rfl ?_
  refine rn_to 5 80 (by with_unfolding_all rfl) ?_
  with_unfolding_all exact key
set_option maxRecDepth 10000 in
theorem x2_coldsL {cc : Nat} (hX : okX (T 0) n mo dy) (hc : cc ≤ 10) (w : Int32) : ∀ q k, k + q = 2 ^ n → ∀ y o, ov y (cf (T 0) (nI k)) n = ov (T 0) (cf (T 0) (nI k)) n → (∀ f, ov y f n = ov (T 0) f n) → ∃ y', rn none 6 am_t_X2_carriedInColds (19, [some (.ref 34), some (.int (nI cc)), some (.int w), some (.int (cdA (T 0) (nI cc) n dy mo k)), some (.int (cdB (nI cc) n k)), some (.int (nI k)), o], [], wd g (tu T 1 y) A gm Am) (some (.int (lwI (cdA (T 0) (nI cc) n dy mo (2 ^ n)) (cdB (nI cc) n (2 ^ n)) w))) (wd g (tu T 1 y') A gm Am)
  | 0, k, hk, y, o, he, hy => by
    have hin : k = 2 ^ n := by omega
    have h4 := hX.2.2.1
    obtain ⟨u, hu, eu⟩ := cdA_n (x := T 0) (dy := dy) (mo := mo) hc h4 (2 ^ n)
    have eb := cdB_n n (by omega) cc (by omega)
    have p2 : 2 ^ n ≤ 2 ^ 4 := Nat.pow_le_pow_right (by decide) h4
    have p10 : 10 ^ n ≤ 10 ^ 4 := Nat.pow_le_pow_right (by decide) h4
    have p0 : 0 < 10 ^ n := Nat.pow_pos (by decide)
    rw [eu, eb]
    rw [← hin] at eu eb
    refine ⟨y, ?_⟩
    rw [eu, eb]
    refine rn_go 80 (by with_unfolding_all rfl) ?_
    refine rn_br (by with_unfolding_all rfl) (fun _ => ?_) (fun c_ => absurd ((by rw [tu_n (by decide), hX.2.1, shn n (by omega), hin]; exact Int32.le_refl _)) c_)
    refine rn_go 80 (by with_unfolding_all rfl) ?_
    refine rn_cl (by with_unfolding_all rfl) (ev_up (by decide) (x8_lowest (by omega) p0 (by omega) w)) ?_
    refine rn_go 80 (by with_unfolding_all rfl) ?_
    exact rn_rt (by with_unfolding_all rfl) trivial rfl rfl
  | q + 1, k, hk, y, o, he, hy => by
    have h4 := hX.2.2.1
    have p2 : 2 ^ n ≤ 2 ^ 4 := Nat.pow_le_pow_right (by decide) h4
    have hXi := ox_ov hX (cf_ok hX (nI k))
    have hca := x2_catch (g := g) (A := A) (gm := gm) (Am := Am) hX (nI k) (nI cc) y
    rw [hy] at hca
    obtain ⟨y', ih⟩ := x2_coldsL hX hc w q (k + 1) (by omega) (ov (T 0) (cf (T 0) (nI k)) n) (some (.int (wy (nI cc) (nI k) n))) ov_ov (fun f => ov_ov)
    rw [← nI_1] at ih
    refine ⟨y', ?_⟩
    refine rn_go 80 (by with_unfolding_all rfl) ?_
    refine rn_br (by with_unfolding_all rfl) (fun c_ => absurd c_ ((by rw [tu_n (by decide), hX.2.1, shn n (by omega)]; exact nI_ge (show k < 2 ^ n by omega) (by omega)))) (fun _ => ?_)
    refine rn_go 80 (by with_unfolding_all rfl) ?_
    refine rn_cl (by with_unfolding_all rfl) (ev_up (by decide) (hca)) ?_
    refine rn_go 80 (by with_unfolding_all rfl) ?_
    refine rn_cl (by with_unfolding_all rfl) (ev_up (by decide) (xk_carriedAll hXi)) ?_
    refine rn_go 80 (by with_unfolding_all rfl) ?_
    refine rn_br (by with_unfolding_all rfl) (fun c => ?_) (fun c => ?_)
    · refine rn_to 19 80 (by with_unfolding_all rfl) ?_
      rw [show cdA (T 0) (nI cc) n dy mo (k + 1) = cdA (T 0) (nI cc) n dy mo k by simp only [cdA]; rw [if_pos c]] at ih
      with_unfolding_all exact ih
    · refine rn_to 19 80 (by with_unfolding_all rfl) ?_
      rw [show cdA (T 0) (nI cc) n dy mo (k + 1) = cdA (T 0) (nI cc) n dy mo k + wy (nI cc) (nI k) n by simp only [cdA]; rw [if_neg c]] at ih
      with_unfolding_all exact ih
set_option maxRecDepth 10000 in
theorem x8_colds (hb : g 11 = 0 ∨ g 11 = 1) (hX : g 11 = 0 ∨ okX (T 0) n mo dy) (c w : Int32) : ∃ g' t', (∀ k, k ≠ 12 → g' k = g k) ∧ am_ev 12 117 [.ref 0, .int c, .int w] (wd g T A gm Am) (some (.int (sColds (g 11) (T 0) n mo dy c w))) (wd g' (tu T 1 t') A gm Am) := by
  unfold sColds
  by_cases q1 : g 11 = 0
  · rw [if_pos q1]
    refine ⟨g, T 1, fun _ _ => rfl, ?_⟩
    rw [tu_id]
    refine rn_ev am_m_X8_colds rfl rfl ?_
    refine rn_go 80 (by with_unfolding_all rfl) ?_
    refine rn_br (by with_unfolding_all rfl) (fun _ => ?_) (fun c_ => absurd (q1) c_)
    refine rn_go 80 (by with_unfolding_all rfl) ?_
    exact rn_rt (by with_unfolding_all rfl) trivial rfl rfl
  rw [if_neg q1]
  have hX := hX.resolve_left q1
  by_cases hq : (c < 0 ∨ ¬ c ≤ 10 ∨ ie w = 0)
  · rw [if_pos hq]
    refine ⟨g, T 1, fun _ _ => rfl, ?_⟩
    rw [tu_id]
    refine rn_ev am_m_X8_colds rfl rfl ?_
    refine rn_go 80 (by with_unfolding_all rfl) ?_
    refine rn_br (by with_unfolding_all rfl) (fun c_ => absurd c_ (q1)) (fun _ => ?_)
    refine rn_go 80 (by with_unfolding_all rfl) ?_
    refine rn_br (by with_unfolding_all rfl) (fun c1 => ?_) (fun c1 => ?_)
    · refine rn_go 80 (by with_unfolding_all rfl) ?_
      exact rn_rt (by with_unfolding_all rfl) trivial rfl rfl
    refine rn_go 80 (by with_unfolding_all rfl) ?_
    refine rn_br (by with_unfolding_all rfl) (fun c2 => ?_) (fun c2 => ?_)
    · refine rn_go 80 (by with_unfolding_all rfl) ?_
      exact rn_rt (by with_unfolding_all rfl) trivial rfl rfl
    refine rn_go 80 (by with_unfolding_all rfl) ?_
    refine rn_cl (by with_unfolding_all rfl) (ev_up (by decide) (x8_isEither w)) ?_
    refine rn_go 80 (by with_unfolding_all rfl) ?_
    refine rn_br (by with_unfolding_all rfl) (fun c5 => ?_) (fun c5 => ?_)
    · refine rn_go 80 (by with_unfolding_all rfl) ?_
      exact rn_rt (by with_unfolding_all rfl) trivial rfl rfl
    exfalso
    rcases hq with q | q | q
    · exact c1 q
    · exact c2 (Int32.not_le.mp q)
    · exact c5 q
  · rw [if_neg hq]
    have q2 : ¬ c < 0 := fun q => hq (Or.inl q)
    have q3 : c ≤ 10 := Classical.not_not.mp (fun q => hq (Or.inr (Or.inl q)))
    have q6 : ¬ ie w = 0 := fun q => hq (Or.inr (Or.inr q))
    obtain ⟨cc, hcc, rfl⟩ := le_of40 (m := 10) (by decide) q2 q3
    obtain ⟨y', hrun⟩ := x2_coldsL (g := upd g 12 (g 11)) (A := A) (gm := gm) (Am := Am) hX hcc w (2 ^ n) 0 (by omega) (T 0) none rfl (fun f => rfl)
    refine ⟨upd g 12 (g 11), y', fun j hj => up_ne hj, ?_⟩
    have key : am_ev 8 32 [.ref 34, .int (nI cc), .int w] (wd g T A gm Am) (some (.int (lwI (cdA (T 0) (nI cc) n dy mo (2 ^ n)) (cdB (nI cc) n (2 ^ n)) w))) (wd (upd g 12 (g 11)) (tu T 1 y') A gm Am) := by
      refine rn_ev am_m_X2_carriedInColds rfl rfl ?_
      refine rn_go 80 (by with_unfolding_all rfl) ?_
      refine rn_cl (by with_unfolding_all rfl) (ev_up (by decide) (xh_become_1_0 hb)) ?_
      refine rn_to 19 80 (by with_unfolding_all rfl) ?_
      refine rn_of_le (d := 6) (by decide) ?_
      with_unfolding_all exact hrun
    refine rn_ev am_m_X8_colds rfl rfl ?_
    refine rn_go 80 (by with_unfolding_all rfl) ?_
    refine rn_br (by with_unfolding_all rfl) (fun c_ => absurd c_ (q1)) (fun _ => ?_)
    refine rn_go 80 (by with_unfolding_all rfl) ?_
    refine rn_br (by with_unfolding_all rfl) (fun c_ => absurd c_ (q2)) (fun _ => ?_)
    refine rn_go 80 (by with_unfolding_all rfl) ?_
    refine rn_br (by with_unfolding_all rfl) (fun c_ => absurd c_ (Int32.not_lt.mpr q3)) (fun _ => ?_)
    refine rn_go 80 (by with_unfolding_all rfl) ?_
    refine rn_cl (by with_unfolding_all rfl) (ev_up (by decide) (x8_isEither w)) ?_
    refine rn_go 80 (by with_unfolding_all rfl) ?_
    refine rn_br (by with_unfolding_all rfl) (fun c_ => absurd c_ (q6)) (fun _ => ?_)
    refine rn_go 80 (by with_unfolding_all rfl) ?_
    refine rn_cl (by with_unfolding_all rfl) (ev_up (by decide) (key)) ?_
    refine rn_go 80 (by with_unfolding_all rfl) ?_
    exact rn_rt (by with_unfolding_all rfl) trivial rfl rfl
end

/-! the reference: towns in its row; what it does with one, by the same numbers -/
def tv (r : Nat → Int32) (B : Nat) : Nat → Int32 := fun k => r (B + k)
def rs (r : Nat → Int32) (B : Nat) (t : Nat → Int32) : Nat → Int32 := fun k => if B ≤ k ∧ k < B + 21 then t (k - B) else r k
set_option maxRecDepth 10000 in
theorem tv_rs {r t : Nat → Int32} {B k : Nat} (hk : k < 21) : tv (rs r B t) B k = t k := by
  unfold tv rs
  rw [if_pos ⟨by omega, by omega⟩, show B + k - B = k by omega]
set_option maxRecDepth 10000 in
theorem rs_at {r t : Nat → Int32} {B k : Nat} (hk : k < 21) : rs r B t (B + k) = t k := tv_rs hk
set_option maxRecDepth 10000 in
theorem rs_out {r t : Nat → Int32} {B k : Nat} (hk : k < B ∨ B + 21 ≤ k) : rs r B t k = r k := by
  unfold rs
  rw [if_neg (by omega)]
set_option maxRecDepth 10000 in
theorem rs_rs {r t t' : Nat → Int32} {B : Nat} : rs (rs r B t) B t' = rs r B t' := by
  funext k
  unfold rs
  by_cases h : B ≤ k ∧ k < B + 21
  · rw [if_pos h, if_pos h]
  · rw [if_neg h, if_neg h, if_neg h]
set_option maxRecDepth 10000 in
theorem rs_id {r : Nat → Int32} {B : Nat} : rs r B (tv r B) = r := by
  funext k
  unfold rs tv
  by_cases h : B ≤ k ∧ k < B + 21
  · rw [if_pos h, show B + (k - B) = k by omega]
  · rw [if_neg h]
set_option maxRecDepth 10000 in
theorem rs_up {r t : Nat → Int32} {B k : Nat} {x : Int32} (hk : k < 21) : upd (rs r B t) (B + k) x = rs r B (upd t k x) := by
  funext j
  unfold upd rs
  by_cases h : j = B + k
  · subst h
    rw [if_pos rfl, if_pos ⟨by omega, by omega⟩]
    show x = if B + k - B = k then x else t (B + k - B)
    rw [if_pos (by omega)]
  · rw [if_neg h]
    by_cases h2 : B ≤ j ∧ j < B + 21
    · rw [if_pos h2, if_pos h2]
      show t (j - B) = if j - B = k then x else t (j - B)
      rw [if_neg (by omega)]
    · rw [if_neg h2, if_neg h2]
set_option maxRecDepth 10000 in
theorem rs_cong {r t t' : Nat → Int32} {B : Nat} (h : ∀ k, k < 21 → t k = t' k) : rs r B t = rs r B t' := by
  funext k
  unfold rs
  by_cases h2 : B ≤ k ∧ k < B + 21
  · rw [if_pos h2, if_pos h2, h _ (by omega)]
  · rw [if_neg h2, if_neg h2]
set_option maxRecDepth 10000 in
theorem ix2 (B c : Nat) : nI B + nI c = nI (B + c) := nI_add B c
set_option maxRecDepth 10000 in
theorem ix3 (B p c : Nat) : nI B + nI c + nI p = nI (B + (c + p)) := by rw [nI_add, nI_add, Nat.add_assoc]
/-- a town as it must be: n members; kinds 1 to 5, breaths up to 20, what mends up to 9, the cost up to 9 -/
def okT (t : Nat → Int32) (n : Nat) : Prop := (∀ p, p < n → (t (9 + p) = 1 ∨ t (9 + p) = 2 ∨ t (9 + p) = 3 ∨ t (9 + p) = 4 ∨ t (9 + p) = 5) ∧ (∃ b : Nat, b ≤ 20 ∧ t (13 + p) = nI b) ∧ ∃ m : Nat, m ≤ 9 ∧ t (17 + p) = nI m) ∧ ∃ c : Nat, c ≤ 9 ∧ t 2 = nI c
set_option maxRecDepth 10000 in
theorem tb01 (s : Int32) (i : Nat) : tb s i = 0 ∨ tb s i = 1 := by
  obtain ⟨j, hj, e⟩ := pk_andE (s >>> (nI i &&& 31)) (m := 1) 1 rfl
  unfold tb
  rw [e]
  rcases (show j = 0 ∨ j = 1 by omega) with rfl | rfl
  · exact Or.inl rfl
  · exact Or.inr rfl
def mco (k c : Int32) : Int32 := if k ≤ 3 then (if k = 2 then c + 1 else c) else 0
set_option maxRecDepth 10000 in
theorem mco_tc {t : Nat → Int32} {n p : Nat} (h : okT t n) (hp : p < n) : mco (t (9 + p)) (t 2) = tc t p := by
  unfold mco tc
  rcases (h.1 p hp).1 with e | e | e | e | e <;> rw [e] <;> rfl
def mbt (x : Int32) : Int32 := if 0 ≤ x then (if x ≤ 20 then x else 20) else 0
def mbs (s : Int32) : Nat → Int32
  | 0 => 0
  | i + 1 => mbs s i + tb s i
set_option maxRecDepth 10000 in
theorem fa_or (a b : Nat) : nI a ||| nI b = nI (a ||| b) := by
  apply Int32.toBitVec_inj.mp
  rw [Int32.toBitVec_or]
  show BitVec.ofNat 32 a ||| BitVec.ofNat 32 b = BitVec.ofNat 32 (a ||| b)
  rw [BitVec.ofNat_or]
set_option maxRecDepth 10000 in
theorem ta_lt (t : Nat → Int32) : ∀ n, n ≤ 4 → ∃ k : Nat, k < 2 ^ n ∧ ta t n = nI k
  | 0, _ => ⟨0, by decide, rfl⟩
  | n + 1, h => by
    obtain ⟨k, hk, e⟩ := ta_lt t n (by omega)
    unfold ta
    split
    · exact ⟨k, by rw [Nat.pow_succ]; omega, e⟩
    · rw [e]
      have e2 : (1 : Int32) <<< (nI n &&& 31) = nI (2 ^ n) := by
        rcases (show n = 0 ∨ n = 1 ∨ n = 2 ∨ n = 3 by omega) with rfl | rfl | rfl | rfl <;> rfl
      rw [e2, fa_or]
      exact ⟨k ||| 2 ^ n, Nat.or_lt_two_pow (by rw [Nat.pow_succ]; omega) (Nat.pow_lt_pow_right (by decide) (by omega)), rfl⟩
set_option maxRecDepth 10000 in
theorem mbs_bc : ∀ k, k < 16 → mbs (nI k) 4 = bc (nI k) := by decide +kernel
set_option maxRecDepth 10000 in
theorem mbs_ta (t : Nat → Int32) {n : Nat} (hn : n ≤ 4) : mbs (ta t n) 4 = bc (ta t n) := by
  obtain ⟨k, hk, e⟩ := ta_lt t n hn
  rw [e]
  exact mbs_bc k (Nat.lt_of_lt_of_le hk (Nat.pow_le_pow_right (by decide) hn))
section
variable {g gm : Nat → Int32} {T A Am : Nat → Nat → Int32} {h : am_H}
set_option maxRecDepth 10000 in
theorem xm_in (x a b : Int64) : am_ev 1 137 [.long x, .long a, .long b] h (some (.int (inn x a b))) h := by
  refine rn_ev am_m_X9_in rfl rfl ?_
  refine rn_go 80 (by with_unfolding_all rfl) ?_
  unfold inn
  refine rn_br (by with_unfolding_all rfl) (fun c => ?_) (fun c => ?_)
  · rw [if_pos c]
    refine rn_go 80 (by with_unfolding_all rfl) ?_
    exact rn_rt (by with_unfolding_all rfl) (Or.inl rfl) (rfl) (rfl)
  rw [if_neg c]
  refine rn_go 80 (by with_unfolding_all rfl) ?_
  refine rn_br (by with_unfolding_all rfl) (fun c2 => ?_) (fun c2 => ?_)
  · rw [if_pos c2]
    refine rn_go 80 (by with_unfolding_all rfl) ?_
    exact rn_rt (by with_unfolding_all rfl) (Or.inl rfl) (rfl) (rfl)
  rw [if_neg c2]
  refine rn_go 80 (by with_unfolding_all rfl) ?_
  exact rn_rt (by with_unfolding_all rfl) (Or.inr rfl) (rfl) (rfl)
set_option maxRecDepth 10000 in
theorem xm_has (s : Int32) (i : Nat) : am_ev 1 138 [.int s, .int (nI i)] h (some (.int (tb s i))) h := by
  refine rn_ev am_m_X9_has rfl rfl ?_
  refine rn_go 80 (by with_unfolding_all rfl) ?_
  refine rn_br (by with_unfolding_all rfl) (fun c => ?_) (fun c => ?_)
  · have c : tb s i = 1 := c
    rw [c]
    refine rn_go 80 (by with_unfolding_all rfl) ?_
    exact rn_rt (by with_unfolding_all rfl) (Or.inr rfl) (rfl) (rfl)
  · have c : ¬ tb s i = 1 := c
    rw [(tb01 s i).resolve_right c]
    refine rn_go 80 (by with_unfolding_all rfl) ?_
    exact rn_rt (by with_unfolding_all rfl) (Or.inl rfl) (rfl) (rfl)
set_option maxRecDepth 10000 in
theorem xm_between (x : Int32) : am_ev 1 139 [.int x] h (some (.int (mbt x))) h := by
  refine rn_ev am_m_X9_between rfl rfl ?_
  refine rn_go 80 (by with_unfolding_all rfl) ?_
  unfold mbt
  refine rn_br (by with_unfolding_all rfl) (fun c => ?_) (fun c => ?_)
  · rw [if_pos c]
    refine rn_go 80 (by with_unfolding_all rfl) ?_
    refine rn_br (by with_unfolding_all rfl) (fun c2 => ?_) (fun c2 => ?_)
    · rw [if_pos c2]
      refine rn_go 80 (by with_unfolding_all rfl) ?_
      exact rn_rt (by with_unfolding_all rfl) trivial rfl rfl
    · rw [if_neg c2]
      refine rn_go 80 (by with_unfolding_all rfl) ?_
      exact rn_rt (by with_unfolding_all rfl) trivial rfl rfl
  · rw [if_neg c]
    refine rn_go 80 (by with_unfolding_all rfl) ?_
    exact rn_rt (by with_unfolding_all rfl) trivial rfl rfl
set_option maxRecDepth 10000 in
theorem xm_bits (s : Int32) : am_ev 1 140 [.int s] h (some (.int (mbs s 4))) h := by
  refine rn_ev am_m_X9_bits rfl rfl ?_
  refine rn_go 80 (by with_unfolding_all rfl) ?_
  refine rn_br (by with_unfolding_all rfl) (fun c => absurd c (by decide)) (fun c => ?_)
  refine rn_go 80 (by with_unfolding_all rfl) ?_
  refine rn_br (by with_unfolding_all rfl) (fun c => absurd c (by decide)) (fun c => ?_)
  refine rn_go 80 (by with_unfolding_all rfl) ?_
  refine rn_br (by with_unfolding_all rfl) (fun c => absurd c (by decide)) (fun c => ?_)
  refine rn_go 80 (by with_unfolding_all rfl) ?_
  refine rn_br (by with_unfolding_all rfl) (fun c => absurd c (by decide)) (fun c => ?_)
  refine rn_go 80 (by with_unfolding_all rfl) ?_
  refine rn_br (by with_unfolding_all rfl) (fun c => ?_) (fun c => absurd (by decide) c)
  refine rn_go 80 (by with_unfolding_all rfl) ?_
  exact rn_rt (by with_unfolding_all rfl) trivial rfl rfl
set_option maxRecDepth 10000 in
theorem xm_costBy (k c0 : Int32) : am_ev 1 168 [.int k, .int c0] h (some (.int (mco k c0))) h := by
  refine rn_ev am_m_X9_costBy rfl rfl ?_
  refine rn_go 80 (by with_unfolding_all rfl) ?_
  unfold mco
  refine rn_br (by with_unfolding_all rfl) (fun c => ?_) (fun c => ?_)
  · rw [if_pos c]
    refine rn_go 80 (by with_unfolding_all rfl) ?_
    refine rn_br (by with_unfolding_all rfl) (fun c2 => ?_) (fun c2 => ?_)
    · rw [if_pos c2]
      refine rn_go 80 (by with_unfolding_all rfl) ?_
      exact rn_rt (by with_unfolding_all rfl) trivial rfl rfl
    · rw [if_neg c2]
      refine rn_go 80 (by with_unfolding_all rfl) ?_
      exact rn_rt (by with_unfolding_all rfl) trivial rfl rfl
  · rw [if_neg c]
    refine rn_go 80 (by with_unfolding_all rfl) ?_
    exact rn_rt (by with_unfolding_all rfl) trivial rfl rfl
set_option maxRecDepth 10000 in
theorem xm_costOf {B n p : Nat} (hB : B + 21 ≤ 672) (ht : okT (tv (Am 0) B) n) (hp : p < n) (hn : n ≤ 4) : am_ev 2 169 [.ref 43, .int (nI B), .int (nI p)] (wd g T A gm Am) (some (.int (tc (tv (Am 0) B) p))) (wd g T A gm Am) := by
  refine rn_ev am_m_X9_costOf rfl rfl ?_
  refine rn_go 80 (by with_unfolding_all rfl) ?_
  refine rn_ld (B + (9 + p)) (by with_unfolding_all rfl) (ix3 B p 9) (by omega) (by decide) ?_
  refine rn_go 80 (by with_unfolding_all rfl) ?_
  refine rn_ld (B + 2) (by with_unfolding_all rfl) (ix2 B 2) (by omega) (by decide) ?_
  refine rn_go 80 (by with_unfolding_all rfl) ?_
  refine rn_cl (by with_unfolding_all rfl) (ev_up (by decide) (xm_costBy _ _)) ?_
  refine rn_go 80 (by with_unfolding_all rfl) ?_
  exact rn_rt (by with_unfolding_all rfl) (trivial) (by rw [← mco_tc ht hp]; rfl) (rfl)
set_option maxRecDepth 10000 in
theorem xm_canL {B n : Nat} (hB : B + 21 ≤ 672) (ht : okT (tv (Am 0) B) n) (hn : tv (Am 0) B 1 = nI n) (hn4 : n ≤ 4) : ∀ k i, i + k = n → rn none 2 am_t_X9_canSpeak (4, [some (.ref 43), some (.int (nI B)), some (.int (ta (tv (Am 0) B) i)), some (.int (nI i))], [], wd g T A gm Am) (some (.int (ta (tv (Am 0) B) n))) (wd g T A gm Am)
  | 0, i, hi => by
    have hin : i = n := by omega
    subst hin
    refine rn_go 80 (by with_unfolding_all rfl) ?_
    refine rn_ld (B + 1) (by with_unfolding_all rfl) (ix2 B 1) (by omega) (by decide) ?_
    refine rn_go 80 (by with_unfolding_all rfl) ?_
    refine rn_br (by with_unfolding_all rfl) (fun c => ?_) (fun c => ?_)
    · refine rn_go 80 (by with_unfolding_all rfl) ?_
      exact rn_rt (by with_unfolding_all rfl) trivial rfl rfl
    · exact absurd (by rw [show Am 0 (B + 1) = nI i from hn]; exact Int32.le_refl _) c
  | k + 1, i, hi => by
    have ih := xm_canL hB ht hn hn4 k (i + 1) (by omega)
    rw [← nI_1] at ih
    refine rn_go 80 (by with_unfolding_all rfl) ?_
    refine rn_ld (B + 1) (by with_unfolding_all rfl) (ix2 B 1) (by omega) (by decide) ?_
    refine rn_go 80 (by with_unfolding_all rfl) ?_
    refine rn_br (by with_unfolding_all rfl) (fun c => ?_) (fun c => ?_)
    · exact absurd (by rw [show Am 0 (B + 1) = nI n from hn] at c; exact c) (nI_ge (show i < n by omega) (by omega))
    refine rn_go 80 (by with_unfolding_all rfl) ?_
    refine rn_ld (B + (13 + i)) (by with_unfolding_all rfl) (ix3 B i 13) (by omega) (by decide) ?_
    refine rn_go 80 (by with_unfolding_all rfl) ?_
    refine rn_cl (by with_unfolding_all rfl) (ev_up (by decide) (xm_costOf hB ht (show i < n by omega) hn4)) ?_
    refine rn_go 80 (by with_unfolding_all rfl) ?_
    refine rn_br (by with_unfolding_all rfl) (fun c2 => ?_) (fun c2 => ?_)
    · refine rn_to 4 80 (by with_unfolding_all rfl) ?_
      have e : ta (tv (Am 0) B) (i + 1) = ta (tv (Am 0) B) i ||| 0 := by
        rw [Int32.or_zero]
        simp only [ta]
        exact if_pos c2
      rw [e] at ih
      with_unfolding_all exact ih
    · refine rn_to 4 80 (by with_unfolding_all rfl) ?_
      have e : ta (tv (Am 0) B) (i + 1) = ta (tv (Am 0) B) i ||| (1 <<< (nI i &&& 31)) := by
        simp only [ta]
        exact if_neg c2
      rw [e] at ih
      with_unfolding_all exact ih
set_option maxRecDepth 10000 in
theorem xm_canSpeak {B n : Nat} (hB : B + 21 ≤ 672) (ht : okT (tv (Am 0) B) n) (hn : tv (Am 0) B 1 = nI n) (hn4 : n ≤ 4) : am_ev 3 170 [.ref 43, .int (nI B)] (wd g T A gm Am) (some (.int (ta (tv (Am 0) B) n))) (wd g T A gm Am) := by
  refine rn_ev am_m_X9_canSpeak rfl rfl ?_
  refine rn_to 4 80 (by with_unfolding_all rfl) ?_
  with_unfolding_all exact xm_canL hB ht hn hn4 n 0 (by omega)
set_option maxRecDepth 10000 in
theorem xm_weighs {B n p : Nat} (hB : B + 21 ≤ 672) (ht : okT (tv (Am 0) B) n) (hn : tv (Am 0) B 1 = nI n) (hn4 : n ≤ 4) (hp : p < n) : am_ev 4 171 [.ref 43, .int (nI B), .int (nI p)] (wd g T A gm Am) (some (.int (tw (tv (Am 0) B) p (ta (tv (Am 0) B) n)))) (wd g T A gm Am) := by
  refine rn_ev am_m_X9_weighs rfl rfl ?_
  refine rn_go 80 (by with_unfolding_all rfl) ?_
  refine rn_ld (B + (13 + p)) (by with_unfolding_all rfl) (ix3 B p 13) (by omega) (by decide) ?_
  refine rn_go 80 (by with_unfolding_all rfl) ?_
  refine rn_ld (B + (9 + p)) (by with_unfolding_all rfl) (ix3 B p 9) (by omega) (by decide) ?_
  refine rn_one (by with_unfolding_all rfl) ?_
  have hk := (ht.1 p hp).1
  unfold tw
  rcases hk with e | e | e | e | e
  · rw [show Am 0 (B + (9 + p)) = 1 from e, if_pos e]
    refine rn_go 80 (by with_unfolding_all rfl) ?_
    exact rn_rt (by with_unfolding_all rfl) trivial rfl rfl
  · rw [show Am 0 (B + (9 + p)) = 2 from e, if_neg (by rw [e]; decide), if_pos e]
    refine rn_go 80 (by with_unfolding_all rfl) ?_
    exact rn_rt (by with_unfolding_all rfl) trivial rfl rfl
  · rw [show Am 0 (B + (9 + p)) = 3 from e, if_neg (by rw [e]; decide), if_neg (by rw [e]; decide), if_pos e]
    refine rn_go 80 (by with_unfolding_all rfl) ?_
    exact rn_rt (by with_unfolding_all rfl) trivial rfl rfl
  · rw [show Am 0 (B + (9 + p)) = 4 from e, if_neg (by rw [e]; decide), if_neg (by rw [e]; decide), if_neg (by rw [e]; decide), if_pos e]
    refine rn_go 80 (by with_unfolding_all rfl) ?_
    exact rn_rt (by with_unfolding_all rfl) trivial rfl rfl
  · rw [show Am 0 (B + (9 + p)) = 5 from e, if_neg (by rw [e]; decide), if_neg (by rw [e]; decide), if_neg (by rw [e]; decide), if_neg (by rw [e]; decide)]
    refine rn_go 80 (by with_unfolding_all rfl) ?_
    refine rn_ld (B + 1) (by with_unfolding_all rfl) (ix2 B 1) (by omega) (by decide) ?_
    refine rn_go 80 (by with_unfolding_all rfl) ?_
    refine rn_cl (by with_unfolding_all rfl) (ev_up (by decide) (xm_canSpeak hB ht hn hn4)) ?_
    refine rn_go 80 (by with_unfolding_all rfl) ?_
    refine rn_cl (by with_unfolding_all rfl) (ev_up (by decide) (xm_bits _)) ?_
    refine rn_go 80 (by with_unfolding_all rfl) ?_
    exact rn_rt (by with_unfolding_all rfl) (trivial) (by rw [mbs_ta _ hn4]; rfl) (rfl)
set_option maxRecDepth 10000 in
theorem xm_wL {B n : Nat} (hB : B + 21 ≤ 672) (ht : okT (tv (Am 0) B) n) (hn : tv (Am 0) B 1 = nI n) (hn4 : n ≤ 4) (s : Int32) : ∀ k i, i + k = n → rn none 4 am_t_X9_weightOf (5, [some (.ref 43), some (.int (nI B)), some (.int s), some (.int (ts (tv (Am 0) B) s (ta (tv (Am 0) B) n) i)), some (.int (nI i))], [], wd g T A gm Am) (some (.int (ts (tv (Am 0) B) s (ta (tv (Am 0) B) n) n))) (wd g T A gm Am)
  | 0, i, hi => by
    have hin : i = n := by omega
    subst hin
    refine rn_go 80 (by with_unfolding_all rfl) ?_
    refine rn_ld (B + 1) (by with_unfolding_all rfl) (ix2 B 1) (by omega) (by decide) ?_
    refine rn_go 80 (by with_unfolding_all rfl) ?_
    refine rn_br (by with_unfolding_all rfl) (fun c => ?_) (fun c => ?_)
    · refine rn_go 80 (by with_unfolding_all rfl) ?_
      exact rn_rt (by with_unfolding_all rfl) trivial rfl rfl
    · exact absurd (by rw [show Am 0 (B + 1) = nI i from hn]; exact Int32.le_refl _) c
  | k + 1, i, hi => by
    have ih := xm_wL hB ht hn hn4 s k (i + 1) (by omega)
    rw [← nI_1] at ih
    refine rn_go 80 (by with_unfolding_all rfl) ?_
    refine rn_ld (B + 1) (by with_unfolding_all rfl) (ix2 B 1) (by omega) (by decide) ?_
    refine rn_go 80 (by with_unfolding_all rfl) ?_
    refine rn_br (by with_unfolding_all rfl) (fun c => ?_) (fun c => ?_)
    · exact absurd (by rw [show Am 0 (B + 1) = nI n from hn] at c; exact c) (nI_ge (show i < n by omega) (by omega))
    refine rn_go 80 (by with_unfolding_all rfl) ?_
    refine rn_cl (by with_unfolding_all rfl) (ev_up (by decide) (xm_has s i)) ?_
    refine rn_go 80 (by with_unfolding_all rfl) ?_
    refine rn_br (by with_unfolding_all rfl) (fun c2 => ?_) (fun c2 => ?_)
    · refine rn_to 5 80 (by with_unfolding_all rfl) ?_
      have e : ts (tv (Am 0) B) s (ta (tv (Am 0) B) n) (i + 1) = ts (tv (Am 0) B) s (ta (tv (Am 0) B) n) i + 0 := by
        rw [Int32.add_zero]
        simp only [ts]
        exact if_pos c2
      rw [e] at ih
      with_unfolding_all exact ih
    · refine rn_go 80 (by with_unfolding_all rfl) ?_
      refine rn_cl (by with_unfolding_all rfl) (ev_up (by decide) (xm_weighs hB ht hn hn4 (show i < n by omega))) ?_
      refine rn_to 5 80 (by with_unfolding_all rfl) ?_
      have e : ts (tv (Am 0) B) s (ta (tv (Am 0) B) n) (i + 1) = ts (tv (Am 0) B) s (ta (tv (Am 0) B) n) i + tw (tv (Am 0) B) i (ta (tv (Am 0) B) n) := by
        simp only [ts]
        exact if_neg c2
      rw [e] at ih
      with_unfolding_all exact ih
set_option maxRecDepth 10000 in
theorem xm_weightOf {B n : Nat} (hB : B + 21 ≤ 672) (ht : okT (tv (Am 0) B) n) (hn : tv (Am 0) B 1 = nI n) (hn4 : n ≤ 4) (s : Int32) : am_ev 5 172 [.ref 43, .int (nI B), .int s] (wd g T A gm Am) (some (.int (ts (tv (Am 0) B) s (ta (tv (Am 0) B) n) n))) (wd g T A gm Am) := by
  refine rn_ev am_m_X9_weightOf rfl rfl ?_
  refine rn_to 5 80 (by with_unfolding_all rfl) ?_
  with_unfolding_all exact xm_wL hB ht hn hn4 s n 0 (by omega)
set_option maxRecDepth 10000 in
theorem xm_motionOf {B mo dy : Nat} (hB : B + 21 ≤ 672) (hm : tv (Am 0) B 0 = nI mo) (h1 : 1 ≤ mo) (h4 : mo ≤ 4) (hd : tv (Am 0) B 3 = nI dy) (hdy : dy < 2000) : am_ev 1 173 [.ref 43, .int (nI B)] (wd g T A gm Am) (some (.int (nI (dy % mo)))) (wd g T A gm Am) := by
  refine rn_ev am_m_X9_motionOf rfl rfl ?_
  refine rn_go 80 (by with_unfolding_all rfl) ?_
  refine rn_ld (B + 3) (by with_unfolding_all rfl) (ix2 B 3) (by omega) (by decide) ?_
  refine rn_go 80 (by with_unfolding_all rfl) ?_
  refine rn_ld (B + 0) (by with_unfolding_all rfl) (ix2 B 0) (by omega) (by decide) ?_
  rw [show Am 0 (B + 3) = nI dy from hd, show Am 0 (B + 0) = nI mo from hm]
  refine rn_go 80 (by with_unfolding_all rfl) ?_
  refine rn_ck (by with_unfolding_all rfl) (nI_ne0 h1 (by omega)) ?_
  refine rn_go 80 (by with_unfolding_all rfl) ?_
  exact rn_rt (by with_unfolding_all rfl) (trivial) (by rw [← pk_rem (by omega) h1 (by omega)]) (rfl)
set_option maxRecDepth 10000 in
theorem xm_isCarried {B n mo dy : Nat} (hB : B + 21 ≤ 672) (ht : okT (tv (Am 0) B) n) (hn : tv (Am 0) B 1 = nI n) (hn4 : n ≤ 4) (hm : tv (Am 0) B 0 = nI mo) (h1 : 1 ≤ mo) (h4 : mo ≤ 4) (hd : tv (Am 0) B 3 = nI dy) (hdy : dy < 2000) (s : Int32) : am_ev 6 174 [.ref 43, .int (nI B), .int s] (wd g T A gm Am) (some (.int (cw (tv (Am 0) B) s (ta (tv (Am 0) B) n) n dy mo))) (wd g T A gm Am) := by
  have hlt : dy % mo < 4 := Nat.lt_of_lt_of_le (Nat.mod_lt _ h1) h4
  refine rn_ev am_m_X9_isCarried rfl rfl ?_
  refine rn_go 80 (by with_unfolding_all rfl) ?_
  refine rn_cl (by with_unfolding_all rfl) (ev_up (by decide) (xm_weightOf hB ht hn hn4 s)) ?_
  refine rn_go 80 (by with_unfolding_all rfl) ?_
  refine rn_cl (by with_unfolding_all rfl) (ev_up (by decide) (xm_motionOf hB hm h1 h4 hd hdy)) ?_
  refine rn_go 80 (by with_unfolding_all rfl) ?_
  refine rn_ld (B + (5 + dy % mo)) (by with_unfolding_all rfl) (ix3 B (dy % mo) 5) (by omega) (by decide) ?_
  refine rn_go 80 (by with_unfolding_all rfl) ?_
  refine rn_br (by with_unfolding_all rfl) (fun c => ?_) (fun c => ?_)
  · rw [show cw (tv (Am 0) B) s (ta (tv (Am 0) B) n) n dy mo = 0 from if_pos c]
    refine rn_go 80 (by with_unfolding_all rfl) ?_
    exact rn_rt (by with_unfolding_all rfl) (Or.inl rfl) (rfl) (rfl)
  · rw [show cw (tv (Am 0) B) s (ta (tv (Am 0) B) n) n dy mo = 1 from if_neg c]
    refine rn_go 80 (by with_unfolding_all rfl) ?_
    exact rn_rt (by with_unfolding_all rfl) (Or.inr rfl) (rfl) (rfl)
end

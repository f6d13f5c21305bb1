/-! bits (these rows began as rows of kit/laws/BITS.to-paste) -/
def bt (x : Int32) (i : Nat) : Bool := x.toBitVec.getLsbD i
set_option maxRecDepth 10000 in
theorem b_ext {x y : Int32} (h : ∀ i, i < 32 → bt x i = bt y i) : x = y := Int32.toBitVec_inj.mp (BitVec.eq_of_getLsbD_eq (fun i hi => h i hi))
set_option maxRecDepth 10000 in
theorem b_or (x y : Int32) (i : Nat) : bt (x ||| y) i = (bt x i || bt y i) := by unfold bt; rw [Int32.toBitVec_or, BitVec.getLsbD_or]
set_option maxRecDepth 10000 in
theorem b_and (x y : Int32) (i : Nat) : bt (x &&& y) i = (bt x i && bt y i) := by unfold bt; rw [Int32.toBitVec_and, BitVec.getLsbD_and]
set_option maxRecDepth 10000 in
theorem b_xor (x y : Int32) (i : Nat) : bt (x ^^^ y) i = (bt x i ^^ bt y i) := by unfold bt; rw [Int32.toBitVec_xor, BitVec.getLsbD_xor]
set_option maxRecDepth 10000 in
theorem b_m1 : ∀ i, i < 32 → bt (-1) i = true := by decide +kernel
set_option maxRecDepth 10000 in
theorem b_0 (i : Nat) : bt 0 i = false := BitVec.getLsbD_zero
set_option maxRecDepth 10000 in
theorem s_l : ∀ n, n < 32 → ((nI n &&& 31).toBitVec.smod 32).toNat = n := by decide +kernel
set_option maxRecDepth 10000 in
theorem b_sshr (n : Nat) (hn : n < 32) (x : Int32) {i : Nat} (hi : i < 32) : bt (x >>> (nI n &&& 31)) i = if n + i < 32 then bt x (n + i) else bt x 31 := by
  unfold bt
  rw [Int32.toBitVec_shiftRight]
  show (x.toBitVec.sshiftRight ((nI n &&& 31).toBitVec.smod 32).toNat).getLsbD i = _
  rw [s_l n hn, BitVec.getLsbD_sshiftRight, BitVec.msb_eq_getLsbD_last]
  simp [hi]
set_option maxRecDepth 10000 in
theorem tb_bt {s : Int32} {i : Nat} (hi : i < 32) : tb s i = 0 ↔ bt s i = false := by
  have h0 : bt (tb s i) 0 = bt s i := by
    unfold tb
    rw [b_and, b_sshr i hi s (by decide), if_pos (by omega), Nat.add_zero]
    have : bt 1 0 = true := by decide +kernel
    rw [this, Bool.and_true]
  rcases tb01 s i with h | h
  · rw [h] at h0 ⊢
    rw [← h0, b_0]
    exact ⟨fun _ => rfl, fun _ => rfl⟩
  · rw [h] at h0 ⊢
    have : bt 1 0 = true := by decide +kernel
    rw [← h0, this]
    exact ⟨fun q => absurd q (by decide), fun q => absurd q (by decide)⟩
/-! two towns that agree in what counts answer alike -/
def Eqv (n mo : Nat) (t t' : Nat → Int32) : Prop := (∀ k, k < 5 → t k = t' k) ∧ (∀ m, m < mo → t (5 + m) = t' (5 + m)) ∧ ∀ p, p < n → t (9 + p) = t' (9 + p) ∧ t (13 + p) = t' (13 + p) ∧ t (17 + p) = t' (17 + p)
section
variable {n mo : Nat} {t t' t2 : Nat → Int32} {s a : Int32}
set_option maxRecDepth 10000 in
theorem eqv_21 (hn : n ≤ 4) (hm : mo ≤ 4) (h : ∀ k, k < 21 → t k = t' k) : Eqv n mo t t' := ⟨fun k hk => h k (by omega), fun m hm => h _ (by omega), fun p hp => ⟨h _ (by omega), h _ (by omega), h _ (by omega)⟩⟩
set_option maxRecDepth 10000 in
theorem eqv_rf : Eqv n mo t t := ⟨fun _ _ => rfl, fun _ _ => rfl, fun _ _ => ⟨rfl, rfl, rfl⟩⟩
set_option maxRecDepth 10000 in
theorem eqv_sy (h : Eqv n mo t t') : Eqv n mo t' t := ⟨fun k hk => (h.1 k hk).symm, fun m hm => (h.2.1 m hm).symm, fun p hp => ⟨(h.2.2 p hp).1.symm, (h.2.2 p hp).2.1.symm, (h.2.2 p hp).2.2.symm⟩⟩
set_option maxRecDepth 10000 in
theorem eqv_tr (h : Eqv n mo t t') (h2 : Eqv n mo t' t2) : Eqv n mo t t2 := ⟨fun k hk => (h.1 k hk).trans (h2.1 k hk), fun m hm => (h.2.1 m hm).trans (h2.2.1 m hm), fun p hp => ⟨(h.2.2 p hp).1.trans (h2.2.2 p hp).1, (h.2.2 p hp).2.1.trans (h2.2.2 p hp).2.1, (h.2.2 p hp).2.2.trans (h2.2.2 p hp).2.2⟩⟩
set_option maxRecDepth 10000 in
theorem cg_tc (h : Eqv n mo t t') {p : Nat} (hp : p < n) : tc t p = tc t' p := by
  unfold tc
  rw [(h.2.2 p hp).1, h.1 2 (by decide)]
set_option maxRecDepth 10000 in
theorem cg_ta (h : Eqv n mo t t') : ∀ i, i ≤ n → ta t i = ta t' i
  | 0, _ => rfl
  | i + 1, hi => by
    unfold ta
    rw [cg_ta h i (by omega), cg_tc h (show i < n by omega), (h.2.2 i (by omega)).2.1]
set_option maxRecDepth 10000 in
theorem cg_tw (h : Eqv n mo t t') {p : Nat} (hp : p < n) : tw t p a = tw t' p a := by
  unfold tw
  rw [(h.2.2 p hp).1, (h.2.2 p hp).2.1, h.1 1 (by decide)]
set_option maxRecDepth 10000 in
theorem cg_ts (h : Eqv n mo t t') : ∀ i, i ≤ n → ts t s a i = ts t' s a i
  | 0, _ => rfl
  | i + 1, hi => by
    unfold ts
    rw [cg_ts h i (by omega), cg_tw h (show i < n by omega)]
set_option maxRecDepth 10000 in
theorem cg_cw (h : Eqv n mo t t') {dy : Nat} (h1 : 1 ≤ mo) : cw t s a n dy mo = cw t' s a n dy mo := by
  unfold cw tn
  rw [cg_ts h n (Nat.le_refl _), h.2.1 _ (Nat.mod_lt _ h1)]
set_option maxRecDepth 10000 in
theorem cg_pb (h : Eqv n mo t t') {p : Nat} (hp : p < n) : pb t s p = pb t' s p := by
  unfold pb dr
  rw [(h.2.2 p hp).1, (h.2.2 p hp).2.1, (h.2.2 p hp).2.2, h.1 3 (by decide), cg_tc h hp]
set_option maxRecDepth 10000 in
theorem pd_lo {k : Nat} {c : Int32} (h1 : k < 13 ∨ 13 + n ≤ k) (h2 : k ≠ 3) (h3 : k ≠ 4) : pd t s n c k = t k := by
  unfold pd
  rw [up_ne h2, up_ne h3, pq_lo n k h1]
set_option maxRecDepth 10000 in
theorem pd_3 {c : Int32} : pd t s n c 3 = t 3 + 1 := by
  unfold pd
  rw [up_eq]
set_option maxRecDepth 10000 in
theorem pd_4 {c : Int32} : pd t s n c 4 = t 4 + c := by
  unfold pd
  rw [up_ne (by decide), up_eq]
set_option maxRecDepth 10000 in
theorem pd_br {c : Int32} {p : Nat} (hp : p < n) (hn4 : n ≤ 4) : pd t s n c (13 + p) = pb t s p := by
  unfold pd
  rw [up_ne (by omega), up_ne (by omega), pq_br n p hp hn4]
set_option maxRecDepth 10000 in
theorem cg_pd (h : Eqv n mo t t') (hn4 : n ≤ 4) (hm4 : mo ≤ 4) (c : Int32) : Eqv n mo (pd t s n c) (pd t' s n c) := by
  refine ⟨fun k hk => ?_, fun m hm => ?_, fun p hp => ⟨?_, ?_, ?_⟩⟩
  · by_cases h3 : k = 3
    · rw [h3, pd_3, pd_3, h.1 3 (by decide)]
    by_cases h4 : k = 4
    · rw [h4, pd_4, pd_4, h.1 4 (by decide)]
    rw [pd_lo (by omega) h3 h4, pd_lo (by omega) h3 h4, h.1 k hk]
  · rw [pd_lo (by omega) (by omega) (by omega), pd_lo (by omega) (by omega) (by omega), h.2.1 m hm]
  · rw [pd_lo (by omega) (by omega) (by omega), pd_lo (by omega) (by omega) (by omega), (h.2.2 p hp).1]
  · rw [pd_br hp hn4, pd_br hp hn4, cg_pb h hp]
  · rw [pd_lo (by omega) (by omega) (by omega), pd_lo (by omega) (by omega) (by omega), (h.2.2 p hp).2.2]
set_option maxRecDepth 10000 in
theorem cg_ok (h : Eqv n mo t t') (ht : okT t n) : okT t' n := by
  refine ⟨fun p hp => ?_, by rw [← h.1 2 (by decide)]; exact ht.2⟩
  rw [← (h.2.2 p hp).1, ← (h.2.2 p hp).2.1, ← (h.2.2 p hp).2.2]
  exact ht.1 p hp
set_option maxRecDepth 10000 in
theorem cg_hm (h : Eqv n mo t t') (p : Int32) : hm t p = hm t' p := by
  unfold hm
  rw [h.1 1 (by decide)]
set_option maxRecDepth 10000 in
theorem cg_hmo (h : Eqv n mo t t') (p : Int32) : hmo t p = hmo t' p := by
  unfold hmo
  rw [h.1 0 (by decide)]
set_option maxRecDepth 10000 in
theorem cg_hst (h : Eqv n mo t t') (p : Int32) : hst t p = hst t' p := by
  unfold hst
  rw [h.1 1 (by decide)]
/-! who can speak, by bits -/
set_option maxRecDepth 10000 in
theorem tb_ta (t : Nat → Int32) : ∀ (n i : Nat), n ≤ 4 → i < n → (¬ tb (ta t n) i = 0 ↔ ¬ t (13 + i) < tc t i)
  | 0, i, _, h => by omega
  | n + 1, i, h4, hi => by
    have hb : ∀ k, k < 16 → ∀ i, i < 4 → (tb (nI k) i = 0 ↔ k.testBit i = false) := by decide +kernel
    have hor : ∀ k, k < 8 → ∀ n, n < 4 → ∀ i, i < 4 → (tb (nI k ||| (1 <<< (nI n &&& 31))) i = 0 ↔ (k.testBit i = false ∧ i ≠ n)) := by decide +kernel
    obtain ⟨k, hk, e⟩ := ta_lt t n (by omega)
    have hk8 : k < 8 := Nat.lt_of_lt_of_le hk (Nat.pow_le_pow_right (by decide) (show n ≤ 3 by omega))
    have hlow : n ≤ i → k.testBit i = false := fun q => Nat.testBit_lt_two_pow (Nat.lt_of_lt_of_le hk (Nat.pow_le_pow_right (by decide) q))
    by_cases hin : i = n
    · subst hin
      unfold ta
      by_cases c : t (13 + i) < tc t i
      · rw [if_pos c, e, hb k (by omega) i (by omega), hlow (Nat.le_refl _)]
        exact ⟨fun q => absurd rfl q, fun q => absurd c q⟩
      · rw [if_neg c, e, hor k hk8 i (by omega) i (by omega)]
        exact ⟨fun _ => c, fun _ q => q.2 rfl⟩
    · have ih := tb_ta t n i (by omega) (by omega)
      rw [e, hb k (by omega) i (by omega)] at ih
      unfold ta
      by_cases c : t (13 + n) < tc t n
      · rw [if_pos c, e, hb k (by omega) i (by omega)]
        exact ih
      · rw [if_neg c, e, hor k hk8 n (by omega) i (by omega)]
        rw [← ih]
        exact ⟨fun q r => q ⟨r, hin⟩, fun q r => q r.1⟩
set_option maxRecDepth 10000 in
theorem tb_sub {n : Nat} (hn4 : n ≤ 4) (h : s &&& (ta t n ^^^ -1) = 0) {i : Nat} (hi : i < n) (hb : ¬ tb s i = 0) : tc t i ≤ t (13 + i) := by
  have h1 : ¬ tb (ta t n) i = 0 := by
    rw [tb_bt (by omega)] at hb ⊢
    intro q
    apply hb
    have h3 := congrArg (fun x => bt x i) h
    simp only [b_and, b_xor, b_0, b_m1 i (by omega), q] at h3
    simpa using h3
  exact Int32.not_lt.mp ((tb_ta t n i hn4 hi).mp h1)
end

/-! rows: the class's and the reference's -/
def ir (x : Int32) : Int32 := if x < 0 then 0 else if 8 ≤ x then 0 else 1
def btw (x a b : Int32) : Int32 := if x < a then 0 else if b < x then 0 else 1
def inn (x a b : Int64) : Int32 := if lg_cmp x a < 0 then 0 else if 0 < lg_cmp x b then 0 else 1
def hp (len i n : Int32) : Int32 := if i < 0 then 0 else if n < 0 then 0 else if len < i then 0 else if len - i < n then 0 else 1
def nar (l v : Int32) : Int32 := if l = 0 then v.toInt8.toInt32 else if l = 1 then v.toInt16.toInt32 else v
def z40 (f : Nat → Int32) (b : Nat) : Nat → Nat → Int32
  | 0 => f
  | i + 1 => upd (z40 f b i) (b + i) 0
def sRow (r l n s : Int32) (a0 a1 a2 : Nat → Int32) : Int32 × Int32 × (Nat → Int32) × (Nat → Int32) × (Nat → Int32) :=
  if ir r = 0 then (-1000001, s, a0, a1, a2) else if l < 0 then (-1000001, s, a0, a1, a2) else if 2 < l then (-1000001, s, a0, a1, a2) else if n ≤ 40 then (if 0 ≤ n then (n, 0, upd a0 r.toNatClampNeg l, upd a1 r.toNatClampNeg n, z40 a2 (40 * r.toNatClampNeg) 40) else (-1000014, 4, a0, a1, a2)) else (-1000001, s, a0, a1, a2)
def sSet (r i v s : Int32) (a0 a1 a2 : Nat → Int32) : Int32 × Int32 × (Nat → Int32) :=
  if ir r = 0 then (-1000001, s, a2) else if a1 r.toNatClampNeg = -1 then (-1000011, 1, a2) else if hp (a1 r.toNatClampNeg) i 1 = 0 then (-1000012, 2, a2) else (nar (a0 r.toNatClampNeg) v, 0, upd a2 (40 * r.toNatClampNeg + i.toNatClampNeg) (nar (a0 r.toNatClampNeg) v))
def sCopy (a i b j n s : Int32) (a0 a1 a2 : Nat → Int32) : Int32 × Int32 × (Nat → Int32) :=
  if ir a = 0 then (-1000001, s, a2) else if ir b = 0 then (-1000001, s, a2) else if a1 a.toNatClampNeg = -1 then (-1000011, 1, a2) else if a1 b.toNatClampNeg = -1 then (-1000011, 1, a2) else if a0 a.toNatClampNeg = a0 b.toNatClampNeg then (if hp (a1 a.toNatClampNeg) i n = 0 then (-1000012, 2, a2) else if hp (a1 b.toNatClampNeg) j n = 0 then (-1000012, 2, a2) else (n, 0, va_cpy a2 a2 (40 * a.toNatClampNeg + i.toNatClampNeg) (40 * b.toNatClampNeg + j.toNatClampNeg) n.toNatClampNeg)) else (-1000015, 5, a2)
def sDrop (r s : Int32) (a1 : Nat → Int32) : Int32 × Int32 × (Nat → Int32) :=
  if ir r = 0 then (-1000001, s, a1) else if a1 r.toNatClampNeg = -1 then (-1000011, 1, a1) else (a1 r.toNatClampNeg, 0, upd a1 r.toNatClampNeg (-1))
set_option maxRecDepth 10000 in
theorem ir_of {x : Int32} (h : ¬ ir x = 0) : ∃ k : Nat, k < 8 ∧ x = nI k := by
  unfold ir at h
  by_cases h1 : x < 0
  · rw [if_pos h1] at h; exact absurd rfl h
  · rw [if_neg h1] at h
    by_cases h2 : 8 ≤ x
    · rw [if_pos h2] at h; exact absurd rfl h
    · rcases pk_ix x (n := 8) (by decide) with h3 | h3 | h3
      · exact absurd h3 h1
      · exact absurd h3 h2
      · exact h3
/-- the lengths of rows, and their lanes -/
def okR (a0 a1 : Nat → Int32) : Prop := ∀ k, k < 8 → (a1 k = -1 ∨ ∃ l : Nat, l ≤ 40 ∧ a1 k = nI l) ∧ (a0 k = 0 ∨ a0 k = 1 ∨ a0 k = 2)
set_option maxRecDepth 10000 in
theorem hp_of {l : Nat} {i n : Int32} (hl : l ≤ 40) (h : ¬ hp (nI l) i n = 0) : ∃ a c : Nat, i = nI a ∧ n = nI c ∧ a + c ≤ l := by
  unfold hp at h
  by_cases h1 : i < 0
  · rw [if_pos h1] at h; exact absurd rfl h
  rw [if_neg h1] at h
  by_cases h2 : n < 0
  · rw [if_pos h2] at h; exact absurd rfl h
  rw [if_neg h2] at h
  by_cases h3 : nI l < i
  · rw [if_pos h3] at h; exact absurd rfl h
  rw [if_neg h3] at h
  by_cases h4 : nI l - i < n
  · rw [if_pos h4] at h; exact absurd rfl h
  obtain ⟨a, ha, rfl⟩ := nI_of h1
  obtain ⟨c, hc, rfl⟩ := nI_of h2
  have h5 : a ≤ l := by
    rcases Nat.lt_or_ge l a with q | q
    · exact absurd (nI_lt q ha) h3
    · exact q
  rw [pk_sub h5] at h4
  have h6 : c ≤ l - a := by
    rcases Nat.lt_or_ge (l - a) c with q | q
    · exact absurd (nI_lt q hc) h4
    · exact q
  exact ⟨a, c, rfl, rfl, by omega⟩
set_option maxRecDepth 10000 in
theorem z40_eq {f : Nat → Int32} {b : Nat} : ∀ (i : Nat), z40 f b (i + 1) = upd (z40 f b i) (b + i) 0 := fun _ => rfl
section
variable {g gm : Nat → Int32} {T A Am : Nat → Nat → Int32} {h : am_H}
set_option maxRecDepth 10000 in
theorem x8_found (k : Int32) : am_ev 1 127 [.ref 0, .int k] (wd g T A gm Am) (some (.int (-1000010 - k))) (wd (upd g 1 k) T A gm Am) := by
  refine rn_ev am_m_X8_found rfl rfl ?_
  refine rn_to 5 80 (by with_unfolding_all rfl) ?_
  refine rn_hp (by with_unfolding_all exact (wG_1)) ?_
  refine rn_go 80 (by with_unfolding_all rfl) ?_
  exact rn_rt (by with_unfolding_all rfl) trivial rfl rfl
set_option maxRecDepth 10000 in
theorem x8_well (k : Int32) : am_ev 1 128 [.ref 0, .int k] (wd g T A gm Am) (some (.int k)) (wd (upd g 1 0) T A gm Am) := by
  refine rn_ev am_m_X8_foundNothing rfl rfl ?_
  refine rn_to 5 80 (by with_unfolding_all rfl) ?_
  refine rn_hp (by with_unfolding_all exact (wG_1)) ?_
  refine rn_go 80 (by with_unfolding_all rfl) ?_
  exact rn_rt (by with_unfolding_all rfl) trivial rfl rfl
set_option maxRecDepth 10000 in
theorem x6_isRow (x : Int32) : am_ev 1 66 [.ref 1, .int x] (wd g T A gm Am) (some (.int (ir x))) (wd g T A gm Am) := by
  refine rn_ev am_m_X6_isRow rfl rfl ?_
  refine rn_go 80 (by with_unfolding_all rfl) ?_
  unfold ir
  refine rn_br (by with_unfolding_all rfl) (fun c => ?_) (fun c => ?_)
  · rw [if_pos c]
    refine rn_go 80 (by with_unfolding_all rfl) ?_
    exact rn_rt (by with_unfolding_all rfl) (Or.inl rfl) (rfl) (rfl)
  · rw [if_neg c]
    refine rn_go 80 (by with_unfolding_all rfl) ?_
    refine rn_br (by with_unfolding_all rfl) (fun c2 => ?_) (fun c2 => ?_)
    · rw [if_pos c2]
      refine rn_go 80 (by with_unfolding_all rfl) ?_
      exact rn_rt (by with_unfolding_all rfl) (Or.inl rfl) (rfl) (rfl)
    · rw [if_neg c2]
      refine rn_go 80 (by with_unfolding_all rfl) ?_
      exact rn_rt (by with_unfolding_all rfl) (Or.inr rfl) (rfl) (rfl)
set_option maxRecDepth 10000 in
theorem x6_isMissing {k : Nat} (hk : k < 8) : am_ev 1 67 [.ref 1, .int (nI k)] (wd g T A gm Am) (some (.int (if A 1 k = -1 then 1 else 0))) (wd g T A gm Am) := by
  refine rn_ev am_m_X6_isMissing rfl rfl ?_
  refine rn_go 80 (by with_unfolding_all rfl) ?_
  refine rn_ld (k) (by with_unfolding_all rfl) rfl hk (by decide) ?_
  refine rn_go 80 (by with_unfolding_all rfl) ?_
  refine rn_br (by with_unfolding_all rfl) (fun c => ?_) (fun c => ?_)
  · rw [if_pos c]
    refine rn_go 80 (by with_unfolding_all rfl) ?_
    exact rn_rt (by with_unfolding_all rfl) (Or.inr rfl) (rfl) (rfl)
  · rw [if_neg c]
    refine rn_go 80 (by with_unfolding_all rfl) ?_
    exact rn_rt (by with_unfolding_all rfl) (Or.inl rfl) (rfl) (rfl)
set_option maxRecDepth 10000 in
theorem x6_sameLane {k l : Nat} (hk : k < 8) (hl : l < 8) : am_ev 1 68 [.ref 1, .int (nI k), .int (nI l)] (wd g T A gm Am) (some (.int (if A 0 k = A 0 l then 1 else 0))) (wd g T A gm Am) := by
  refine rn_ev am_m_X6_sameLane rfl rfl ?_
  refine rn_go 80 (by with_unfolding_all rfl) ?_
  refine rn_ld (k) (by with_unfolding_all rfl) rfl hk (by decide) ?_
  refine rn_go 80 (by with_unfolding_all rfl) ?_
  refine rn_ld (l) (by with_unfolding_all rfl) rfl hl (by decide) ?_
  refine rn_go 80 (by with_unfolding_all rfl) ?_
  refine rn_br (by with_unfolding_all rfl) (fun c => ?_) (fun c => ?_)
  · rw [if_pos c]
    refine rn_go 80 (by with_unfolding_all rfl) ?_
    exact rn_rt (by with_unfolding_all rfl) (Or.inr rfl) (rfl) (rfl)
  · rw [if_neg c]
    refine rn_go 80 (by with_unfolding_all rfl) ?_
    exact rn_rt (by with_unfolding_all rfl) (Or.inl rfl) (rfl) (rfl)
set_option maxRecDepth 10000 in
theorem x6_hasPlaces {k : Nat} (hk : k < 8) (i n : Int32) : am_ev 1 69 [.ref 1, .int (nI k), .int i, .int n] (wd g T A gm Am) (some (.int (hp (A 1 k) i n))) (wd g T A gm Am) := by
  refine rn_ev am_m_X6_hasPlaces rfl rfl ?_
  refine rn_go 80 (by with_unfolding_all rfl) ?_
  refine rn_ld (k) (by with_unfolding_all rfl) rfl hk (by decide) ?_
  refine rn_go 80 (by with_unfolding_all rfl) ?_
  unfold hp
  refine rn_br (by with_unfolding_all rfl) (fun c => ?_) (fun c => ?_)
  · rw [if_pos c]
    refine rn_go 80 (by with_unfolding_all rfl) ?_
    exact rn_rt (by with_unfolding_all rfl) (Or.inl rfl) (rfl) (rfl)
  rw [if_neg c]
  refine rn_go 80 (by with_unfolding_all rfl) ?_
  refine rn_br (by with_unfolding_all rfl) (fun c2 => ?_) (fun c2 => ?_)
  · rw [if_pos c2]
    refine rn_go 80 (by with_unfolding_all rfl) ?_
    exact rn_rt (by with_unfolding_all rfl) (Or.inl rfl) (rfl) (rfl)
  rw [if_neg c2]
  refine rn_go 80 (by with_unfolding_all rfl) ?_
  refine rn_br (by with_unfolding_all rfl) (fun c3 => ?_) (fun c3 => ?_)
  · rw [if_pos c3]
    refine rn_go 80 (by with_unfolding_all rfl) ?_
    exact rn_rt (by with_unfolding_all rfl) (Or.inl rfl) (rfl) (rfl)
  rw [if_neg c3]
  refine rn_go 80 (by with_unfolding_all rfl) ?_
  refine rn_br (by with_unfolding_all rfl) (fun c4 => ?_) (fun c4 => ?_)
  · rw [if_pos c4]
    refine rn_go 80 (by with_unfolding_all rfl) ?_
    exact rn_rt (by with_unfolding_all rfl) (Or.inl rfl) (rfl) (rfl)
  rw [if_neg c4]
  refine rn_go 80 (by with_unfolding_all rfl) ?_
  exact rn_rt (by with_unfolding_all rfl) (Or.inr rfl) (rfl) (rfl)
set_option maxRecDepth 10000 in
theorem x6_item {k i : Nat} (hk : k < 8) (hi : i < 40) : am_ev 1 72 [.ref 1, .int (nI k), .int (nI i)] (wd g T A gm Am) (some (.int (A 2 (40 * k + i)))) (wd g T A gm Am) := by
  refine rn_ev am_m_X6_item rfl rfl ?_
  refine rn_go 80 (by with_unfolding_all rfl) ?_
  refine rn_ld (40 * k + i) (by with_unfolding_all rfl) (by rw [show (40 : Int32) = nI 40 from rfl, pk_mul, nI_add, Nat.mul_comm]) (by omega) (by decide) ?_
  refine rn_go 80 (by with_unfolding_all rfl) ?_
  exact rn_rt (by with_unfolding_all rfl) trivial rfl rfl
set_option maxRecDepth 10000 in
theorem x6_put {k i : Nat} (hk : k < 8) (hi : i < 40) (v : Int32) : am_ev 1 73 [.ref 1, .int (nI k), .int (nI i), .int v] (wd g T A gm Am) (some (.int (nar (A 0 k) v))) (wd g T (tu A 2 (upd (A 2) (40 * k + i) (nar (A 0 k) v))) gm Am) := by
  refine rn_ev am_m_X6_put rfl rfl ?_
  refine rn_go 80 (by with_unfolding_all rfl) ?_
  refine rn_ld (k) (by with_unfolding_all rfl) rfl hk (by decide) ?_
  refine rn_go 80 (by with_unfolding_all rfl) ?_
  unfold nar
  refine rn_br (by with_unfolding_all rfl) (fun c => ?_) (fun c => ?_)
  · rw [if_pos c]
    refine rn_go 80 (by with_unfolding_all rfl) ?_
    refine rn_st (40 * k + i) (by with_unfolding_all rfl) (by rw [show (40 : Int32) = nI 40 from rfl, pk_mul, nI_add, Nat.mul_comm]) (by omega) (by decide) ?_
    refine rn_hp (by with_unfolding_all exact (wA_2)) ?_
    refine rn_go 80 (by with_unfolding_all rfl) ?_
    exact rn_rt (by with_unfolding_all rfl) trivial rfl rfl
  rw [if_neg c]
  refine rn_go 80 (by with_unfolding_all rfl) ?_
  refine rn_ld (k) (by with_unfolding_all rfl) rfl hk (by decide) ?_
  refine rn_go 80 (by with_unfolding_all rfl) ?_
  refine rn_br (by with_unfolding_all rfl) (fun c2 => ?_) (fun c2 => ?_)
  · rw [if_pos c2]
    refine rn_go 80 (by with_unfolding_all rfl) ?_
    refine rn_st (40 * k + i) (by with_unfolding_all rfl) (by rw [show (40 : Int32) = nI 40 from rfl, pk_mul, nI_add, Nat.mul_comm]) (by omega) (by decide) ?_
    refine rn_hp (by with_unfolding_all exact (wA_2)) ?_
    refine rn_go 80 (by with_unfolding_all rfl) ?_
    exact rn_rt (by with_unfolding_all rfl) trivial rfl rfl
  rw [if_neg c2]
  refine rn_go 80 (by with_unfolding_all rfl) ?_
  refine rn_st (40 * k + i) (by with_unfolding_all rfl) (by rw [show (40 : Int32) = nI 40 from rfl, pk_mul, nI_add, Nat.mul_comm]) (by omega) (by decide) ?_
  refine rn_hp (by with_unfolding_all exact (wA_2)) ?_
  refine rn_go 80 (by with_unfolding_all rfl) ?_
  exact rn_rt (by with_unfolding_all rfl) trivial rfl rfl
set_option maxRecDepth 10000 in
theorem x6_lose {k : Nat} (hk : k < 8) : am_ev 1 75 [.ref 1, .int (nI k)] (wd g T A gm Am) (some (.int (A 1 k))) (wd g T (tu A 1 (upd (A 1) k (-1))) gm Am) := by
  refine rn_ev am_m_X6_lose rfl rfl ?_
  refine rn_go 80 (by with_unfolding_all rfl) ?_
  refine rn_ld (k) (by with_unfolding_all rfl) rfl hk (by decide) ?_
  refine rn_go 80 (by with_unfolding_all rfl) ?_
  refine rn_st (k) (by with_unfolding_all rfl) rfl hk (by decide) ?_
  refine rn_hp (by with_unfolding_all exact (wA_1)) ?_
  refine rn_go 80 (by with_unfolding_all rfl) ?_
  exact rn_rt (by with_unfolding_all rfl) trivial rfl rfl
set_option maxRecDepth 10000 in
theorem x6_makeL {k : Nat} (hk : k < 8) (l n : Int32) : ∀ m i, i + m = 40 → rn none 0 am_t_X6_make (17, [some (.ref 1), some (.int (nI k)), some (.int l), some (.int n), some (.int (nI i))], [], wd g T (tu A 2 (z40 (A 2) (40 * k) i)) gm Am) none (wd g T (tu A 2 (z40 (A 2) (40 * k) 40)) gm Am)
  | 0, i, hi => by
    have hi : i = 40 := by omega
    subst hi
    refine rn_go 80 (by with_unfolding_all rfl) ?_
    refine rn_br (by with_unfolding_all rfl) (fun c => ?_) (fun c => ?_)
    · refine rn_go 80 (by with_unfolding_all rfl) ?_
      exact rn_rt (by with_unfolding_all rfl) trivial rfl rfl
    · exact absurd (by decide) c
  | m + 1, i, hi => by
    have ih := x6_makeL hk l n m (i + 1) (by omega)
    refine rn_go 80 (by with_unfolding_all rfl) ?_
    refine rn_br (by with_unfolding_all rfl) (fun c => ?_) (fun c => ?_)
    · exact absurd c (nI_ge (show i < 40 by omega) (by decide))
    refine rn_go 80 (by with_unfolding_all rfl) ?_
    refine rn_st (40 * k + i) (by with_unfolding_all rfl) (by rw [show (40 : Int32) = nI 40 from rfl, pk_mul, nI_add, Nat.mul_comm]) (by omega) (by decide) ?_
    refine rn_hp (by with_unfolding_all exact (wA_2)) ?_
    refine rn_to 17 80 (by with_unfolding_all rfl) ?_
    rw [tu_tu, tu_s]
    rw [z40_eq, ← nI_1] at ih
    with_unfolding_all exact ih
set_option maxRecDepth 10000 in
theorem x6_make {k : Nat} (hk : k < 8) (l n : Int32) : am_ev 1 71 [.ref 1, .int (nI k), .int l, .int n] (wd g T A gm Am) none (wd g T (tu (tu (tu A 0 (upd (A 0) k l)) 1 (upd (A 1) k n)) 2 (z40 (A 2) (40 * k) 40)) gm Am) := by
  refine rn_ev am_m_X6_make rfl rfl ?_
  refine rn_go 80 (by with_unfolding_all rfl) ?_
  refine rn_st (k) (by with_unfolding_all rfl) rfl hk (by decide) ?_
  refine rn_hp (by with_unfolding_all exact (wA_0)) ?_
  refine rn_go 80 (by with_unfolding_all rfl) ?_
  refine rn_st (k) (by with_unfolding_all rfl) rfl hk (by decide) ?_
  refine rn_hp (by with_unfolding_all exact (wA_1)) ?_
  refine rn_to 17 80 (by with_unfolding_all rfl) ?_
  have key := x6_makeL (g := g) (T := T) (gm := gm) (Am := Am) (A := tu (tu A 0 (upd (A 0) k l)) 1 (upd (A 1) k n)) hk l n 40 0 rfl
  with_unfolding_all exact key
set_option maxRecDepth 10000 in
theorem x6_move {a b i j n : Nat} (ha : a < 8) (hb : b < 8) (h1 : i + n ≤ 40) (h2 : j + n ≤ 40) : am_ev 1 74 [.ref 1, .int (nI a), .int (nI i), .int (nI b), .int (nI j), .int (nI n)] (wd g T A gm Am) none (wd g T (tu A 2 (va_cpy (A 2) (A 2) (40 * a + i) (40 * b + j) n)) gm Am) := by
  have e1 : nI a * 40 + nI i = nI (40 * a + i) := by rw [show (40 : Int32) = nI 40 from rfl, pk_mul, nI_add, Nat.mul_comm]
  have e2 : nI b * 40 + nI j = nI (40 * b + j) := by rw [show (40 : Int32) = nI 40 from rfl, pk_mul, nI_add, Nat.mul_comm]
  have q1 : (nI (40 * a + i)).toNatClampNeg = 40 * a + i := nI_clamp (by omega)
  have q2 : (nI (40 * b + j)).toNatClampNeg = 40 * b + j := nI_clamp (by omega)
  have q3 : (nI n).toNatClampNeg = n := nI_clamp (by omega)
  have hck : ¬ (nI a * 40 + nI i) < 0 ∧ ¬ (nI b * 40 + nI j) < 0 ∧ ¬ nI n < 0 ∧ (nI a * 40 + nI i).toNatClampNeg + (nI n).toNatClampNeg ≤ 320 ∧ (nI b * 40 + nI j).toNatClampNeg + (nI n).toNatClampNeg ≤ 320 := ⟨by rw [e1]; exact nI_pos (by omega), by rw [e2]; exact nI_pos (by omega), nI_pos (by omega), by rw [e1, q1, q3]; omega, by rw [e2, q2, q3]; omega⟩
  refine rn_ev am_m_X6_move rfl rfl ?_
  refine rn_go 80 (by with_unfolding_all rfl) ?_
  refine rn_ck (by with_unfolding_all rfl) hck ?_
  refine rn_hp (by with_unfolding_all exact (wA_2)) ?_
  refine rn_go 80 (by with_unfolding_all rfl) ?_
  exact rn_rt (by with_unfolding_all rfl) (trivial) (rfl) (by rw [e1, e2, q1, q2, q3])
set_option maxRecDepth 10000 in
theorem x8_row (r l n : Int32) {v s : Int32} {a0 a1 a2 : Nat → Int32} (hq : sRow r l n (g 1) (A 0) (A 1) (A 2) = (v, s, a0, a1, a2)) : am_ev 2 93 [.ref 0, .int r, .int l, .int n] (wd g T A gm Am) (some (.int v)) (wd (upd g 1 s) T (tu (tu (tu A 0 a0) 1 a1) 2 a2) gm Am) := by
  unfold sRow at hq
  refine rn_ev am_m_X8_row rfl rfl ?_
  refine rn_go 80 (by with_unfolding_all rfl) ?_
  refine rn_cl (by with_unfolding_all rfl) (ev_up (by decide) (x6_isRow r)) ?_
  refine rn_go 80 (by with_unfolding_all rfl) ?_
  refine rn_br (by with_unfolding_all rfl) (fun c => ?_) (fun c => ?_)
  · rw [if_pos c] at hq
    cases hq
    refine rn_go 80 (by with_unfolding_all rfl) ?_
    exact rn_rt (by with_unfolding_all rfl) (trivial) (rfl) (by with_unfolding_all rfl)
  rw [if_neg c] at hq
  refine rn_go 80 (by with_unfolding_all rfl) ?_
  refine rn_br (by with_unfolding_all rfl) (fun c2 => ?_) (fun c2 => ?_)
  · rw [if_pos c2] at hq
    cases hq
    refine rn_go 80 (by with_unfolding_all rfl) ?_
    exact rn_rt (by with_unfolding_all rfl) (trivial) (rfl) (by with_unfolding_all rfl)
  rw [if_neg c2] at hq
  refine rn_go 80 (by with_unfolding_all rfl) ?_
  refine rn_br (by with_unfolding_all rfl) (fun c3 => ?_) (fun c3 => ?_)
  · rw [if_pos c3] at hq
    cases hq
    refine rn_go 80 (by with_unfolding_all rfl) ?_
    exact rn_rt (by with_unfolding_all rfl) (trivial) (rfl) (by with_unfolding_all rfl)
  rw [if_neg c3] at hq
  refine rn_go 80 (by with_unfolding_all rfl) ?_
  obtain ⟨k, hk, rfl⟩ := ir_of c
  have e1 : (nI k).toNatClampNeg = k := nI_clamp (by omega)
  rw [e1] at hq
  refine rn_br (by with_unfolding_all rfl) (fun c4 => ?_) (fun c4 => ?_)
  · rw [if_pos c4] at hq
    refine rn_go 80 (by with_unfolding_all rfl) ?_
    refine rn_br (by with_unfolding_all rfl) (fun c5 => ?_) (fun c5 => ?_)
    · rw [if_pos c5] at hq
      cases hq
      refine rn_go 80 (by with_unfolding_all rfl) ?_
      refine rn_cl (by with_unfolding_all rfl) (ev_up (by decide) (x6_make hk l n)) ?_
      refine rn_go 80 (by with_unfolding_all rfl) ?_
      refine rn_cl (by with_unfolding_all rfl) (ev_up (by decide) (x8_well n)) ?_
      refine rn_go 80 (by with_unfolding_all rfl) ?_
      exact rn_rt (by with_unfolding_all rfl) trivial rfl rfl
    rw [if_neg c5] at hq
    cases hq
    refine rn_go 80 (by with_unfolding_all rfl) ?_
    refine rn_cl (by with_unfolding_all rfl) (ev_up (by decide) (x8_found 4)) ?_
    refine rn_go 80 (by with_unfolding_all rfl) ?_
    exact rn_rt (by with_unfolding_all rfl) (trivial) (rfl) (by with_unfolding_all rfl)
  rw [if_neg c4] at hq
  cases hq
  refine rn_go 80 (by with_unfolding_all rfl) ?_
  exact rn_rt (by with_unfolding_all rfl) (trivial) (rfl) (by with_unfolding_all rfl)
set_option maxRecDepth 10000 in
theorem ift {c : Prop} [Decidable c] (h : ¬ (if c then (1 : Int32) else 0) = 0) : c := by
  by_cases hc : c
  · exact hc
  · rw [if_neg hc] at h; exact absurd rfl h
set_option maxRecDepth 10000 in
theorem iff0 {c : Prop} [Decidable c] (h : (if c then (1 : Int32) else 0) = 0) : ¬ c := by
  by_cases hc : c
  · rw [if_pos hc] at h; exact absurd h (by decide)
  · exact hc
set_option maxRecDepth 10000 in
theorem x8_set (r i v0 : Int32) (hok : okR (A 0) (A 1)) {v s : Int32} {a2 : Nat → Int32} (hq : sSet r i v0 (g 1) (A 0) (A 1) (A 2) = (v, s, a2)) : am_ev 2 94 [.ref 0, .int r, .int i, .int v0] (wd g T A gm Am) (some (.int v)) (wd (upd g 1 s) T (tu A 2 a2) gm Am) := by
  unfold sSet at hq
  refine rn_ev am_m_X8_set rfl rfl ?_
  refine rn_go 80 (by with_unfolding_all rfl) ?_
  refine rn_cl (by with_unfolding_all rfl) (ev_up (by decide) (x6_isRow r)) ?_
  refine rn_go 80 (by with_unfolding_all rfl) ?_
  refine rn_br (by with_unfolding_all rfl) (fun c => ?_) (fun c => ?_)
  · rw [if_pos c] at hq
    cases hq
    refine rn_go 80 (by with_unfolding_all rfl) ?_
    exact rn_rt (by with_unfolding_all rfl) (trivial) (rfl) (by with_unfolding_all rfl)
  rw [if_neg c] at hq
  obtain ⟨k, hk, rfl⟩ := ir_of c
  have e1 : (nI k).toNatClampNeg = k := nI_clamp (by omega)
  rw [e1] at hq
  refine rn_go 80 (by with_unfolding_all rfl) ?_
  refine rn_cl (by with_unfolding_all rfl) (ev_up (by decide) (x6_isMissing hk)) ?_
  refine rn_go 80 (by with_unfolding_all rfl) ?_
  refine rn_br (by with_unfolding_all rfl) (fun c2 => ?_) (fun c2 => ?_)
  · rw [if_neg (iff0 c2)] at hq
    refine rn_go 80 (by with_unfolding_all rfl) ?_
    refine rn_cl (by with_unfolding_all rfl) (ev_up (by decide) (x6_hasPlaces hk i 1)) ?_
    refine rn_go 80 (by with_unfolding_all rfl) ?_
    refine rn_br (by with_unfolding_all rfl) (fun c3 => ?_) (fun c3 => ?_)
    · rw [if_pos c3] at hq
      cases hq
      refine rn_go 80 (by with_unfolding_all rfl) ?_
      refine rn_cl (by with_unfolding_all rfl) (ev_up (by decide) (x8_found 2)) ?_
      refine rn_go 80 (by with_unfolding_all rfl) ?_
      exact rn_rt (by with_unfolding_all rfl) (trivial) (rfl) (by with_unfolding_all rfl)
    rw [if_neg c3] at hq
    have h9 := (hok k hk).1.resolve_left (iff0 c2)
    obtain ⟨l, hl, hl2⟩ := h9
    rw [hl2] at c3
    obtain ⟨a, b, rfl, hb, hab⟩ := hp_of hl c3
    have hb1 : b = 1 := by
      rcases Nat.lt_or_ge b (2 ^ 31) with q | q
      · exact ((nI_eq (by decide) q).mp (show nI 1 = nI b from hb)).symm
      · omega
    have e2 : (nI a).toNatClampNeg = a := nI_clamp (by omega)
    rw [e2] at hq
    cases hq
    refine rn_go 80 (by with_unfolding_all rfl) ?_
    refine rn_cl (by with_unfolding_all rfl) (ev_up (by decide) (x6_put hk (show a < 40 by omega) v0)) ?_
    refine rn_go 80 (by with_unfolding_all rfl) ?_
    refine rn_cl (by with_unfolding_all rfl) (ev_up (by decide) (x8_well _)) ?_
    refine rn_go 80 (by with_unfolding_all rfl) ?_
    exact rn_rt (by with_unfolding_all rfl) trivial rfl rfl
  rw [if_pos (ift c2)] at hq
  cases hq
  refine rn_go 80 (by with_unfolding_all rfl) ?_
  refine rn_cl (by with_unfolding_all rfl) (ev_up (by decide) (x8_found 1)) ?_
  refine rn_go 80 (by with_unfolding_all rfl) ?_
  exact rn_rt (by with_unfolding_all rfl) (trivial) (rfl) (by with_unfolding_all rfl)
set_option maxRecDepth 10000 in
theorem x8_drop (r : Int32) {v s : Int32} {a1 : Nat → Int32} (hq : sDrop r (g 1) (A 1) = (v, s, a1)) : am_ev 2 96 [.ref 0, .int r] (wd g T A gm Am) (some (.int v)) (wd (upd g 1 s) T (tu A 1 a1) gm Am) := by
  unfold sDrop at hq
  refine rn_ev am_m_X8_drop rfl rfl ?_
  refine rn_go 80 (by with_unfolding_all rfl) ?_
  refine rn_cl (by with_unfolding_all rfl) (ev_up (by decide) (x6_isRow r)) ?_
  refine rn_go 80 (by with_unfolding_all rfl) ?_
  refine rn_br (by with_unfolding_all rfl) (fun c => ?_) (fun c => ?_)
  · rw [if_pos c] at hq
    cases hq
    refine rn_go 80 (by with_unfolding_all rfl) ?_
    exact rn_rt (by with_unfolding_all rfl) (trivial) (rfl) (by with_unfolding_all rfl)
  rw [if_neg c] at hq
  obtain ⟨k, hk, rfl⟩ := ir_of c
  have e1 : (nI k).toNatClampNeg = k := nI_clamp (by omega)
  rw [e1] at hq
  refine rn_go 80 (by with_unfolding_all rfl) ?_
  refine rn_cl (by with_unfolding_all rfl) (ev_up (by decide) (x6_isMissing hk)) ?_
  refine rn_go 80 (by with_unfolding_all rfl) ?_
  refine rn_br (by with_unfolding_all rfl) (fun c2 => ?_) (fun c2 => ?_)
  · rw [if_neg (iff0 c2)] at hq
    cases hq
    refine rn_go 80 (by with_unfolding_all rfl) ?_
    refine rn_cl (by with_unfolding_all rfl) (ev_up (by decide) (x6_lose hk)) ?_
    refine rn_go 80 (by with_unfolding_all rfl) ?_
    refine rn_cl (by with_unfolding_all rfl) (ev_up (by decide) (x8_well _)) ?_
    refine rn_go 80 (by with_unfolding_all rfl) ?_
    exact rn_rt (by with_unfolding_all rfl) trivial rfl rfl
  rw [if_pos (ift c2)] at hq
  cases hq
  refine rn_go 80 (by with_unfolding_all rfl) ?_
  refine rn_cl (by with_unfolding_all rfl) (ev_up (by decide) (x8_found 1)) ?_
  refine rn_go 80 (by with_unfolding_all rfl) ?_
  exact rn_rt (by with_unfolding_all rfl) (trivial) (rfl) (by with_unfolding_all rfl)
set_option maxRecDepth 10000 in
theorem x8_copy (a i b j n : Int32) (hok : okR (A 0) (A 1)) {v s : Int32} {a2 : Nat → Int32} (hq : sCopy a i b j n (g 1) (A 0) (A 1) (A 2) = (v, s, a2)) : am_ev 2 95 [.ref 0, .int a, .int i, .int b, .int j, .int n] (wd g T A gm Am) (some (.int v)) (wd (upd g 1 s) T (tu A 2 a2) gm Am) := by
  unfold sCopy at hq
  refine rn_ev am_m_X8_copy rfl rfl ?_
  refine rn_go 80 (by with_unfolding_all rfl) ?_
  refine rn_cl (by with_unfolding_all rfl) (ev_up (by decide) (x6_isRow a)) ?_
  refine rn_go 80 (by with_unfolding_all rfl) ?_
  refine rn_br (by with_unfolding_all rfl) (fun c => ?_) (fun c => ?_)
  · rw [if_pos c] at hq
    cases hq
    refine rn_go 80 (by with_unfolding_all rfl) ?_
    exact rn_rt (by with_unfolding_all rfl) (trivial) (rfl) (by with_unfolding_all rfl)
  rw [if_neg c] at hq
  obtain ⟨k, hk, rfl⟩ := ir_of c
  have e1 : (nI k).toNatClampNeg = k := nI_clamp (by omega)
  rw [e1] at hq
  refine rn_go 80 (by with_unfolding_all rfl) ?_
  refine rn_cl (by with_unfolding_all rfl) (ev_up (by decide) (x6_isRow b)) ?_
  refine rn_go 80 (by with_unfolding_all rfl) ?_
  refine rn_br (by with_unfolding_all rfl) (fun c2 => ?_) (fun c2 => ?_)
  · rw [if_pos c2] at hq
    cases hq
    refine rn_go 80 (by with_unfolding_all rfl) ?_
    exact rn_rt (by with_unfolding_all rfl) (trivial) (rfl) (by with_unfolding_all rfl)
  rw [if_neg c2] at hq
  obtain ⟨l, hl, rfl⟩ := ir_of c2
  have e2 : (nI l).toNatClampNeg = l := nI_clamp (by omega)
  rw [e2] at hq
  refine rn_go 80 (by with_unfolding_all rfl) ?_
  refine rn_cl (by with_unfolding_all rfl) (ev_up (by decide) (x6_isMissing hk)) ?_
  refine rn_go 80 (by with_unfolding_all rfl) ?_
  refine rn_br (by with_unfolding_all rfl) (fun c3 => ?_) (fun c3 => ?_)
  · rw [if_neg (iff0 c3)] at hq
    refine rn_go 80 (by with_unfolding_all rfl) ?_
    refine rn_cl (by with_unfolding_all rfl) (ev_up (by decide) (x6_isMissing hl)) ?_
    refine rn_go 80 (by with_unfolding_all rfl) ?_
    refine rn_br (by with_unfolding_all rfl) (fun c4 => ?_) (fun c4 => ?_)
    · rw [if_neg (iff0 c4)] at hq
      refine rn_go 80 (by with_unfolding_all rfl) ?_
      refine rn_cl (by with_unfolding_all rfl) (ev_up (by decide) (x6_sameLane hk hl)) ?_
      refine rn_go 80 (by with_unfolding_all rfl) ?_
      refine rn_br (by with_unfolding_all rfl) (fun c5 => ?_) (fun c5 => ?_)
      · rw [if_neg (iff0 c5)] at hq
        cases hq
        refine rn_go 80 (by with_unfolding_all rfl) ?_
        refine rn_cl (by with_unfolding_all rfl) (ev_up (by decide) (x8_found 5)) ?_
        refine rn_go 80 (by with_unfolding_all rfl) ?_
        exact rn_rt (by with_unfolding_all rfl) (trivial) (rfl) (by with_unfolding_all rfl)
      rw [if_pos (ift c5)] at hq
      refine rn_go 80 (by with_unfolding_all rfl) ?_
      refine rn_cl (by with_unfolding_all rfl) (ev_up (by decide) (x6_hasPlaces hk i n)) ?_
      refine rn_go 80 (by with_unfolding_all rfl) ?_
      refine rn_br (by with_unfolding_all rfl) (fun c6 => ?_) (fun c6 => ?_)
      · rw [if_pos c6] at hq
        cases hq
        refine rn_go 80 (by with_unfolding_all rfl) ?_
        refine rn_cl (by with_unfolding_all rfl) (ev_up (by decide) (x8_found 2)) ?_
        refine rn_go 80 (by with_unfolding_all rfl) ?_
        exact rn_rt (by with_unfolding_all rfl) (trivial) (rfl) (by with_unfolding_all rfl)
      rw [if_neg c6] at hq
      refine rn_go 80 (by with_unfolding_all rfl) ?_
      refine rn_cl (by with_unfolding_all rfl) (ev_up (by decide) (x6_hasPlaces hl j n)) ?_
      refine rn_go 80 (by with_unfolding_all rfl) ?_
      refine rn_br (by with_unfolding_all rfl) (fun c7 => ?_) (fun c7 => ?_)
      · rw [if_pos c7] at hq
        cases hq
        refine rn_go 80 (by with_unfolding_all rfl) ?_
        refine rn_cl (by with_unfolding_all rfl) (ev_up (by decide) (x8_found 2)) ?_
        refine rn_go 80 (by with_unfolding_all rfl) ?_
        exact rn_rt (by with_unfolding_all rfl) (trivial) (rfl) (by with_unfolding_all rfl)
      rw [if_neg c7] at hq
      obtain ⟨la, hla, hla2⟩ := (hok k hk).1.resolve_left (iff0 c3)
      obtain ⟨lb, hlb, hlb2⟩ := (hok l hl).1.resolve_left (iff0 c4)
      rw [hla2] at c6
      rw [hlb2] at c7
      obtain ⟨p, q, rfl, hn, hpq⟩ := hp_of hla c6
      obtain ⟨p2, q2, rfl, hn2, hpq2⟩ := hp_of hlb c7
      have hqq : q = q2 := (nI_eq (by omega) (by omega)).mp (hn.symm.trans hn2)
      subst hqq
      subst hn
      have e3 : (nI p).toNatClampNeg = p := nI_clamp (by omega)
      have e4 : (nI p2).toNatClampNeg = p2 := nI_clamp (by omega)
      have e5 : (nI q).toNatClampNeg = q := nI_clamp (by omega)
      rw [e3, e4, e5] at hq
      cases hq
      refine rn_go 80 (by with_unfolding_all rfl) ?_
      refine rn_cl (by with_unfolding_all rfl) (ev_up (by decide) (x6_move hk hl (by omega) (by omega))) ?_
      refine rn_go 80 (by with_unfolding_all rfl) ?_
      refine rn_cl (by with_unfolding_all rfl) (ev_up (by decide) (x8_well _)) ?_
      refine rn_go 80 (by with_unfolding_all rfl) ?_
      exact rn_rt (by with_unfolding_all rfl) trivial rfl rfl
    rw [if_pos (ift c4)] at hq
    cases hq
    refine rn_go 80 (by with_unfolding_all rfl) ?_
    refine rn_cl (by with_unfolding_all rfl) (ev_up (by decide) (x8_found 1)) ?_
    refine rn_go 80 (by with_unfolding_all rfl) ?_
    exact rn_rt (by with_unfolding_all rfl) (trivial) (rfl) (by with_unfolding_all rfl)
  rw [if_pos (ift c3)] at hq
  cases hq
  refine rn_go 80 (by with_unfolding_all rfl) ?_
  refine rn_cl (by with_unfolding_all rfl) (ev_up (by decide) (x8_found 1)) ?_
  refine rn_go 80 (by with_unfolding_all rfl) ?_
  exact rn_rt (by with_unfolding_all rfl) (trivial) (rfl) (by with_unfolding_all rfl)
end

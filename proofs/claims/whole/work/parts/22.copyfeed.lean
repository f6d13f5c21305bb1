/-! the reference's copy; feed on both sides; fault, status -/
set_option maxRecDepth 10000 in
theorem cpf_s {f : Nat → Int32} {s d k : Nat} : upd (va_cpy f f s d k) (d + k) (f (s + k)) = va_cpy f f s d (k + 1) := by
  funext x
  unfold upd va_cpy
  by_cases h : x = d + k
  · subst h
    rw [if_pos rfl, if_pos ⟨by omega, by omega⟩, show s + (d + k - d) = s + k by omega]
  · rw [if_neg h]
    by_cases h2 : d ≤ x ∧ x < d + k
    · rw [if_pos h2, if_pos ⟨by omega, by omega⟩]
    · rw [if_neg h2, if_neg (by omega)]
set_option maxRecDepth 10000 in
theorem cpf_0 {f : Nat → Int32} {s d : Nat} : va_cpy f f s d 0 = f := by
  funext x
  unfold va_cpy
  rw [if_neg (by omega)]
set_option maxRecDepth 10000 in
theorem cpb_s {f : Nat → Int32} {s d n k : Nat} (hk : k < n) : upd (cpb f s d n k) (d + (n - 1 - k)) (f (s + (n - 1 - k))) = cpb f s d n (k + 1) := by
  funext x
  unfold upd cpb
  by_cases h : x = d + (n - 1 - k)
  · subst h
    rw [if_pos rfl, if_pos ⟨by omega, by omega⟩, show s + (d + (n - 1 - k) - d) = s + (n - 1 - k) by omega]
  · rw [if_neg h]
    by_cases h2 : d + (n - k) ≤ x ∧ x < d + n
    · rw [if_pos h2, if_pos ⟨by omega, by omega⟩]
    · rw [if_neg h2, if_neg (by omega)]
set_option maxRecDepth 10000 in
theorem cpb_0 {f : Nat → Int32} {s d n : Nat} : cpb f s d n 0 = f := by
  funext x
  unfold cpb
  rw [if_neg (by omega)]
set_option maxRecDepth 10000 in
theorem cpb_n {f : Nat → Int32} {s d n : Nat} : cpb f s d n n = va_cpy f f s d n := by
  funext x
  unfold cpb va_cpy
  rw [Nat.sub_self, Nat.add_zero]
set_option maxRecDepth 10000 in
theorem ixr (a i k : Nat) : nI 40 * nI a + nI i + nI k = nI (40 * a + i + k) := by rw [pk_mul, nI_add, nI_add]
def sFeed (x ln : Int32) (f : Nat → Int32) : Int32 × Int32 × (Nat → Int32) :=
  if x < 0 then (-1000001, ln, f) else if x ≤ 255 then (if ln < 100 then (ln + 1, ln + 1, upd f ln.toNatClampNeg x) else (-1000003, ln, f)) else (-1000001, ln, f)
section
variable {g gm : Nat → Int32} {T A Am : Nat → Nat → Int32} {h : am_H}
set_option maxRecDepth 10000 in
theorem xm_cpF {a i b j n : Nat} (ha : a < 8) (hb : b < 8) (h1 : i + n ≤ 40) (h2 : j + n ≤ 40) (hov : 40 * b + j ≤ 40 * a + i ∨ 40 * a + i + n ≤ 40 * b + j) : ∀ m k, k + m = n → ∀ o : Option Value, rn none 1 am_t_X9_copy (107, [some (.ref 43), some (.int (nI a)), some (.int (nI i)), some (.int (nI b)), some (.int (nI j)), some (.int (nI n)), some (.int 0), some (.int (nI k)), o], [], wd g T A gm (tu Am 4 (va_cpy (Am 4) (Am 4) (40 * a + i) (40 * b + j) k))) (some (.int (nI n))) (wd g T A (upd gm 4 0) (tu Am 4 (va_cpy (Am 4) (Am 4) (40 * a + i) (40 * b + j) n)))
  | 0, k, hk => by
    intro o
    have hk : k = n := by omega
    subst hk
    refine rn_go 80 (by with_unfolding_all rfl) ?_
    refine rn_br (by with_unfolding_all rfl) (fun c => ?_) (fun c => ?_)
    · refine rn_go 80 (by with_unfolding_all rfl) ?_
      refine rn_cl (by with_unfolding_all rfl) (ev_up (by decide) (xm_well _)) ?_
      refine rn_go 80 (by with_unfolding_all rfl) ?_
      exact rn_rt (by with_unfolding_all rfl) trivial rfl rfl
    · exact absurd (Int32.le_refl _) c
  | m + 1, k, hk => by
    intro o
    have ih := xm_cpF ha hb h1 h2 hov m (k + 1) (by omega)
    rw [← nI_1, ← cpf_s] at ih
    refine rn_go 80 (by with_unfolding_all rfl) ?_
    refine rn_br (by with_unfolding_all rfl) (fun c => ?_) (fun c => ?_)
    · exact absurd c (nI_ge (show k < n by omega) (by omega))
    refine rn_go 80 (by with_unfolding_all rfl) ?_
    refine rn_br (by with_unfolding_all rfl) (fun c => ?_) (fun c => absurd rfl c)
    refine rn_go 80 (by with_unfolding_all rfl) ?_
    refine rn_ld (40 * a + i + k) (by with_unfolding_all rfl) (ixr a i k) (by omega) (by decide) ?_
    rw [tu_s, pk_cpy_out (by omega)]
    refine rn_go 80 (by with_unfolding_all rfl) ?_
    refine rn_st (40 * b + j + k) (by with_unfolding_all rfl) (ixr b j k) (by omega) (by decide) ?_
    refine rn_hp (by with_unfolding_all exact (wM_4)) ?_
    refine rn_to 107 80 (by with_unfolding_all rfl) ?_
    rw [tu_tu, tu_s]
    with_unfolding_all exact ih _
set_option maxRecDepth 10000 in
theorem xm_cpB {a i b j n : Nat} (ha : a < 8) (hb : b < 8) (h1 : i + n ≤ 40) (h2 : j + n ≤ 40) (hov : 40 * a + i < 40 * b + j ∨ 40 * b + j + n ≤ 40 * a + i) : ∀ m k, k + m = n → ∀ o : Option Value, rn none 1 am_t_X9_copy (107, [some (.ref 43), some (.int (nI a)), some (.int (nI i)), some (.int (nI b)), some (.int (nI j)), some (.int (nI n)), some (.int 1), some (.int (nI k)), o], [], wd g T A gm (tu Am 4 (cpb (Am 4) (40 * a + i) (40 * b + j) n k))) (some (.int (nI n))) (wd g T A (upd gm 4 0) (tu Am 4 (va_cpy (Am 4) (Am 4) (40 * a + i) (40 * b + j) n)))
  | 0, k, hk => by
    intro o
    have hk : k = n := by omega
    subst hk
    refine rn_go 80 (by with_unfolding_all rfl) ?_
    refine rn_br (by with_unfolding_all rfl) (fun c => ?_) (fun c => ?_)
    · refine rn_go 80 (by with_unfolding_all rfl) ?_
      refine rn_cl (by with_unfolding_all rfl) (ev_up (by decide) (xm_well _)) ?_
      refine rn_go 80 (by with_unfolding_all rfl) ?_
      exact rn_rt (by with_unfolding_all rfl) (trivial) (rfl) (by rw [cpb_n])
    · exact absurd (Int32.le_refl _) c
  | m + 1, k, hk => by
    intro o
    have ih := xm_cpB ha hb h1 h2 hov m (k + 1) (by omega)
    rw [← nI_1, ← cpb_s (by omega)] at ih
    have e : nI n - 1 - nI k = nI (n - 1 - k) := by rw [show (1 : Int32) = nI 1 from rfl, pk_sub (by omega), pk_sub (by omega)]
    refine rn_go 80 (by with_unfolding_all rfl) ?_
    refine rn_br (by with_unfolding_all rfl) (fun c => ?_) (fun c => ?_)
    · exact absurd c (nI_ge (show k < n by omega) (by omega))
    refine rn_go 80 (by with_unfolding_all rfl) ?_
    refine rn_br (by with_unfolding_all rfl) (fun c => absurd c (by decide)) (fun c => ?_)
    refine rn_go 80 (by with_unfolding_all rfl) ?_
    refine rn_ld (40 * a + i + (n - 1 - k)) (by with_unfolding_all rfl) (by rw [e]; exact ixr a i (n - 1 - k)) (by omega) (by decide) ?_
    rw [tu_s, show cpb (Am 4) (40 * a + i) (40 * b + j) n k (40 * a + i + (n - 1 - k)) = Am 4 (40 * a + i + (n - 1 - k)) by unfold cpb; rw [if_neg (by omega)]]
    refine rn_go 80 (by with_unfolding_all rfl) ?_
    refine rn_st (40 * b + j + (n - 1 - k)) (by with_unfolding_all rfl) (by rw [e]; exact ixr b j (n - 1 - k)) (by omega) (by decide) ?_
    refine rn_hp (by with_unfolding_all exact (wM_4)) ?_
    refine rn_to 107 80 (by with_unfolding_all rfl) ?_
    rw [tu_tu, tu_s]
    with_unfolding_all exact ih _
set_option maxRecDepth 10000 in
theorem xm_copy (a i b j n : Int32) (hok : okR (Am 2) (Am 3)) {v s : Int32} {a2 : Nat → Int32} (hq : sCopy a i b j n (gm 4) (Am 2) (Am 3) (Am 4) = (v, s, a2)) : am_ev 3 148 [.ref 43, .int a, .int i, .int b, .int j, .int n] (wd g T A gm Am) (some (.int v)) (wd g T A (upd gm 4 s) (tu Am 4 a2)) := by
  unfold sCopy at hq
  refine rn_ev am_m_X9_copy rfl rfl ?_
  refine rn_go 80 (by with_unfolding_all rfl) ?_
  refine rn_cl (by with_unfolding_all rfl) (ev_up (by decide) (xm_isRow a)) ?_
  refine rn_go 80 (by with_unfolding_all rfl) ?_
  refine rn_br (by with_unfolding_all rfl) (fun c => ?_) (fun c => ?_)
  · rw [if_pos c] at hq
    cases hq
    refine rn_go 80 (by with_unfolding_all rfl) ?_
    exact rn_rt (by with_unfolding_all rfl) (trivial) (rfl) (by with_unfolding_all rfl)
  rw [if_neg c] at hq
  obtain ⟨k, hk, rfl⟩ := ir_of c
  have e1 : (nI k).toNatClampNeg = k := nI_clamp (by omega)
  rw [e1] at hq
  refine rn_go 80 (by with_unfolding_all rfl) ?_
  refine rn_cl (by with_unfolding_all rfl) (ev_up (by decide) (xm_isRow b)) ?_
  refine rn_go 80 (by with_unfolding_all rfl) ?_
  refine rn_br (by with_unfolding_all rfl) (fun c2 => ?_) (fun c2 => ?_)
  · rw [if_pos c2] at hq
    cases hq
    refine rn_go 80 (by with_unfolding_all rfl) ?_
    exact rn_rt (by with_unfolding_all rfl) (trivial) (rfl) (by with_unfolding_all rfl)
  rw [if_neg c2] at hq
  obtain ⟨l, hl, rfl⟩ := ir_of c2
  have e2 : (nI l).toNatClampNeg = l := nI_clamp (by omega)
  rw [e2] at hq
  refine rn_go 80 (by with_unfolding_all rfl) ?_
  refine rn_ld (k) (by with_unfolding_all rfl) rfl hk (by decide) ?_
  refine rn_go 80 (by with_unfolding_all rfl) ?_
  refine rn_br (by with_unfolding_all rfl) (fun c3 => ?_) (fun c3 => ?_)
  · rw [if_pos ((okR_neg hok hk).2.mp c3)] at hq
    cases hq
    refine rn_go 80 (by with_unfolding_all rfl) ?_
    refine rn_cl (by with_unfolding_all rfl) (ev_up (by decide) (xm_find 1)) ?_
    refine rn_go 80 (by with_unfolding_all rfl) ?_
    exact rn_rt (by with_unfolding_all rfl) (trivial) (rfl) (by with_unfolding_all rfl)
  have c3' : ¬ Am 3 k = -1 := fun q => c3 ((okR_neg hok hk).2.mpr q)
  rw [if_neg c3'] at hq
  refine rn_go 80 (by with_unfolding_all rfl) ?_
  refine rn_ld (l) (by with_unfolding_all rfl) rfl hl (by decide) ?_
  refine rn_go 80 (by with_unfolding_all rfl) ?_
  refine rn_br (by with_unfolding_all rfl) (fun c4 => ?_) (fun c4 => ?_)
  · have c4' := (okR_neg hok hl).1.mp c4
    rw [if_neg c4'] at hq
    obtain ⟨la, hla, hla2⟩ := (hok k hk).1.resolve_left c3'
    obtain ⟨lb, hlb, hlb2⟩ := (hok l hl).1.resolve_left c4'
    refine rn_go 80 (by with_unfolding_all rfl) ?_
    refine rn_ld (k) (by with_unfolding_all rfl) rfl hk (by decide) ?_
    refine rn_go 80 (by with_unfolding_all rfl) ?_
    refine rn_ld (l) (by with_unfolding_all rfl) rfl hl (by decide) ?_
    refine rn_go 80 (by with_unfolding_all rfl) ?_
    refine rn_br (by with_unfolding_all rfl) (fun c5 => ?_) (fun c5 => ?_)
    · rw [if_pos c5] at hq
      refine rn_go 80 (by with_unfolding_all rfl) ?_
      refine rn_cl (by with_unfolding_all rfl) (ev_up (by decide) (xm_isSpan hk i n)) ?_
      rw [hla2, msp_hp hla, ← hla2]
      refine rn_go 80 (by with_unfolding_all rfl) ?_
      refine rn_br (by with_unfolding_all rfl) (fun c6 => ?_) (fun c6 => ?_)
      · rw [if_pos c6] at hq
        cases hq
        refine rn_go 80 (by with_unfolding_all rfl) ?_
        refine rn_cl (by with_unfolding_all rfl) (ev_up (by decide) (xm_find 2)) ?_
        refine rn_go 80 (by with_unfolding_all rfl) ?_
        exact rn_rt (by with_unfolding_all rfl) (trivial) (rfl) (by with_unfolding_all rfl)
      rw [if_neg c6] at hq
      refine rn_go 80 (by with_unfolding_all rfl) ?_
      refine rn_cl (by with_unfolding_all rfl) (ev_up (by decide) (xm_isSpan hl j n)) ?_
      rw [hlb2, msp_hp hlb, ← hlb2]
      refine rn_go 80 (by with_unfolding_all rfl) ?_
      refine rn_br (by with_unfolding_all rfl) (fun c7 => ?_) (fun c7 => ?_)
      · rw [if_pos c7] at hq
        cases hq
        refine rn_go 80 (by with_unfolding_all rfl) ?_
        refine rn_cl (by with_unfolding_all rfl) (ev_up (by decide) (xm_find 2)) ?_
        refine rn_go 80 (by with_unfolding_all rfl) ?_
        exact rn_rt (by with_unfolding_all rfl) (trivial) (rfl) (by with_unfolding_all rfl)
      rw [if_neg c7] at hq
      rw [hla2] at c6
      rw [hlb2] at c7
      obtain ⟨p, q, rfl, hn, hpq⟩ := hp_of hla c6
      obtain ⟨p2, q2, rfl, hn2, hpq2⟩ := hp_of hlb c7
      have hqq : q = q2 := (nI_eq (by omega) (by omega)).mp (hn.symm.trans hn2)
      subst hqq
      subst hn
      have e3 : (nI p).toNatClampNeg = p := nI_clamp (by omega)
      have e4 : (nI p2).toNatClampNeg = p2 := nI_clamp (by omega)
      have e5 : (nI q).toNatClampNeg = q := nI_clamp (by omega)
      rw [e3, e4, e5] at hq
      cases hq
      refine rn_go 80 (by with_unfolding_all rfl) ?_
      refine rn_br (by with_unfolding_all rfl) (fun c8 => ?_) (fun c8 => ?_)
      · have hpp : p2 ≤ p := (nI_leI (by omega) (by omega)).mp c8
        have key := xm_cpF (g := g) (T := T) (A := A) (gm := gm) (Am := Am) (a := k) (i := p) (b := l) (j := p2) (n := q) hk hl (by omega) (by omega) (by omega) q 0 (by omega)
        rw [cpf_0, tu_id] at key
        refine rn_to 107 80 (by with_unfolding_all rfl) ?_
        refine rn_of_le (d := 1) (by decide) ?_
        with_unfolding_all exact key _
      · have hpp : p < p2 := by
          rcases Nat.lt_or_ge p p2 with q9 | q9
          · exact q9
          · exact absurd (nI_le q9 (by omega)) c8
        have key := xm_cpB (g := g) (T := T) (A := A) (gm := gm) (Am := Am) (a := k) (i := p) (b := l) (j := p2) (n := q) hk hl (by omega) (by omega) (by omega) q 0 (by omega)
        rw [cpb_0, tu_id] at key
        refine rn_to 107 80 (by with_unfolding_all rfl) ?_
        refine rn_of_le (d := 1) (by decide) ?_
        with_unfolding_all exact key _
    rw [if_neg c5] at hq
    cases hq
    refine rn_go 80 (by with_unfolding_all rfl) ?_
    refine rn_cl (by with_unfolding_all rfl) (ev_up (by decide) (xm_find 5)) ?_
    refine rn_go 80 (by with_unfolding_all rfl) ?_
    exact rn_rt (by with_unfolding_all rfl) (trivial) (rfl) (by with_unfolding_all rfl)
  have c4' : Am 3 l = -1 := Classical.not_not.mp (fun q => c4 ((okR_neg hok hl).1.mpr q))
  rw [if_pos c4'] at hq
  cases hq
  refine rn_go 80 (by with_unfolding_all rfl) ?_
  refine rn_cl (by with_unfolding_all rfl) (ev_up (by decide) (xm_find 1)) ?_
  refine rn_go 80 (by with_unfolding_all rfl) ?_
  exact rn_rt (by with_unfolding_all rfl) (trivial) (rfl) (by with_unfolding_all rfl)
set_option maxRecDepth 10000 in
theorem x7_isFull : am_ev 1 77 [.ref 15] (wd g T A gm Am) (some (.int (if g 2 < 100 then 0 else 1))) (wd g T A gm Am) := by
  refine rn_ev am_m_X7_isFull rfl rfl ?_
  refine rn_go 80 (by with_unfolding_all rfl) ?_
  refine rn_br (by with_unfolding_all rfl) (fun c => ?_) (fun c => ?_)
  · rw [if_pos c]
    refine rn_go 80 (by with_unfolding_all rfl) ?_
    exact rn_rt (by with_unfolding_all rfl) (Or.inl rfl) (rfl) (rfl)
  · rw [if_neg c]
    refine rn_go 80 (by with_unfolding_all rfl) ?_
    exact rn_rt (by with_unfolding_all rfl) (Or.inr rfl) (rfl) (rfl)
set_option maxRecDepth 10000 in
theorem x7_append {l : Nat} (hl : g 2 = nI l) (h100 : l < 100) (x : Int32) : am_ev 1 78 [.ref 15, .int x] (wd g T A gm Am) (some (.int (g 2 + 1))) (wd (upd g 2 (g 2 + 1)) T (tu A 3 (upd (A 3) l x)) gm Am) := by
  refine rn_ev am_m_X7_append rfl rfl ?_
  refine rn_go 80 (by with_unfolding_all rfl) ?_
  refine rn_br (by with_unfolding_all rfl) (fun c => ?_) (fun c => ?_)
  · rw [hl] at c
    exact absurd c (show ¬ nI 100 ≤ nI l from nI_ge h100 (by decide))
  refine rn_go 80 (by with_unfolding_all rfl) ?_
  refine rn_st (l) (by with_unfolding_all rfl) hl h100 (by decide) ?_
  refine rn_hp (by with_unfolding_all exact (wA_3)) ?_
  refine rn_to 29 80 (by with_unfolding_all rfl) ?_
  refine rn_hp (by with_unfolding_all exact (wG_2)) ?_
  refine rn_go 80 (by with_unfolding_all rfl) ?_
  exact rn_rt (by with_unfolding_all rfl) trivial rfl rfl
set_option maxRecDepth 10000 in
theorem x8_feed {l : Nat} (hl : g 2 = nI l) (h100 : l ≤ 100) (x : Int32) {v s : Int32} {f : Nat → Int32} (hq : sFeed x (g 2) (A 3) = (v, s, f)) : am_ev 2 97 [.ref 0, .int x] (wd g T A gm Am) (some (.int v)) (wd (upd g 2 s) T (tu A 3 f) gm Am) := by
  unfold sFeed at hq
  refine rn_ev am_m_X8_feed rfl rfl ?_
  refine rn_go 80 (by with_unfolding_all rfl) ?_
  refine rn_br (by with_unfolding_all rfl) (fun c => ?_) (fun c => ?_)
  · rw [if_pos c] at hq
    cases hq
    refine rn_go 80 (by with_unfolding_all rfl) ?_
    exact rn_rt (by with_unfolding_all rfl) (trivial) (rfl) (by with_unfolding_all rfl)
  rw [if_neg c] at hq
  refine rn_go 80 (by with_unfolding_all rfl) ?_
  refine rn_br (by with_unfolding_all rfl) (fun c2 => ?_) (fun c2 => ?_)
  · rw [if_pos c2] at hq
    refine rn_go 80 (by with_unfolding_all rfl) ?_
    refine rn_cl (by with_unfolding_all rfl) (ev_up (by decide) (x7_isFull)) ?_
    refine rn_go 80 (by with_unfolding_all rfl) ?_
    refine rn_br (by with_unfolding_all rfl) (fun c3 => ?_) (fun c3 => ?_)
    · have c3' : g 2 < 100 := by
        by_cases q : g 2 < 100
        · exact q
        · rw [if_neg q] at c3; exact absurd c3 (by decide)
      rw [if_pos c3'] at hq
      have hlt : l < 100 := by rw [hl] at c3'; exact (nI_ltI (by omega) (by decide)).mp c3'
      rw [show (g 2).toNatClampNeg = l by rw [hl]; exact nI_clamp (by omega)] at hq
      cases hq
      refine rn_go 80 (by with_unfolding_all rfl) ?_
      refine rn_cl (by with_unfolding_all rfl) (ev_up (by decide) (x7_append hl hlt x)) ?_
      refine rn_go 80 (by with_unfolding_all rfl) ?_
      exact rn_rt (by with_unfolding_all rfl) trivial rfl rfl
    · have c3' : ¬ g 2 < 100 := fun q => c3 (if_pos q)
      rw [if_neg c3'] at hq
      cases hq
      refine rn_go 80 (by with_unfolding_all rfl) ?_
      exact rn_rt (by with_unfolding_all rfl) (trivial) (rfl) (by with_unfolding_all rfl)
  rw [if_neg c2] at hq
  cases hq
  refine rn_go 80 (by with_unfolding_all rfl) ?_
  exact rn_rt (by with_unfolding_all rfl) (trivial) (rfl) (by with_unfolding_all rfl)
set_option maxRecDepth 10000 in
theorem xm_feed {l : Nat} (hl : gm 2 = nI l) (h100 : l ≤ 100) (x : Int32) {v s : Int32} {f : Nat → Int32} (hq : sFeed x (gm 2) (Am 5) = (v, s, f)) : am_ev 2 150 [.ref 43, .int x] (wd g T A gm Am) (some (.int v)) (wd g T A (upd gm 2 s) (tu Am 5 f)) := by
  unfold sFeed at hq
  refine rn_ev am_m_X9_feed rfl rfl ?_
  refine rn_go 80 (by with_unfolding_all rfl) ?_
  refine rn_cl (by with_unfolding_all rfl) (ev_up (by decide) (xm_in _ _ _)) ?_
  rw [inn_b (a := 0) (b := 255) (P := 0) (Q := 255) (by decide) (by decide)]
  unfold btw
  refine rn_go 80 (by with_unfolding_all rfl) ?_
  refine rn_br (by with_unfolding_all rfl) (fun c => ?_) (fun c => ?_)
  · have e : v = -1000001 ∧ wd g T A (upd gm 2 s) (tu Am 5 f) = wd g T A gm Am := by
      by_cases q1 : x < 0
      · rw [if_pos q1] at hq
        cases hq
        exact ⟨rfl, by with_unfolding_all rfl⟩
      · rw [if_neg q1] at c hq
        by_cases q2 : x ≤ 255
        · rw [if_neg (Int32.not_lt.mpr q2)] at c
          exact absurd c (by decide)
        · rw [if_neg q2] at hq
          cases hq
          exact ⟨rfl, by with_unfolding_all rfl⟩
    rw [e.2, e.1]
    refine rn_go 80 (by with_unfolding_all rfl) ?_
    exact rn_rt (by with_unfolding_all rfl) trivial rfl rfl
  have q1 : ¬ x < 0 := fun q => c (if_pos q)
  have q2 : x ≤ 255 := Int32.not_lt.mp (fun q => c (by rw [if_neg q1, if_pos q]))
  rw [if_neg q1, if_pos q2] at hq
  refine rn_go 80 (by with_unfolding_all rfl) ?_
  refine rn_br (by with_unfolding_all rfl) (fun c2 => ?_) (fun c2 => ?_)
  · rw [if_neg (by rw [c2]; decide)] at hq
    cases hq
    refine rn_go 80 (by with_unfolding_all rfl) ?_
    exact rn_rt (by with_unfolding_all rfl) (trivial) (rfl) (by with_unfolding_all rfl)
  have hlt : l < 100 := by
    rcases Nat.lt_or_ge l 100 with q | q
    · exact q
    · exact absurd (by rw [hl, show l = 100 by omega]; rfl) c2
  rw [if_pos (by rw [hl]; exact (show nI l < nI 100 from nI_lt hlt (by decide))), show (gm 2).toNatClampNeg = l by rw [hl]; exact nI_clamp (by omega)] at hq
  cases hq
  refine rn_go 80 (by with_unfolding_all rfl) ?_
  refine rn_st (l) (by with_unfolding_all rfl) hl hlt (by decide) ?_
  refine rn_hp (by with_unfolding_all exact (wM_5)) ?_
  refine rn_to 47 80 (by with_unfolding_all rfl) ?_
  refine rn_hp (by with_unfolding_all exact (wN_2)) ?_
  refine rn_go 80 (by with_unfolding_all rfl) ?_
  exact rn_rt (by with_unfolding_all rfl) trivial rfl rfl
end

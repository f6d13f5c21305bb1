/-! the reading of the tape, by numbers; the class's letters and numbers -/
def ltr (f : Nat → Int32) (len p : Nat) : Int32 := if p < len then f p else -1
def fgB (f : Nat → Int32) (len p : Nat) : Bool := decide (p < len) && (decide (¬ f p < 48) && decide (f p ≤ 57))
def tkE (f : Nat → Int32) (len : Nat) (c : Int32) (e p : Nat) : Nat := if e = 0 then (if ltr f len p = c then 0 else 1) else e
def tkP (f : Nat → Int32) (len : Nat) (c : Int32) (e p : Nat) : Nat := if e = 0 then (if ltr f len p = c then p + 1 else p) else p
def rg (lo hi v : Int32) (p sz : Nat) : Nat × Nat × Int32 := if v < lo then (2, p, 0) else if v ≤ hi then (0, p + sz, v) else (2, p, 0)
def nmS (f : Nat → Int32) (len : Nat) (lo hi : Int32) (p : Nat) : Nat × Nat × Int32 := if fgB f len p = true then (if fgB f len (p + 1) = true then (if fgB f len (p + 2) = true then (1, p, 0) else rg lo hi ((f p - 48) * 10 + f (p + 1) - 48) p 2) else rg lo hi (f p - 48) p 1) else (1, p, 0)
def nm (f : Nat → Int32) (len : Nat) (lo hi : Int32) (e p : Nat) : Nat × Nat × Int32 := if e = 0 then nmS f len lo hi p else (e, p, 0)
def fc (f : Nat → Int32) (len : Nat) : Nat → Nat → Nat
  | 0, _ => 0
  | q + 1, p => if fgB f len p = true then 1 + fc f len q (p + 1) else 0
def isf (x : Int32) : Int32 := if x < 48 then 0 else if 57 < x then 0 else 1
def st (g : Nat → Int32) (e p : Nat) : Nat → Int32 := upd (upd g 3 (nI p)) 4 (nI e)
section
variable {f : Nat → Int32} {len : Nat}
set_option maxRecDepth 10000 in
theorem ltr_in {p : Nat} (h : p < len) : ltr f len p = f p := by unfold ltr; rw [if_pos h]
set_option maxRecDepth 10000 in
theorem ltr_out {p : Nat} (h : len ≤ p) : ltr f len p = -1 := by unfold ltr; rw [if_neg (by omega)]
set_option maxRecDepth 10000 in
theorem fgB_len {p : Nat} (h : fgB f len p = true) : p < len := by
  unfold fgB at h
  by_cases q : p < len
  · exact q
  · rw [decide_eq_false q] at h
    cases h
set_option maxRecDepth 10000 in
theorem fgB_out {p : Nat} (h : len ≤ p) : fgB f len p = false := by
  unfold fgB
  rw [decide_eq_false (by omega)]
  rfl
set_option maxRecDepth 10000 in
theorem isf_fg (p : Nat) : isf (ltr f len p) = if fgB f len p = true then 1 else 0 := by
  by_cases q : p < len
  · rw [ltr_in q]
    unfold isf fgB
    rw [decide_eq_true q]
    by_cases c1 : f p < 48
    · rw [if_pos c1, decide_eq_false (fun h => h c1)]
      rfl
    · rw [if_neg c1, decide_eq_true c1]
      by_cases c2 : f p ≤ 57
      · rw [if_neg (Int32.not_lt.mpr c2), decide_eq_true c2]
        rfl
      · rw [if_pos (Int32.not_le.mp c2), decide_eq_false c2]
        rfl
  · rw [ltr_out (by omega), fgB_out (by omega)]
    decide
set_option maxRecDepth 10000 in
theorem fc_0 {p : Nat} (h : fgB f len p = false) : ∀ q, fc f len q p = 0
  | 0 => rfl
  | q + 1 => by
    unfold fc
    rw [h]
    rfl
set_option maxRecDepth 10000 in
theorem fc_s {p q : Nat} (hq : p + q = len) (h : fgB f len p = true) : ∃ q', p + 1 + q' = len ∧ fc f len q p = 1 + fc f len q' (p + 1) := by
  have := fgB_len h
  cases q with
  | zero => omega
  | succ q => exact ⟨q, by omega, by show (if fgB f len p = true then 1 + fc f len q (p + 1) else 0) = _; rw [if_pos h]⟩
set_option maxRecDepth 10000 in
theorem fc_le : ∀ q p, fc f len q p ≤ q
  | 0, _ => Nat.le_refl _
  | q + 1, p => by
    unfold fc
    split
    · have := fc_le q (p + 1)
      omega
    · omega
set_option maxRecDepth 10000 in
theorem tk_len {c : Int32} {e p : Nat} (hc : ¬ c = -1) (hp : p ≤ len) : tkP f len c e p ≤ len := by
  unfold tkP
  split
  · split
    · rename_i h
      rcases Nat.lt_or_ge p len with q | q
      · omega
      · rw [ltr_out q] at h
        exact absurd h.symm hc
    · exact hp
  · exact hp
set_option maxRecDepth 10000 in
theorem nm_len {lo hi : Int32} {e p : Nat} (hp : p ≤ len) : (nm f len lo hi e p).2.1 ≤ len := by
  unfold nm
  split
  · unfold nmS
    split
    · rename_i h1
      have l1 := fgB_len h1
      split
      · rename_i h2
        have l2 := fgB_len h2
        split
        · exact hp
        · unfold rg
          split
          · exact hp
          · split
            · show p + 2 ≤ len
              omega
            · exact hp
      · unfold rg
        split
        · exact hp
        · split
          · show p + 1 ≤ len
            omega
          · exact hp
    · exact hp
  · exact hp
set_option maxRecDepth 10000 in
theorem nm_rg {lo hi : Int32} {e p : Nat} (h : (nm f len lo hi e p).1 = 0) : ¬ (nm f len lo hi e p).2.2 < lo ∧ (nm f len lo hi e p).2.2 ≤ hi := by
  have key : ∀ v q sz, (rg lo hi v q sz).1 = 0 → ¬ (rg lo hi v q sz).2.2 < lo ∧ (rg lo hi v q sz).2.2 ≤ hi := by
    intro v q sz hr
    unfold rg at hr ⊢
    by_cases c1 : v < lo
    · rw [if_pos c1] at hr
      cases hr
    · rw [if_neg c1] at hr ⊢
      by_cases c2 : v ≤ hi
      · rw [if_pos c2]
        exact ⟨c1, c2⟩
      · rw [if_neg c2] at hr
        cases hr
  unfold nm at h ⊢
  by_cases he : e = 0
  · rw [if_pos he] at h ⊢
    unfold nmS at h ⊢
    by_cases h1 : fgB f len p = true
    · rw [if_pos h1] at h ⊢
      by_cases h2 : fgB f len (p + 1) = true
      · rw [if_pos h2] at h ⊢
        by_cases h3 : fgB f len (p + 2) = true
        · rw [if_pos h3] at h
          cases h
        · rw [if_neg h3] at h ⊢
          exact key _ _ _ h
      · rw [if_neg h2] at h ⊢
        exact key _ _ _ h
    · rw [if_neg h1] at h
      cases h
  · rw [if_neg he] at h
    exact absurd h he
end
section
variable {g : Nat → Int32} {e p e' p' : Nat}
set_option maxRecDepth 10000 in
theorem st_4 : upd (st g e p) 4 (nI e') = st g e' p := by
  unfold st
  rw [up_up]
set_option maxRecDepth 10000 in
theorem st_3 : upd (st g e p) 3 (nI p') = st g e p' := by
  unfold st
  rw [up_comm (show 4 ≠ 3 by decide), up_up]
set_option maxRecDepth 10000 in
theorem st_r4 : st g e p 4 = nI e := up_eq
set_option maxRecDepth 10000 in
theorem st_r3 : st g e p 3 = nI p := by
  unfold st
  rw [up_ne (by decide), up_eq]
set_option maxRecDepth 10000 in
theorem st_ne {k : Nat} (h3 : k ≠ 3) (h4 : k ≠ 4) : st g e p k = g k := by
  unfold st
  rw [up_ne h4, up_ne h3]
end
section
variable {g gm : Nat → Int32} {T A Am : Nat → Nat → Int32} {h : am_H} {e p0 len : Nat}
set_option maxRecDepth 10000 in
theorem x7_letterAt {p : Nat} (hl : g 2 = nI len) (h100 : len ≤ 100) (hp : p < 1000) : am_ev 1 86 [.ref 15, .int (nI p)] (wd g T A gm Am) (some (.int (ltr (A 3) len p))) (wd g T A gm Am) := by
  refine rn_ev am_m_X7_letterAt rfl rfl ?_
  refine rn_go 80 (by with_unfolding_all rfl) ?_
  refine rn_br (by with_unfolding_all rfl) (fun c_ => absurd c_ (nI_pos (by omega))) (fun _ => ?_)
  refine rn_go 80 (by with_unfolding_all rfl) ?_
  by_cases c : p < len
  · refine rn_br (by with_unfolding_all rfl) (fun c_ => absurd c_ ((by rw [hl]; exact nI_ge c (by omega)))) (fun _ => ?_)
    refine rn_go 80 (by with_unfolding_all rfl) ?_
    refine rn_ld (p) (by with_unfolding_all rfl) rfl (by omega) (by decide) ?_
    refine rn_go 80 (by with_unfolding_all rfl) ?_
    exact rn_rt (by with_unfolding_all rfl) (trivial) (by rw [ltr_in c]) (rfl)
  · refine rn_br (by with_unfolding_all rfl) (fun _ => ?_) (fun c_ => absurd ((by rw [hl]; exact nI_le (by omega) (by omega))) c_)
    refine rn_go 80 (by with_unfolding_all rfl) ?_
    exact rn_rt (by with_unfolding_all rfl) (trivial) (by rw [ltr_out (by omega)]) (rfl)
set_option maxRecDepth 10000 in
theorem x7_isFigure (x : Int32) : am_ev 1 90 [.int x] h (some (.int (isf x))) h := by
  unfold isf
  refine rn_ev am_m_X7_isFigure rfl rfl ?_
  refine rn_go 80 (by with_unfolding_all rfl) ?_
  refine rn_br (by with_unfolding_all rfl) (fun c => ?_) (fun c => ?_)
  · rw [if_pos c]
    refine rn_go 80 (by with_unfolding_all rfl) ?_
    exact rn_rt (by with_unfolding_all rfl) (Or.inl rfl) (rfl) (rfl)
  rw [if_neg c]
  refine rn_go 80 (by with_unfolding_all rfl) ?_
  refine rn_br (by with_unfolding_all rfl) (fun c2 => ?_) (fun c2 => ?_)
  · rw [if_pos c2]
    refine rn_go 80 (by with_unfolding_all rfl) ?_
    exact rn_rt (by with_unfolding_all rfl) (Or.inl rfl) (rfl) (rfl)
  · rw [if_neg c2]
    refine rn_go 80 (by with_unfolding_all rfl) ?_
    exact rn_rt (by with_unfolding_all rfl) (Or.inr rfl) (rfl) (rfl)
set_option maxRecDepth 10000 in
theorem x7_figL (hl : g 2 = nI len) (h100 : len ≤ 100) (pl : Int32) : ∀ q p c, p + q = len → rn none 1 am_t_X7_figuresAt (4, [some (.ref 15), some (.int pl), some (.int (nI c)), some (.int (nI p))], [], wd g T A gm Am) (some (.int (nI (c + fc (A 3) len q p)))) (wd g T A gm Am)
  | 0, p, c, hp => by
    have hin : p = len := by omega
    subst hin
    refine rn_go 80 (by with_unfolding_all rfl) ?_
    refine rn_br (by with_unfolding_all rfl) (fun _ => ?_) (fun c_ => absurd ((by rw [hl]; exact Int32.le_refl _)) c_)
    refine rn_go 80 (by with_unfolding_all rfl) ?_
    exact rn_rt (by with_unfolding_all rfl) trivial rfl rfl
  | q + 1, p, c, hp => by
    refine rn_go 80 (by with_unfolding_all rfl) ?_
    refine rn_br (by with_unfolding_all rfl) (fun c_ => absurd c_ ((by rw [hl]; exact nI_ge (show p < len by omega) (by omega)))) (fun _ => ?_)
    refine rn_go 80 (by with_unfolding_all rfl) ?_
    refine rn_cl (by with_unfolding_all rfl) (ev_up (by decide) (x7_letterAt hl h100 (by omega))) ?_
    refine rn_go 80 (by with_unfolding_all rfl) ?_
    refine rn_cl (by with_unfolding_all rfl) (ev_up (by decide) (x7_isFigure _)) ?_
    rw [isf_fg]
    refine rn_go 80 (by with_unfolding_all rfl) ?_
    by_cases c1 : fgB (A 3) len p = true
    · refine rn_br (by with_unfolding_all rfl) (fun c_ => absurd c_ ((by rw [if_pos c1]; decide))) (fun _ => ?_)
      refine rn_to 4 80 (by with_unfolding_all rfl) ?_
      have ih := x7_figL hl h100 pl q (p + 1) (c + 1) (by omega)
      rw [← nI_1, ← nI_1] at ih
      rw [show fc (A 3) len (q + 1) p = 1 + fc (A 3) len q (p + 1) by simp only [fc]; rw [if_pos c1], ← Nat.add_assoc]
      with_unfolding_all exact ih
    · refine rn_br (by with_unfolding_all rfl) (fun _ => ?_) (fun c_ => absurd ((by rw [if_neg c1])) c_)
      refine rn_go 80 (by with_unfolding_all rfl) ?_
      exact rn_rt (by with_unfolding_all rfl) (trivial) (by rw [show fc (A 3) len (q + 1) p = 0 by simp only [fc]; rw [if_neg c1], Nat.add_zero]) (rfl)
set_option maxRecDepth 10000 in
theorem x7_figuresAt {p : Nat} (hl : g 2 = nI len) (h100 : len ≤ 100) (hp : p ≤ len) : am_ev 2 89 [.ref 15, .int (nI p)] (wd g T A gm Am) (some (.int (nI (fc (A 3) len (len - p) p)))) (wd g T A gm Am) := by
  have key := x7_figL (T := T) (A := A) (gm := gm) (Am := Am) hl h100 (nI p) (len - p) p 0 (by omega)
  rw [Nat.zero_add] at key
  refine rn_ev am_m_X7_figuresAt rfl rfl ?_
  refine rn_to 4 80 (by with_unfolding_all rfl) ?_
  with_unfolding_all exact key
set_option maxRecDepth 10000 in
theorem x7_take {p : Nat} (hl : g 2 = nI len) (h100 : len ≤ 100) (hp : p ≤ len) (he : e < 1000) (c : Int32) : am_ev 2 87 [.ref 15, .int c] (wd (st g e p) T A gm Am) none (wd (st g (tkE (A 3) len c e p) (tkP (A 3) len c e p)) T A gm Am) := by
  have hl' : st g e p 2 = nI len := by rw [st_ne (by decide) (by decide)]; exact hl
  unfold tkE tkP
  refine rn_ev am_m_X7_take rfl rfl ?_
  refine rn_go 80 (by with_unfolding_all rfl) ?_
  by_cases c0 : e = 0
  · subst c0
    rw [if_pos rfl, if_pos rfl]
    refine rn_br (by with_unfolding_all rfl) (fun _ => ?_) (fun c_ => absurd (st_r4) c_)
    refine rn_go 80 (by with_unfolding_all rfl) ?_
    rw [st_r3]
    refine rn_cl (by with_unfolding_all rfl) (ev_up (by decide) (x7_letterAt hl' h100 (by omega))) ?_
    refine rn_go 80 (by with_unfolding_all rfl) ?_
    refine rn_br (by with_unfolding_all rfl) (fun c1 => ?_) (fun c1 => ?_)
    · rw [if_pos c1, if_pos c1]
      refine rn_to 36 80 (by with_unfolding_all rfl) ?_
      refine rn_hp (by with_unfolding_all exact (wG_3)) ?_
      rw [st_r3, nI_1, st_3]
      refine rn_go 80 (by with_unfolding_all rfl) ?_
      exact rn_rt (by with_unfolding_all rfl) trivial rfl rfl
    · rw [if_neg c1, if_neg c1]
      refine rn_to 25 80 (by with_unfolding_all rfl) ?_
      refine rn_hp (by with_unfolding_all exact (wG_4)) ?_
      refine rn_go 80 (by with_unfolding_all rfl) ?_
      exact rn_rt (by with_unfolding_all rfl) (trivial) (rfl) (by rw [show (1 : Int32) = nI 1 from rfl, st_4])
  · rw [if_neg c0, if_neg c0]
    refine rn_br (by with_unfolding_all rfl) (fun c_ => absurd c_ ((by rw [st_r4]; exact nI_ne0 (by omega) (by omega)))) (fun _ => ?_)
    refine rn_go 80 (by with_unfolding_all rfl) ?_
    exact rn_rt (by with_unfolding_all rfl) trivial rfl rfl
set_option maxRecDepth 10000 in
theorem x7_takeNumber {p : Nat} (hl : g 2 = nI len) (h100 : len ≤ 100) (hp : p ≤ len) (he : e < 1000) (lo hi : Int32) : am_ev 3 88 [.ref 15, .int lo, .int hi] (wd (st g e p) T A gm Am) (some (.int (nm (A 3) len lo hi e p).2.2)) (wd (st g (nm (A 3) len lo hi e p).1 (nm (A 3) len lo hi e p).2.1) T A gm Am) := by
  have hl' : st g e p 2 = nI len := by rw [st_ne (by decide) (by decide)]; exact hl
  unfold nm
  by_cases c0 : e = 0
  · subst c0
    rw [if_pos rfl]
    have hbad : ∀ k : Nat, k ≤ 100 → (k < 1 ∨ 2 < k) → fc (A 3) len (len - p) p = k → am_ev 3 88 [.ref 15, .int lo, .int hi] (wd (st g 0 p) T A gm Am) (some (.int 0)) (wd (st g 1 p) T A gm Am) := by
      intro k hk100 hk hfc
      refine rn_ev am_m_X7_takeNumber rfl rfl ?_
      refine rn_go 80 (by with_unfolding_all rfl) ?_
      refine rn_br (by with_unfolding_all rfl) (fun _ => ?_) (fun c_ => absurd (st_r4) c_)
      refine rn_go 80 (by with_unfolding_all rfl) ?_
      rw [st_r3]
      refine rn_cl (by with_unfolding_all rfl) (ev_up (by decide) (x7_figuresAt hl' h100 hp)) ?_
      rw [hfc]
      refine rn_go 80 (by with_unfolding_all rfl) ?_
      rcases hk with q | q
      · refine rn_br (by with_unfolding_all rfl) (fun _ => ?_) (fun c_ => absurd ((show nI k < nI 1 from nI_lt q (by decide))) c_)
        refine rn_to 33 80 (by with_unfolding_all rfl) ?_
        refine rn_hp (by with_unfolding_all exact (wG_4)) ?_
        rw [show (1 : Int32) = nI 1 from rfl, st_4]
        refine rn_go 80 (by with_unfolding_all rfl) ?_
        exact rn_rt (by with_unfolding_all rfl) trivial rfl rfl
      · refine rn_br (by with_unfolding_all rfl) (fun c_ => absurd c_ ((show ¬ nI k < nI 1 from nI_nlt (by omega) (by omega)))) (fun _ => ?_)
        refine rn_go 80 (by with_unfolding_all rfl) ?_
        refine rn_br (by with_unfolding_all rfl) (fun c_ => absurd c_ ((show ¬ nI k ≤ nI 2 from nI_ge q (by omega)))) (fun _ => ?_)
        refine rn_to 33 80 (by with_unfolding_all rfl) ?_
        refine rn_hp (by with_unfolding_all exact (wG_4)) ?_
        rw [show (1 : Int32) = nI 1 from rfl, st_4]
        refine rn_go 80 (by with_unfolding_all rfl) ?_
        exact rn_rt (by with_unfolding_all rfl) trivial rfl rfl
    have hend : ∀ (k : Nat) (v i : Int32), k ≤ 2 → rn none 2 am_t_X7_takeNumber (75, [some (.ref 15), some (.int lo), some (.int hi), some (.int (nI k)), some (.int v), some (.int i)], [], wd (st g 0 p) T A gm Am) (some (.int (rg lo hi v p k).2.2)) (wd (st g (rg lo hi v p k).1 (rg lo hi v p k).2.1) T A gm Am) := by
      intro k v i hk
      unfold rg
      refine rn_go 80 (by with_unfolding_all rfl) ?_
      refine rn_br (by with_unfolding_all rfl) (fun c1 => ?_) (fun c1 => ?_)
      · rw [if_pos c1]
        refine rn_to 92 80 (by with_unfolding_all rfl) ?_
        refine rn_hp (by with_unfolding_all exact (wG_4)) ?_
        rw [show (2 : Int32) = nI 2 from rfl, st_4]
        refine rn_go 80 (by with_unfolding_all rfl) ?_
        exact rn_rt (by with_unfolding_all rfl) trivial rfl rfl
      rw [if_neg c1]
      refine rn_go 80 (by with_unfolding_all rfl) ?_
      refine rn_br (by with_unfolding_all rfl) (fun c2 => ?_) (fun c2 => ?_)
      · rw [if_pos c2]
        refine rn_to 104 80 (by with_unfolding_all rfl) ?_
        refine rn_hp (by with_unfolding_all exact (wG_3)) ?_
        rw [st_r3, nI_add, st_3]
        refine rn_go 80 (by with_unfolding_all rfl) ?_
        exact rn_rt (by with_unfolding_all rfl) trivial rfl rfl
      · rw [if_neg c2]
        refine rn_to 92 80 (by with_unfolding_all rfl) ?_
        refine rn_hp (by with_unfolding_all exact (wG_4)) ?_
        rw [show (2 : Int32) = nI 2 from rfl, st_4]
        refine rn_go 80 (by with_unfolding_all rfl) ?_
        exact rn_rt (by with_unfolding_all rfl) trivial rfl rfl
    unfold nmS
    by_cases h1 : fgB (A 3) len p = true
    · rw [if_pos h1]
      obtain ⟨q1, hq1, e1⟩ := fc_s (f := A 3) (q := len - p) (by omega) h1
      have l1 := fgB_len h1
      by_cases h2 : fgB (A 3) len (p + 1) = true
      · rw [if_pos h2]
        obtain ⟨q2, hq2, e2⟩ := fc_s (f := A 3) (q := q1) (by omega) h2
        have l2 := fgB_len h2
        by_cases h3 : fgB (A 3) len (p + 2) = true
        · rw [if_pos h3]
          obtain ⟨q3, hq3, e3⟩ := fc_s (f := A 3) (q := q2) (by omega) h3
          have e2 : fc (A 3) len q1 (p + 1) = 1 + fc (A 3) len q2 (p + 2) := e2
          have l3 := fc_le (f := A 3) (len := len) (len - p) p
          exact hbad _ (by omega) (Or.inr (by omega)) rfl
        · rw [if_neg h3]
          have h3' : fgB (A 3) len (p + 1 + 1) = false := by
            cases hh : fgB (A 3) len (p + 1 + 1)
            · rfl
            · exact absurd hh h3
          have efc : fc (A 3) len (len - p) p = 2 := by rw [e1, e2, fc_0 h3']
          refine rn_ev am_m_X7_takeNumber rfl rfl ?_
          refine rn_go 80 (by with_unfolding_all rfl) ?_
          refine rn_br (by with_unfolding_all rfl) (fun _ => ?_) (fun c_ => absurd (st_r4) c_)
          refine rn_go 80 (by with_unfolding_all rfl) ?_
          rw [st_r3]
          refine rn_cl (by with_unfolding_all rfl) (ev_up (by decide) (x7_figuresAt hl' h100 hp)) ?_
          rw [efc]
          refine rn_go 80 (by with_unfolding_all rfl) ?_
          refine rn_br (by with_unfolding_all rfl) (fun c_ => absurd c_ ((by decide))) (fun _ => ?_)
          refine rn_go 80 (by with_unfolding_all rfl) ?_
          refine rn_br (by with_unfolding_all rfl) (fun _ => ?_) (fun c_ => absurd ((by decide)) c_)
          refine rn_go 80 (by with_unfolding_all rfl) ?_
          refine rn_br (by with_unfolding_all rfl) (fun c_ => absurd c_ ((by decide))) (fun _ => ?_)
          refine rn_go 80 (by with_unfolding_all rfl) ?_
          rw [st_r3, show nI p + 0 = nI p from Int32.add_zero _]
          refine rn_cl (by with_unfolding_all rfl) (ev_up (by decide) (x7_letterAt hl' h100 (by omega))) ?_
          rw [ltr_in l1]
          refine rn_go 80 (by with_unfolding_all rfl) ?_
          refine rn_br (by with_unfolding_all rfl) (fun c_ => absurd c_ ((by decide))) (fun _ => ?_)
          refine rn_go 80 (by with_unfolding_all rfl) ?_
          rw [st_r3, show nI p + (0 + 1) = nI (p + 1) by rw [show (0 : Int32) + 1 = 1 from rfl, nI_1]]
          refine rn_cl (by with_unfolding_all rfl) (ev_up (by decide) (x7_letterAt hl' h100 (by omega))) ?_
          rw [ltr_in l2, show (0 : Int32) * 10 + A 3 p - 48 = A 3 p - 48 by rw [show (0 : Int32) * 10 = 0 from rfl, Int32.zero_add]]
          refine rn_go 80 (by with_unfolding_all rfl) ?_
          refine rn_br (by with_unfolding_all rfl) (fun _ => ?_) (fun c_ => absurd ((by decide)) c_)
          with_unfolding_all exact hend 2 _ _ (by decide)
      · rw [if_neg h2]
        have h2' : fgB (A 3) len (p + 1) = false := by
          cases hh : fgB (A 3) len (p + 1)
          · rfl
          · exact absurd hh h2
        have efc : fc (A 3) len (len - p) p = 1 := by rw [e1, fc_0 h2']
        refine rn_ev am_m_X7_takeNumber rfl rfl ?_
        refine rn_go 80 (by with_unfolding_all rfl) ?_
        refine rn_br (by with_unfolding_all rfl) (fun _ => ?_) (fun c_ => absurd (st_r4) c_)
        refine rn_go 80 (by with_unfolding_all rfl) ?_
        rw [st_r3]
        refine rn_cl (by with_unfolding_all rfl) (ev_up (by decide) (x7_figuresAt hl' h100 hp)) ?_
        rw [efc]
        refine rn_go 80 (by with_unfolding_all rfl) ?_
        refine rn_br (by with_unfolding_all rfl) (fun c_ => absurd c_ ((by decide))) (fun _ => ?_)
        refine rn_go 80 (by with_unfolding_all rfl) ?_
        refine rn_br (by with_unfolding_all rfl) (fun _ => ?_) (fun c_ => absurd ((by decide)) c_)
        refine rn_go 80 (by with_unfolding_all rfl) ?_
        refine rn_br (by with_unfolding_all rfl) (fun c_ => absurd c_ ((by decide))) (fun _ => ?_)
        refine rn_go 80 (by with_unfolding_all rfl) ?_
        rw [st_r3, show nI p + 0 = nI p from Int32.add_zero _]
        refine rn_cl (by with_unfolding_all rfl) (ev_up (by decide) (x7_letterAt hl' h100 (by omega))) ?_
        rw [ltr_in l1]
        refine rn_go 80 (by with_unfolding_all rfl) ?_
        rw [show (0 : Int32) * 10 + A 3 p - 48 = A 3 p - 48 by rw [show (0 : Int32) * 10 = 0 from rfl, Int32.zero_add]]
        refine rn_br (by with_unfolding_all rfl) (fun _ => ?_) (fun c_ => absurd ((by decide)) c_)
        with_unfolding_all exact hend 1 _ _ (by decide)
    · rw [if_neg h1]
      have h1' : fgB (A 3) len p = false := by
        cases hh : fgB (A 3) len p
        · rfl
        · exact absurd hh h1
      exact hbad 0 (by decide) (Or.inl (by decide)) (fc_0 h1' _)
  · rw [if_neg c0]
    refine rn_ev am_m_X7_takeNumber rfl rfl ?_
    refine rn_go 80 (by with_unfolding_all rfl) ?_
    refine rn_br (by with_unfolding_all rfl) (fun c_ => absurd c_ ((by rw [st_r4]; exact nI_ne0 (by omega) (by omega)))) (fun _ => ?_)
    refine rn_go 80 (by with_unfolding_all rfl) ?_
    exact rn_rt (by with_unfolding_all rfl) trivial rfl rfl
end

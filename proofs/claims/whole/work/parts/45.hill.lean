/-! the reading of the tape: law, motions, members -/
def kd (c : Int32) : Int32 := if c = 112 then 1 else if c = 108 then 2 else if c = 100 then 3 else if c = 105 then 4 else if c = 114 then 5 else 0
def clr (x : Nat → Int32) : Nat → Int32 := upd (upd (upd (upd (upd x 2 0) 0 0) 1 0) 3 0) 4 0
def mo1 (f : Nat → Int32) (len e p c : Nat) : Nat := if e = 0 ∧ ltr f len p = 109 ∧ c = 4 then 3 else e
def mo3 (f : Nat → Int32) (len e p c : Nat) : Nat × Nat × Int32 := nm f len 0 99 (tkE f len 109 (mo1 f len e p c) p) (tkP f len 109 (mo1 f len e p c) p)
def mo4E (f : Nat → Int32) (len e p c : Nat) : Nat := tkE f len 59 (mo3 f len e p c).1 (mo3 f len e p c).2.1
def mo4P (f : Nat → Int32) (len e p c : Nat) : Nat := tkP f len 59 (mo3 f len e p c).1 (mo3 f len e p c).2.1
def addM (x : Nat → Int32) (c : Nat) (v : Int32) : Nat → Int32 := upd (upd x (5 + c) v) 0 (nI (c + 1))
def moS (f : Nat → Int32) (len : Nat) (S : Nat × Nat × Nat × (Nat → Int32)) : Nat × Nat × Nat × (Nat → Int32) := if mo4E f len S.1 S.2.1 S.2.2.1 = 0 then (0, mo4P f len S.1 S.2.1 S.2.2.1, S.2.2.1 + 1, addM S.2.2.2 S.2.2.1 (mo3 f len S.1 S.2.1 S.2.2.1).2.2) else (mo4E f len S.1 S.2.1 S.2.2.1, mo4P f len S.1 S.2.1 S.2.2.1, S.2.2.1, S.2.2.2)
def moL (f : Nat → Int32) (len : Nat) : Nat → Nat × Nat × Nat × (Nat → Int32) → Nat × Nat × Nat × (Nat → Int32)
  | 0, S => S
  | q + 1, S => if S.1 = 0 ∧ ltr f len S.2.1 = 109 then moL f len q (moS f len S) else S
def me1E (f : Nat → Int32) (len p c : Nat) : Nat := if kd (ltr f len p) = 0 then 1 else if c = 4 then 3 else 0
def me1P (f : Nat → Int32) (len p c : Nat) : Nat := if kd (ltr f len p) = 0 then p else if c = 4 then p else p + 1
def me2 (f : Nat → Int32) (len p c : Nat) : Nat × Nat × Int32 := nm f len 0 20 (me1E f len p c) (me1P f len p c)
def me3E (f : Nat → Int32) (len p c : Nat) : Nat := tkE f len 44 (me2 f len p c).1 (me2 f len p c).2.1
def me3P (f : Nat → Int32) (len p c : Nat) : Nat := tkP f len 44 (me2 f len p c).1 (me2 f len p c).2.1
def me4 (f : Nat → Int32) (len p c : Nat) : Nat × Nat × Int32 := nm f len 0 9 (me3E f len p c) (me3P f len p c)
def me5E (f : Nat → Int32) (len p c : Nat) : Nat := tkE f len 59 (me4 f len p c).1 (me4 f len p c).2.1
def me5P (f : Nat → Int32) (len p c : Nat) : Nat := tkP f len 59 (me4 f len p c).1 (me4 f len p c).2.1
def addB (x : Nat → Int32) (c : Nat) (k b m : Int32) : Nat → Int32 := upd (upd (upd (upd x (9 + c) k) (13 + c) b) (17 + c) m) 1 (nI (c + 1))
def meS (f : Nat → Int32) (len : Nat) (S : Nat × Nat × Nat × (Nat → Int32)) : Nat × Nat × Nat × (Nat → Int32) := if me5E f len S.2.1 S.2.2.1 = 0 then (0, me5P f len S.2.1 S.2.2.1, S.2.2.1 + 1, addB S.2.2.2 S.2.2.1 (kd (ltr f len S.2.1)) (me2 f len S.2.1 S.2.2.1).2.2 (me4 f len S.2.1 S.2.2.1).2.2) else (me5E f len S.2.1 S.2.2.1, me5P f len S.2.1 S.2.2.1, S.2.2.1, S.2.2.2)
def meL (f : Nat → Int32) (len : Nat) : Nat → Nat × Nat × Nat × (Nat → Int32) → Nat × Nat × Nat × (Nat → Int32)
  | 0, S => S
  | q + 1, S => if S.1 = 0 ∧ S.2.1 < len then meL f len q (meS f len S) else S
def la2 (f : Nat → Int32) (len : Nat) : Nat × Nat × Int32 := nm f len 1 9 (tkE f len 104 0 0) (tkP f len 104 0 0)
def laE (f : Nat → Int32) (len : Nat) : Nat := tkE f len 59 (la2 f len).1 (la2 f len).2.1
def laP (f : Nat → Int32) (len : Nat) : Nat := tkP f len 59 (la2 f len).1 (la2 f len).2.1
def laS (f : Nat → Int32) (len : Nat) (x : Nat → Int32) : Nat × Nat × Nat × (Nat → Int32) := (laE f len, laP f len, 0, upd (clr x) 2 (la2 f len).2.2)
def hM (f : Nat → Int32) (len : Nat) (x : Nat → Int32) : Nat × Nat × Nat × (Nat → Int32) := moL f len 4 (moS f len (laS f len x))
def hB (f : Nat → Int32) (len : Nat) (x : Nat → Int32) : Nat × Nat × Nat × (Nat → Int32) := meL f len 5 ((hM f len x).1, (hM f len x).2.1, 0, (hM f len x).2.2.2)
def IM (k len : Nat) (S : Nat × Nat × Nat × (Nat → Int32)) : Prop := S.1 ≤ 3 ∧ S.2.1 ≤ len ∧ S.2.2.1 ≤ 4 ∧ S.2.2.2 k = nI S.2.2.1
set_option maxRecDepth 10000 in
theorem IM_mk {k len e p c : Nat} {y : Nat → Int32} (h1 : e ≤ 3) (h2 : p ≤ len) (h3 : c ≤ 4) (h4 : y k = nI c) : IM k len (e, p, c, y) := ⟨h1, h2, h3, h4⟩
section
variable {f : Nat → Int32} {len : Nat}
set_option maxRecDepth 10000 in
theorem tkE_3 {c : Int32} {e p : Nat} (h : e ≤ 3) : tkE f len c e p ≤ 3 := by
  unfold tkE
  split
  · split
    · omega
    · omega
  · exact h
set_option maxRecDepth 10000 in
theorem nm_3 {lo hi : Int32} {e p : Nat} (h : e ≤ 3) : (nm f len lo hi e p).1 ≤ 3 := by
  have key : ∀ v q sz, (rg lo hi v q sz).1 ≤ 3 := by
    intro v q sz
    unfold rg
    split
    · exact (by decide : 2 ≤ 3)
    · split
      · exact (by decide : 0 ≤ 3)
      · exact (by decide : 2 ≤ 3)
  unfold nm
  split
  · unfold nmS
    split
    · split
      · split
        · exact (by decide : 1 ≤ 3)
        · exact key _ _ _
      · exact key _ _ _
    · exact (by decide : 1 ≤ 3)
  · exact h
set_option maxRecDepth 10000 in
theorem tk0 {c : Int32} {e p : Nat} (h : tkE f len c e p = 0) : e = 0 ∧ ltr f len p = c := by
  unfold tkE at h
  by_cases he : e = 0
  · rw [if_pos he] at h
    by_cases hc : ltr f len p = c
    · exact ⟨he, hc⟩
    · rw [if_neg hc] at h
      cases h
  · rw [if_neg he] at h
    exact absurd h he
set_option maxRecDepth 10000 in
theorem nm0 {lo hi : Int32} {e p : Nat} (h : (nm f len lo hi e p).1 = 0) : e = 0 := by
  by_cases he : e = 0
  · exact he
  · unfold nm at h
    rw [if_neg he] at h
    exact h
set_option maxRecDepth 10000 in
theorem mo1_3 {e p c : Nat} (h : e ≤ 3) : mo1 f len e p c ≤ 3 := by
  unfold mo1
  split
  · exact Nat.le_refl _
  · exact h
set_option maxRecDepth 10000 in
theorem mo3_3 {e p c : Nat} (h : e ≤ 3) : (mo3 f len e p c).1 ≤ 3 := nm_3 (tkE_3 (mo1_3 h))
set_option maxRecDepth 10000 in
theorem mo3_p {e p c : Nat} (hp : p ≤ len) : (mo3 f len e p c).2.1 ≤ len := nm_len (tk_len (by decide) hp)
set_option maxRecDepth 10000 in
theorem mo4_c {e p c : Nat} (hc : c ≤ 4) (h : mo4E f len e p c = 0) : c < 4 ∧ e = 0 ∧ ltr f len p = 109 := by
  have h1 := tk0 (nm0 (tk0 h).1)
  have h2 := h1.1
  unfold mo1 at h2
  by_cases hq : e = 0 ∧ ltr f len p = 109 ∧ c = 4
  · rw [if_pos hq] at h2
    cases h2
  · rw [if_neg hq] at h2
    refine ⟨?_, h2, h1.2⟩
    rcases Nat.lt_or_ge c 4 with q | q
    · exact q
    · exact absurd ⟨h2, h1.2, by omega⟩ hq
set_option maxRecDepth 10000 in
theorem moS_I {S : Nat × Nat × Nat × (Nat → Int32)} (h : IM 0 len S) : IM 0 len (moS f len S) := by
  obtain ⟨h1, h2, h3, h4⟩ := h
  unfold moS
  by_cases c : mo4E f len S.1 S.2.1 S.2.2.1 = 0
  · rw [if_pos c]
    exact IM_mk (Nat.zero_le _) (tk_len (by decide) (mo3_p h2)) (mo4_c h3 c).1 up_eq
  · rw [if_neg c]
    exact IM_mk (tkE_3 (mo3_3 h1)) (tk_len (by decide) (mo3_p h2)) h3 h4
set_option maxRecDepth 10000 in
theorem moL_I : ∀ q S, IM 0 len S → IM 0 len (moL f len q S)
  | 0, _, h => h
  | q + 1, S, h => by
    unfold moL
    split
    · exact moL_I q _ (moS_I h)
    · exact h
set_option maxRecDepth 10000 in
theorem moS_1 {S : Nat × Nat × Nat × (Nat → Int32)} {k : Nat} (hk : k ≠ 0) (hk2 : k < 5 ∨ 9 ≤ k) (h : IM 0 len S) : (moS f len S).2.2.2 k = S.2.2.2 k := by
  unfold moS
  by_cases c : mo4E f len S.1 S.2.1 S.2.2.1 = 0
  · rw [if_pos c]
    have := (mo4_c h.2.2.1 c).1
    show upd (upd S.2.2.2 (5 + S.2.2.1) _) 0 _ k = _
    rw [up_ne hk, up_ne (by omega)]
  · rw [if_neg c]
set_option maxRecDepth 10000 in
theorem moL_1 {k : Nat} (hk : k ≠ 0) (hk2 : k < 5 ∨ 9 ≤ k) : ∀ q S, IM 0 len S → (moL f len q S).2.2.2 k = S.2.2.2 k
  | 0, _, _ => rfl
  | q + 1, S, h => by
    unfold moL
    split
    · rw [moL_1 hk hk2 q _ (moS_I h), moS_1 hk hk2 h]
    · rfl
set_option maxRecDepth 10000 in
theorem laS_I {x : Nat → Int32} : IM 0 len (laS f len x) := by
  show IM 0 len (laE f len, laP f len, 0, upd (clr x) 2 (la2 f len).2.2)
  refine IM_mk (tkE_3 (nm_3 (tkE_3 (by decide)))) (tk_len (by decide) (nm_len (tk_len (by decide) (Nat.zero_le _)))) (Nat.zero_le _) ?_
  rw [up_ne (by decide)]
  unfold clr
  rw [up_ne (by decide), up_ne (by decide), up_ne (by decide), up_eq]
  rfl
set_option maxRecDepth 10000 in
theorem hM_I {x : Nat → Int32} : IM 0 len (hM f len x) := moL_I 4 _ (moS_I laS_I)
set_option maxRecDepth 10000 in
theorem hM_k {x : Nat → Int32} {k : Nat} (hk : k ≠ 0) (hk2 : k < 5 ∨ 9 ≤ k) : (hM f len x).2.2.2 k = (laS f len x).2.2.2 k := by
  unfold hM
  rw [moL_1 hk hk2 4 _ (moS_I laS_I), moS_1 hk hk2 laS_I]
set_option maxRecDepth 10000 in
theorem laS_k {x : Nat → Int32} : (laS f len x).2.2.2 = upd (clr x) 2 (la2 f len).2.2 := rfl
set_option maxRecDepth 10000 in
theorem hM_B {x : Nat → Int32} : IM 1 len ((hM f len x).1, (hM f len x).2.1, 0, (hM f len x).2.2.2) := by
  have hI := hM_I (f := f) (len := len) (x := x)
  refine IM_mk hI.1 hI.2.1 (Nat.zero_le _) ?_
  rw [hM_k (by decide) (Or.inl (by decide)), laS_k, up_ne (by decide)]
  unfold clr
  rw [up_ne (by decide), up_ne (by decide), up_eq]
  rfl
set_option maxRecDepth 10000 in
theorem kd_out (p : Nat) (h : len ≤ p) : kd (ltr f len p) = 0 := by
  rw [ltr_out h]
  decide
set_option maxRecDepth 10000 in
theorem me1_3 {p c : Nat} : me1E f len p c ≤ 3 := by
  unfold me1E
  split
  · exact (by decide : 1 ≤ 3)
  · split
    · exact Nat.le_refl _
    · exact Nat.zero_le _
set_option maxRecDepth 10000 in
theorem me1_p {p c : Nat} (hp : p ≤ len) : me1P f len p c ≤ len := by
  unfold me1P
  by_cases h1 : kd (ltr f len p) = 0
  · rw [if_pos h1]
    exact hp
  · rw [if_neg h1]
    split
    · exact hp
    · rcases Nat.lt_or_ge p len with q | q
      · exact q
      · exact absurd (kd_out p q) h1
set_option maxRecDepth 10000 in
theorem me2_p {p c : Nat} (hp : p ≤ len) : (me2 f len p c).2.1 ≤ len := nm_len (me1_p hp)
set_option maxRecDepth 10000 in
theorem me3_p {p c : Nat} (hp : p ≤ len) : me3P f len p c ≤ len := tk_len (by decide) (me2_p hp)
set_option maxRecDepth 10000 in
theorem me4_p {p c : Nat} (hp : p ≤ len) : (me4 f len p c).2.1 ≤ len := nm_len (me3_p hp)
set_option maxRecDepth 10000 in
theorem me5_p {p c : Nat} (hp : p ≤ len) : me5P f len p c ≤ len := tk_len (by decide) (me4_p hp)
set_option maxRecDepth 10000 in
theorem me5_3 {p c : Nat} : me5E f len p c ≤ 3 := tkE_3 (nm_3 (tkE_3 (nm_3 me1_3)))
set_option maxRecDepth 10000 in
theorem me5_c {p c : Nat} (hc : c ≤ 4) (h : me5E f len p c = 0) : c < 4 ∧ ¬ kd (ltr f len p) = 0 := by
  have h1 : me1E f len p c = 0 := nm0 (tk0 (nm0 (tk0 h).1)).1
  unfold me1E at h1
  by_cases c1 : kd (ltr f len p) = 0
  · rw [if_pos c1] at h1
    cases h1
  · rw [if_neg c1] at h1
    by_cases c2 : c = 4
    · rw [if_pos c2] at h1
      cases h1
    · exact ⟨by omega, c1⟩
set_option maxRecDepth 10000 in
theorem meS_I {S : Nat × Nat × Nat × (Nat → Int32)} (h : IM 1 len S) : IM 1 len (meS f len S) := by
  obtain ⟨h1, h2, h3, h4⟩ := h
  unfold meS
  by_cases c : me5E f len S.2.1 S.2.2.1 = 0
  · rw [if_pos c]
    exact IM_mk (Nat.zero_le _) (me5_p h2) (me5_c h3 c).1 up_eq
  · rw [if_neg c]
    exact IM_mk me5_3 (me5_p h2) h3 h4
set_option maxRecDepth 10000 in
theorem meL_I : ∀ q S, IM 1 len S → IM 1 len (meL f len q S)
  | 0, _, h => h
  | q + 1, S, h => by
    unfold meL
    split
    · exact meL_I q _ (meS_I h)
    · exact h
end
section
variable {g gm : Nat → Int32} {T A Am : Nat → Nat → Int32} {h : am_H} {len : Nat}
set_option maxRecDepth 10000 in
theorem x7_sortOf (x : Int32) : am_ev 1 91 [.int x] h (some (.int (kd x))) h := by
  unfold kd
  refine rn_ev am_m_X7_sortOf rfl rfl ?_
  refine rn_to 1 80 (by with_unfolding_all rfl) ?_
  refine rn_one (by with_unfolding_all rfl) ?_
  by_cases h1 : x = 112
  · subst h1
    rw [if_pos rfl]
    refine rn_go 80 (by with_unfolding_all rfl) ?_
    exact rn_rt (by with_unfolding_all rfl) trivial rfl rfl
  rw [if_neg h1]
  by_cases h2 : x = 108
  · subst h2
    rw [if_pos rfl]
    refine rn_go 80 (by with_unfolding_all rfl) ?_
    exact rn_rt (by with_unfolding_all rfl) trivial rfl rfl
  rw [if_neg h2]
  by_cases h3 : x = 100
  · subst h3
    rw [if_pos rfl]
    refine rn_go 80 (by with_unfolding_all rfl) ?_
    exact rn_rt (by with_unfolding_all rfl) trivial rfl rfl
  rw [if_neg h3]
  by_cases h4 : x = 105
  · subst h4
    rw [if_pos rfl]
    refine rn_go 80 (by with_unfolding_all rfl) ?_
    exact rn_rt (by with_unfolding_all rfl) trivial rfl rfl
  rw [if_neg h4]
  by_cases h5 : x = 114
  · subst h5
    rw [if_pos rfl]
    refine rn_go 80 (by with_unfolding_all rfl) ?_
    exact rn_rt (by with_unfolding_all rfl) trivial rfl rfl
  rw [if_neg h5]
  simp only [am_pick, if_neg h1, if_neg h2, if_neg h3, if_neg h4, if_neg h5, ite_self]
  refine rn_go 80 (by with_unfolding_all rfl) ?_
  exact rn_rt (by with_unfolding_all rfl) trivial rfl rfl
set_option maxRecDepth 10000 in
theorem x3_clear2 : am_ev 1 37 [.ref 17] (wd g T A gm Am) none (wd (upd g 13 0) (tu T 2 (clr (T 2))) A gm Am) := by
  refine rn_ev am_m_X3_clear rfl rfl ?_
  refine rn_go 80 (by with_unfolding_all rfl) ?_
  refine rn_ck (by with_unfolding_all rfl) (Or.inl rfl) ?_
  refine rn_hp (by with_unfolding_all exact ((rfl : _ = wd (upd g 13 0) T A gm Am))) ?_
  refine rn_to 10 80 (by with_unfolding_all rfl) ?_
  refine rn_hp (by with_unfolding_all exact (wf_2_2)) ?_
  refine rn_to 15 80 (by with_unfolding_all rfl) ?_
  refine rn_hp (by with_unfolding_all exact (wf_2_0)) ?_
  rw [tu_tu, tu_s]
  refine rn_to 20 80 (by with_unfolding_all rfl) ?_
  refine rn_hp (by with_unfolding_all exact (wf_2_1)) ?_
  rw [tu_tu, tu_s]
  refine rn_to 25 80 (by with_unfolding_all rfl) ?_
  refine rn_hp (by with_unfolding_all exact (wf_2_3)) ?_
  rw [tu_tu, tu_s]
  refine rn_to 30 80 (by with_unfolding_all rfl) ?_
  refine rn_hp (by with_unfolding_all exact (wf_2_4)) ?_
  rw [tu_tu, tu_s]
  refine rn_go 80 (by with_unfolding_all rfl) ?_
  exact rn_rt (by with_unfolding_all rfl) trivial rfl rfl
set_option maxRecDepth 10000 in
theorem x3_addMotion2 {x : Nat → Int32} {c : Nat} (hc : c < 4) (h0 : x 0 = nI c) (v : Int32) : am_ev 1 42 [.ref 17, .int v] (wd g (tu T 2 x) A gm Am) none (wd g (tu T 2 (addM x c v)) A gm Am) := by
  refine rn_ev am_m_X3_addMotion rfl rfl ?_
  refine rn_go 80 (by with_unfolding_all rfl) ?_
  refine rn_br (by with_unfolding_all rfl) (fun c_ => absurd c_ ((by rw [tu_s, h0]; exact (show ¬ nI 4 ≤ nI c from nI_ge hc (by decide))))) (fun _ => ?_)
  refine rn_go 80 (by with_unfolding_all rfl) ?_
  refine rn_st (c) (by with_unfolding_all rfl) (by rw [tu_s]; exact h0) hc (by decide) ?_
  refine rn_hp (by with_unfolding_all exact (ww_2_5 hc)) ?_
  rw [tu_tu, tu_s]
  refine rn_to 28 80 (by with_unfolding_all rfl) ?_
  refine rn_hp (by with_unfolding_all exact (wf_2_0)) ?_
  rw [tu_tu, tu_s, up_ne (by omega), h0, nI_1]
  refine rn_go 80 (by with_unfolding_all rfl) ?_
  exact rn_rt (by with_unfolding_all rfl) trivial rfl rfl
set_option maxRecDepth 10000 in
theorem x3_addMember2 {x : Nat → Int32} {c : Nat} (hc : c < 4) (h0 : x 1 = nI c) (k b m : Int32) : am_ev 1 43 [.ref 17, .int k, .int b, .int m] (wd g (tu T 2 x) A gm Am) none (wd g (tu T 2 (addB x c k b m)) A gm Am) := by
  refine rn_ev am_m_X3_addMember rfl rfl ?_
  refine rn_go 80 (by with_unfolding_all rfl) ?_
  refine rn_br (by with_unfolding_all rfl) (fun c_ => absurd c_ ((by rw [tu_s, h0]; exact (show ¬ nI 4 ≤ nI c from nI_ge hc (by decide))))) (fun _ => ?_)
  refine rn_go 80 (by with_unfolding_all rfl) ?_
  refine rn_st (c) (by with_unfolding_all rfl) (by rw [tu_s]; exact h0) hc (by decide) ?_
  refine rn_hp (by with_unfolding_all exact (ww_2_9 hc)) ?_
  rw [tu_tu, tu_s]
  refine rn_go 80 (by with_unfolding_all rfl) ?_
  refine rn_st (c) (by with_unfolding_all rfl) (by rw [tu_s, up_ne (by omega)]; exact h0) hc (by decide) ?_
  refine rn_hp (by with_unfolding_all exact (ww_2_13 hc)) ?_
  rw [tu_tu, tu_s]
  refine rn_go 80 (by with_unfolding_all rfl) ?_
  refine rn_st (c) (by with_unfolding_all rfl) (by rw [tu_s, up_ne (by omega), up_ne (by omega)]; exact h0) hc (by decide) ?_
  refine rn_hp (by with_unfolding_all exact (ww_2_17 hc)) ?_
  rw [tu_tu, tu_s]
  refine rn_to 48 80 (by with_unfolding_all rfl) ?_
  refine rn_hp (by with_unfolding_all exact (wf_2_1)) ?_
  rw [tu_tu, tu_s, up_ne (by omega), up_ne (by omega), up_ne (by omega), h0, nI_1]
  refine rn_go 80 (by with_unfolding_all rfl) ?_
  exact rn_rt (by with_unfolding_all rfl) trivial rfl rfl
set_option maxRecDepth 10000 in
theorem x7_readLaw (hl : g 2 = nI len) (h100 : len ≤ 100) (x : Nat → Int32) : am_ev 4 81 [.ref 15, .ref 17] (wd (st g 0 0) (tu T 2 (clr x)) A gm Am) none (wd (st g (laS (A 3) len x).1 (laS (A 3) len x).2.1) (tu T 2 (laS (A 3) len x).2.2.2) A gm Am) := by
  refine rn_ev am_m_X7_readLaw rfl rfl ?_
  refine rn_go 80 (by with_unfolding_all rfl) ?_
  refine rn_cl (by with_unfolding_all rfl) (ev_up (by decide) (x7_take hl h100 (Nat.zero_le _) (by decide) 104)) ?_
  refine rn_go 80 (by with_unfolding_all rfl) ?_
  refine rn_cl (by with_unfolding_all rfl) (ev_up (by decide) (x7_takeNumber hl h100 (tk_len (by decide) (Nat.zero_le _)) (Nat.lt_of_le_of_lt (tkE_3 (by decide)) (by decide)) 1 9)) ?_
  refine rn_to 17 80 (by with_unfolding_all rfl) ?_
  refine rn_hp (by with_unfolding_all exact (wf_2_2)) ?_
  rw [tu_tu, tu_s]
  refine rn_go 80 (by with_unfolding_all rfl) ?_
  refine rn_cl (by with_unfolding_all rfl) (ev_up (by decide) (x7_take hl h100 (nm_len (tk_len (by decide) (Nat.zero_le _))) (Nat.lt_of_le_of_lt (nm_3 (tkE_3 (by decide))) (by decide)) 59)) ?_
  refine rn_go 80 (by with_unfolding_all rfl) ?_
  exact rn_rt (by with_unfolding_all rfl) trivial rfl rfl
set_option maxRecDepth 10000 in
theorem x7_readMotion {S : Nat × Nat × Nat × (Nat → Int32)} (hl : g 2 = nI len) (h100 : len ≤ 100) (hS : IM 0 len S) : am_ev 4 83 [.ref 15, .ref 17] (wd (st g S.1 S.2.1) (tu T 2 S.2.2.2) A gm Am) none (wd (st g (moS (A 3) len S).1 (moS (A 3) len S).2.1) (tu T 2 (moS (A 3) len S).2.2.2) A gm Am) := by
  obtain ⟨h1, h2, h3, h4⟩ := hS
  have hl' : ∀ e p, st g e p 2 = nI len := fun e p => by rw [st_ne (by decide) (by decide)]; exact hl
  have tail : rn none 3 am_t_X7_readMotion (33, [some (.ref 15), some (.ref 17), none], [], wd (st g (mo1 (A 3) len S.1 S.2.1 S.2.2.1) S.2.1) (tu T 2 S.2.2.2) A gm Am) none (wd (st g (moS (A 3) len S).1 (moS (A 3) len S).2.1) (tu T 2 (moS (A 3) len S).2.2.2) A gm Am) := by
    refine rn_go 80 (by with_unfolding_all rfl) ?_
    refine rn_cl (by with_unfolding_all rfl) (ev_up (by decide) (x7_take hl h100 h2 (Nat.lt_of_le_of_lt (mo1_3 h1) (by decide)) 109)) ?_
    refine rn_go 80 (by with_unfolding_all rfl) ?_
    refine rn_cl (by with_unfolding_all rfl) (ev_up (by decide) (x7_takeNumber hl h100 (tk_len (by decide) h2) (Nat.lt_of_le_of_lt (tkE_3 (mo1_3 h1)) (by decide)) 0 99)) ?_
    refine rn_go 80 (by with_unfolding_all rfl) ?_
    refine rn_cl (by with_unfolding_all rfl) (ev_up (by decide) (x7_take hl h100 (nm_len (tk_len (by decide) h2)) (Nat.lt_of_le_of_lt (nm_3 (tkE_3 (mo1_3 h1))) (by decide)) 59)) ?_
    refine rn_go 80 (by with_unfolding_all rfl) ?_
    have h43 : mo4E (A 3) len S.1 S.2.1 S.2.2.1 ≤ 3 := tkE_3 (mo3_3 h1)
    unfold moS
    by_cases c : mo4E (A 3) len S.1 S.2.1 S.2.2.1 = 0
    · rw [if_pos c]
      refine rn_br (by with_unfolding_all rfl) (fun _ => ?_) (fun c_ => absurd ((by rw [st_r4]; exact congrArg nI c)) c_)
      refine rn_go 80 (by with_unfolding_all rfl) ?_
      refine rn_cl (by with_unfolding_all rfl) (ev_up (by decide) (x3_addMotion2 (mo4_c h3 c).1 h4 _)) ?_
      refine rn_go 80 (by with_unfolding_all rfl) ?_
      refine rn_rt (by with_unfolding_all rfl) trivial rfl ?_
      exact congrArg (fun e => wd (st g e (mo4P (A 3) len S.1 S.2.1 S.2.2.1)) (tu T 2 (addM S.2.2.2 S.2.2.1 (mo3 (A 3) len S.1 S.2.1 S.2.2.1).2.2)) A gm Am) c.symm
    · rw [if_neg c]
      refine rn_br (by with_unfolding_all rfl) (fun c_ => absurd c_ ((by rw [st_r4]; exact nI_ne0 (Nat.pos_of_ne_zero c) (Nat.lt_of_le_of_lt h43 (by decide))))) (fun _ => ?_)
      refine rn_go 80 (by with_unfolding_all rfl) ?_
      exact rn_rt (by with_unfolding_all rfl) trivial rfl rfl
  refine rn_ev am_m_X7_readMotion rfl rfl ?_
  refine rn_go 80 (by with_unfolding_all rfl) ?_
  by_cases c1 : S.1 = 0
  · refine rn_br (by with_unfolding_all rfl) (fun _ => ?_) (fun c_ => absurd ((by rw [st_r4, c1]; rfl)) c_)
    refine rn_go 80 (by with_unfolding_all rfl) ?_
    rw [st_r3]
    refine rn_cl (by with_unfolding_all rfl) (ev_up (by decide) (x7_letterAt (hl' _ _) h100 (by omega))) ?_
    refine rn_go 80 (by with_unfolding_all rfl) ?_
    by_cases c2 : ltr (A 3) len S.2.1 = 109
    · refine rn_br (by with_unfolding_all rfl) (fun _ => ?_) (fun c_ => absurd (c2) c_)
      refine rn_go 80 (by with_unfolding_all rfl) ?_
      by_cases c3 : S.2.2.1 = 4
      · refine rn_br (by with_unfolding_all rfl) (fun _ => ?_) (fun c_ => absurd ((by rw [tu_s, h4, c3]; rfl)) c_)
        refine rn_to 33 80 (by with_unfolding_all rfl) ?_
        refine rn_hp (by with_unfolding_all exact (wG_4)) ?_
        rw [show mo1 (A 3) len S.1 S.2.1 S.2.2.1 = 3 by unfold mo1; rw [if_pos ⟨c1, c2, c3⟩]] at tail
        rw [show (3 : Int32) = nI 3 from rfl, st_4]
        with_unfolding_all exact tail
      · refine rn_br (by with_unfolding_all rfl) (fun c_ => absurd c_ ((by rw [tu_s, h4]; exact fun q => c3 ((nI_eq (b := 4) (by omega) (by omega)).mp q)))) (fun _ => ?_)
        rw [show mo1 (A 3) len S.1 S.2.1 S.2.2.1 = S.1 by unfold mo1; rw [if_neg (fun q => c3 q.2.2)]] at tail
        with_unfolding_all exact tail
    · refine rn_br (by with_unfolding_all rfl) (fun c_ => absurd c_ (c2)) (fun _ => ?_)
      rw [show mo1 (A 3) len S.1 S.2.1 S.2.2.1 = S.1 by unfold mo1; rw [if_neg (fun q => c2 q.2.1)]] at tail
      with_unfolding_all exact tail
  · refine rn_br (by with_unfolding_all rfl) (fun c_ => absurd c_ ((by rw [st_r4]; exact nI_ne0 (by omega) (by omega)))) (fun _ => ?_)
    rw [show mo1 (A 3) len S.1 S.2.1 S.2.2.1 = S.1 by unfold mo1; rw [if_neg (fun q => c1 q.1)]] at tail
    with_unfolding_all exact tail
set_option maxRecDepth 10000 in
theorem x7_motL (hl : g 2 = nI len) (h100 : len ≤ 100) : ∀ q i S, i + q = 4 → IM 0 len S → rn none 4 am_t_X7_readMotions (7, [some (.ref 15), some (.ref 17), some (.int (nI i))], [], wd (st g S.1 S.2.1) (tu T 2 S.2.2.2) A gm Am) none (wd (st g (moL (A 3) len q S).1 (moL (A 3) len q S).2.1) (tu T 2 (moL (A 3) len q S).2.2.2) A gm Am)
  | 0, i, S, hi, hS => by
    have hin : i = 4 := by omega
    subst hin
    refine rn_go 80 (by with_unfolding_all rfl) ?_
    refine rn_br (by with_unfolding_all rfl) (fun _ => ?_) (fun c_ => absurd ((by decide)) c_)
    refine rn_go 80 (by with_unfolding_all rfl) ?_
    exact rn_rt (by with_unfolding_all rfl) trivial rfl rfl
  | q + 1, i, S, hi, hS => by
    have hl' : ∀ e p, st g e p 2 = nI len := fun e p => by rw [st_ne (by decide) (by decide)]; exact hl
    have h1 := hS.1
    have h2 := hS.2.1
    refine rn_go 80 (by with_unfolding_all rfl) ?_
    refine rn_br (by with_unfolding_all rfl) (fun c_ => absurd c_ ((show ¬ nI 4 ≤ nI i from nI_ge (by omega) (by omega)))) (fun _ => ?_)
    refine rn_go 80 (by with_unfolding_all rfl) ?_
    by_cases c1 : S.1 = 0
    · refine rn_br (by with_unfolding_all rfl) (fun _ => ?_) (fun c_ => absurd ((by rw [st_r4, c1]; rfl)) c_)
      refine rn_go 80 (by with_unfolding_all rfl) ?_
      rw [st_r3]
      refine rn_cl (by with_unfolding_all rfl) (ev_up (by decide) (x7_letterAt (hl' _ _) h100 (by omega))) ?_
      refine rn_go 80 (by with_unfolding_all rfl) ?_
      by_cases c2 : ltr (A 3) len S.2.1 = 109
      · refine rn_br (by with_unfolding_all rfl) (fun _ => ?_) (fun c_ => absurd (c2) c_)
        refine rn_go 80 (by with_unfolding_all rfl) ?_
        refine rn_cl (by with_unfolding_all rfl) (ev_up (by decide) (x7_readMotion hl h100 hS)) ?_
        refine rn_to 7 80 (by with_unfolding_all rfl) ?_
        have ih := x7_motL hl h100 q (i + 1) (moS (A 3) len S) (by omega) (moS_I hS)
        rw [← nI_1] at ih
        rw [show moL (A 3) len (q + 1) S = moL (A 3) len q (moS (A 3) len S) by show (if _ then _ else _) = _; rw [if_pos ⟨c1, c2⟩]]
        with_unfolding_all exact ih
      · rw [show moL (A 3) len (q + 1) S = S by show (if _ then _ else _) = _; rw [if_neg (fun q => c2 q.2)]]
        refine rn_br (by with_unfolding_all rfl) (fun c_ => absurd c_ (c2)) (fun _ => ?_)
        refine rn_go 80 (by with_unfolding_all rfl) ?_
        exact rn_rt (by with_unfolding_all rfl) trivial rfl rfl
    · rw [show moL (A 3) len (q + 1) S = S by show (if _ then _ else _) = _; rw [if_neg (fun q => c1 q.1)]]
      refine rn_br (by with_unfolding_all rfl) (fun c_ => absurd c_ ((by rw [st_r4]; exact nI_ne0 (by omega) (by omega)))) (fun _ => ?_)
      refine rn_go 80 (by with_unfolding_all rfl) ?_
      exact rn_rt (by with_unfolding_all rfl) trivial rfl rfl
set_option maxRecDepth 10000 in
theorem x7_readMotions {S : Nat × Nat × Nat × (Nat → Int32)} (hl : g 2 = nI len) (h100 : len ≤ 100) (hS : IM 0 len S) : am_ev 5 82 [.ref 15, .ref 17] (wd (st g S.1 S.2.1) (tu T 2 S.2.2.2) A gm Am) none (wd (st g (moL (A 3) len 4 (moS (A 3) len S)).1 (moL (A 3) len 4 (moS (A 3) len S)).2.1) (tu T 2 (moL (A 3) len 4 (moS (A 3) len S)).2.2.2) A gm Am) := by
  refine rn_ev am_m_X7_readMotions rfl rfl ?_
  refine rn_go 80 (by with_unfolding_all rfl) ?_
  refine rn_cl (by with_unfolding_all rfl) (ev_up (by decide) (x7_readMotion hl h100 hS)) ?_
  refine rn_to 7 80 (by with_unfolding_all rfl) ?_
  with_unfolding_all exact x7_motL hl h100 4 0 _ (by omega) (moS_I hS)
set_option maxRecDepth 10000 in
theorem x7_readMember {S : Nat × Nat × Nat × (Nat → Int32)} (hl : g 2 = nI len) (h100 : len ≤ 100) (hS : IM 1 len S) (he : S.1 = 0) : am_ev 4 85 [.ref 15, .ref 17] (wd (st g S.1 S.2.1) (tu T 2 S.2.2.2) A gm Am) none (wd (st g (meS (A 3) len S).1 (meS (A 3) len S).2.1) (tu T 2 (meS (A 3) len S).2.2.2) A gm Am) := by
  obtain ⟨h1, h2, h3, h4⟩ := hS
  have hl' : ∀ e p, st g e p 2 = nI len := fun e p => by rw [st_ne (by decide) (by decide)]; exact hl
  have tail : rn none 3 am_t_X7_readMember (50, [some (.ref 15), some (.ref 17), some (.int (kd (ltr (A 3) len S.2.1))), none, none], [], wd (st g (me1E (A 3) len S.2.1 S.2.2.1) (me1P (A 3) len S.2.1 S.2.2.1)) (tu T 2 S.2.2.2) A gm Am) none (wd (st g (meS (A 3) len S).1 (meS (A 3) len S).2.1) (tu T 2 (meS (A 3) len S).2.2.2) A gm Am) := by
    have s2 : am_ev 3 88 [.ref 15, .int 0, .int 20] (wd (st g (me1E (A 3) len S.2.1 S.2.2.1) (me1P (A 3) len S.2.1 S.2.2.1)) (tu T 2 S.2.2.2) A gm Am) (some (.int (me2 (A 3) len S.2.1 S.2.2.1).2.2)) (wd (st g (me2 (A 3) len S.2.1 S.2.2.1).1 (me2 (A 3) len S.2.1 S.2.2.1).2.1) (tu T 2 S.2.2.2) A gm Am) := x7_takeNumber hl h100 (me1_p h2) (Nat.lt_of_le_of_lt me1_3 (by decide)) 0 20
    have s3 : am_ev 2 87 [.ref 15, .int 44] (wd (st g (me2 (A 3) len S.2.1 S.2.2.1).1 (me2 (A 3) len S.2.1 S.2.2.1).2.1) (tu T 2 S.2.2.2) A gm Am) none (wd (st g (me3E (A 3) len S.2.1 S.2.2.1) (me3P (A 3) len S.2.1 S.2.2.1)) (tu T 2 S.2.2.2) A gm Am) := x7_take hl h100 (me2_p h2) (Nat.lt_of_le_of_lt (nm_3 me1_3) (by decide)) 44
    have s4 : am_ev 3 88 [.ref 15, .int 0, .int 9] (wd (st g (me3E (A 3) len S.2.1 S.2.2.1) (me3P (A 3) len S.2.1 S.2.2.1)) (tu T 2 S.2.2.2) A gm Am) (some (.int (me4 (A 3) len S.2.1 S.2.2.1).2.2)) (wd (st g (me4 (A 3) len S.2.1 S.2.2.1).1 (me4 (A 3) len S.2.1 S.2.2.1).2.1) (tu T 2 S.2.2.2) A gm Am) := x7_takeNumber hl h100 (me3_p h2) (Nat.lt_of_le_of_lt (tkE_3 (nm_3 me1_3)) (by decide)) 0 9
    have s5 : am_ev 2 87 [.ref 15, .int 59] (wd (st g (me4 (A 3) len S.2.1 S.2.2.1).1 (me4 (A 3) len S.2.1 S.2.2.1).2.1) (tu T 2 S.2.2.2) A gm Am) none (wd (st g (me5E (A 3) len S.2.1 S.2.2.1) (me5P (A 3) len S.2.1 S.2.2.1)) (tu T 2 S.2.2.2) A gm Am) := x7_take hl h100 (me4_p h2) (Nat.lt_of_le_of_lt (nm_3 (tkE_3 (nm_3 me1_3))) (by decide)) 59
    have h53 : me5E (A 3) len S.2.1 S.2.2.1 ≤ 3 := me5_3
    have hcc : me5E (A 3) len S.2.1 S.2.2.1 = 0 → S.2.2.1 < 4 := fun c => (me5_c h3 c).1
    unfold meS
    generalize me5E (A 3) len S.2.1 S.2.2.1 = e5 at s5 h53 hcc ⊢
    generalize me5P (A 3) len S.2.1 S.2.2.1 = p5 at s5 ⊢
    generalize me4 (A 3) len S.2.1 S.2.2.1 = n4 at s4 s5 ⊢
    generalize me3E (A 3) len S.2.1 S.2.2.1 = e3 at s3 s4
    generalize me3P (A 3) len S.2.1 S.2.2.1 = p3 at s3 s4
    generalize me2 (A 3) len S.2.1 S.2.2.1 = n2 at s2 s3 ⊢
    generalize me1E (A 3) len S.2.1 S.2.2.1 = e1 at s2 ⊢
    generalize me1P (A 3) len S.2.1 S.2.2.1 = p1 at s2 ⊢
    refine rn_go 80 (by with_unfolding_all rfl) ?_
    refine rn_cl (by with_unfolding_all rfl) (ev_up (by decide) (s2)) ?_
    refine rn_go 80 (by with_unfolding_all rfl) ?_
    refine rn_cl (by with_unfolding_all rfl) (ev_up (by decide) (s3)) ?_
    refine rn_go 80 (by with_unfolding_all rfl) ?_
    refine rn_cl (by with_unfolding_all rfl) (ev_up (by decide) (s4)) ?_
    refine rn_go 80 (by with_unfolding_all rfl) ?_
    refine rn_cl (by with_unfolding_all rfl) (ev_up (by decide) (s5)) ?_
    refine rn_go 80 (by with_unfolding_all rfl) ?_
    by_cases c : e5 = 0
    · rw [if_pos c]
      refine rn_br (by with_unfolding_all rfl) (fun _ => ?_) (fun c_ => absurd ((by rw [st_r4]; exact congrArg nI c)) c_)
      refine rn_go 80 (by with_unfolding_all rfl) ?_
      refine rn_cl (by with_unfolding_all rfl) (ev_up (by decide) (x3_addMember2 (hcc c) h4 _ _ _)) ?_
      refine rn_go 80 (by with_unfolding_all rfl) ?_
      refine rn_rt (by with_unfolding_all rfl) trivial rfl ?_
      exact congrArg (fun e => wd (st g e p5) (tu T 2 (addB S.2.2.2 S.2.2.1 (kd (ltr (A 3) len S.2.1)) n2.2.2 n4.2.2)) A gm Am) c.symm
    · rw [if_neg c]
      refine rn_br (by with_unfolding_all rfl) (fun c_ => absurd c_ ((by rw [st_r4]; exact nI_ne0 (Nat.pos_of_ne_zero c) (Nat.lt_of_le_of_lt h53 (by decide))))) (fun _ => ?_)
      refine rn_go 80 (by with_unfolding_all rfl) ?_
      exact rn_rt (by with_unfolding_all rfl) trivial rfl rfl
  rw [he]
  refine rn_ev am_m_X7_readMember rfl rfl ?_
  refine rn_go 80 (by with_unfolding_all rfl) ?_
  rw [st_r3]
  refine rn_cl (by with_unfolding_all rfl) (ev_up (by decide) (x7_letterAt (hl' _ _) h100 (by omega))) ?_
  refine rn_go 80 (by with_unfolding_all rfl) ?_
  refine rn_cl (by with_unfolding_all rfl) (ev_up (by decide) (x7_sortOf _)) ?_
  refine rn_go 80 (by with_unfolding_all rfl) ?_
  by_cases c1 : kd (ltr (A 3) len S.2.1) = 0
  · rw [show me1E (A 3) len S.2.1 S.2.2.1 = 1 by unfold me1E; rw [if_pos c1], show me1P (A 3) len S.2.1 S.2.2.1 = S.2.1 by unfold me1P; rw [if_pos c1]] at tail
    refine rn_br (by with_unfolding_all rfl) (fun _ => ?_) (fun c_ => absurd (c1) c_)
    refine rn_to 21 80 (by with_unfolding_all rfl) ?_
    refine rn_hp (by with_unfolding_all exact (wG_4)) ?_
    rw [show (1 : Int32) = nI 1 from rfl, st_4]
    refine rn_to 50 80 (by with_unfolding_all rfl) ?_
    with_unfolding_all exact tail
  · refine rn_br (by with_unfolding_all rfl) (fun c_ => absurd c_ (c1)) (fun _ => ?_)
    refine rn_go 80 (by with_unfolding_all rfl) ?_
    by_cases c2 : S.2.2.1 = 4
    · rw [show me1E (A 3) len S.2.1 S.2.2.1 = 3 by unfold me1E; rw [if_neg c1, if_pos c2], show me1P (A 3) len S.2.1 S.2.2.1 = S.2.1 by unfold me1P; rw [if_neg c1, if_pos c2]] at tail
      refine rn_br (by with_unfolding_all rfl) (fun _ => ?_) (fun c_ => absurd ((by rw [tu_s, h4, c2]; rfl)) c_)
      refine rn_to 37 80 (by with_unfolding_all rfl) ?_
      refine rn_hp (by with_unfolding_all exact (wG_4)) ?_
      rw [show (3 : Int32) = nI 3 from rfl, st_4]
      refine rn_to 50 80 (by with_unfolding_all rfl) ?_
      with_unfolding_all exact tail
    · rw [show me1E (A 3) len S.2.1 S.2.2.1 = 0 by unfold me1E; rw [if_neg c1, if_neg c2], show me1P (A 3) len S.2.1 S.2.2.1 = S.2.1 + 1 by unfold me1P; rw [if_neg c1, if_neg c2]] at tail
      refine rn_br (by with_unfolding_all rfl) (fun c_ => absurd c_ ((by rw [tu_s, h4]; exact fun q => c2 ((nI_eq (b := 4) (by omega) (by omega)).mp q)))) (fun _ => ?_)
      refine rn_to 50 80 (by with_unfolding_all rfl) ?_
      refine rn_hp (by with_unfolding_all exact (wG_3)) ?_
      rw [st_r3, nI_1, st_3]
      with_unfolding_all exact tail
set_option maxRecDepth 10000 in
theorem x7_memL (hl : g 2 = nI len) (h100 : len ≤ 100) : ∀ q i S, i + q = 5 → IM 1 len S → rn none 4 am_t_X7_readMembers (2, [some (.ref 15), some (.ref 17), some (.int (nI i))], [], wd (st g S.1 S.2.1) (tu T 2 S.2.2.2) A gm Am) none (wd (st g (meL (A 3) len q S).1 (meL (A 3) len q S).2.1) (tu T 2 (meL (A 3) len q S).2.2.2) A gm Am)
  | 0, i, S, hi, hS => by
    have hin : i = 5 := by omega
    subst hin
    refine rn_go 80 (by with_unfolding_all rfl) ?_
    refine rn_br (by with_unfolding_all rfl) (fun _ => ?_) (fun c_ => absurd ((by decide)) c_)
    refine rn_go 80 (by with_unfolding_all rfl) ?_
    exact rn_rt (by with_unfolding_all rfl) trivial rfl rfl
  | q + 1, i, S, hi, hS => by
    have hl' : ∀ e p, st g e p 2 = nI len := fun e p => by rw [st_ne (by decide) (by decide)]; exact hl
    have h1 := hS.1
    have h2 := hS.2.1
    refine rn_go 80 (by with_unfolding_all rfl) ?_
    refine rn_br (by with_unfolding_all rfl) (fun c_ => absurd c_ ((show ¬ nI 4 < nI i from nI_nlt (by omega) (by omega)))) (fun _ => ?_)
    refine rn_go 80 (by with_unfolding_all rfl) ?_
    by_cases c1 : S.1 = 0
    · refine rn_br (by with_unfolding_all rfl) (fun _ => ?_) (fun c_ => absurd ((by rw [st_r4, c1]; rfl)) c_)
      refine rn_go 80 (by with_unfolding_all rfl) ?_
      by_cases c2 : S.2.1 < len
      · refine rn_br (by with_unfolding_all rfl) (fun c_ => absurd c_ ((by rw [st_r3, hl']; exact nI_ge c2 (by omega)))) (fun _ => ?_)
        refine rn_go 80 (by with_unfolding_all rfl) ?_
        refine rn_cl (by with_unfolding_all rfl) (ev_up (by decide) (x7_readMember hl h100 hS c1)) ?_
        refine rn_to 2 80 (by with_unfolding_all rfl) ?_
        have ih := x7_memL hl h100 q (i + 1) (meS (A 3) len S) (by omega) (meS_I hS)
        rw [← nI_1] at ih
        rw [show meL (A 3) len (q + 1) S = meL (A 3) len q (meS (A 3) len S) by show (if _ then _ else _) = _; rw [if_pos ⟨c1, c2⟩]]
        with_unfolding_all exact ih
      · rw [show meL (A 3) len (q + 1) S = S by show (if _ then _ else _) = _; rw [if_neg (fun q => c2 q.2)]]
        refine rn_br (by with_unfolding_all rfl) (fun _ => ?_) (fun c_ => absurd ((by rw [st_r3, hl']; exact nI_le (by omega) (by omega))) c_)
        refine rn_go 80 (by with_unfolding_all rfl) ?_
        exact rn_rt (by with_unfolding_all rfl) trivial rfl rfl
    · rw [show meL (A 3) len (q + 1) S = S by show (if _ then _ else _) = _; rw [if_neg (fun q => c1 q.1)]]
      refine rn_br (by with_unfolding_all rfl) (fun c_ => absurd c_ ((by rw [st_r4]; exact nI_ne0 (by omega) (by omega)))) (fun _ => ?_)
      refine rn_go 80 (by with_unfolding_all rfl) ?_
      exact rn_rt (by with_unfolding_all rfl) trivial rfl rfl
end

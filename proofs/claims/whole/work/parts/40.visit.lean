/-! the best plan of days: the search, by numbers -/
def mI (m : Nat) : Int32 := nI m - 1
set_option maxRecDepth 10000 in
theorem mI_le {c m : Nat} (hc : c < 1000) (hm : m < 1000) : nI c ≤ mI m ↔ c + 1 ≤ m := by
  cases m with
  | zero =>
    refine ⟨fun q => absurd q ?_, fun q => by omega⟩
    intro q
    exact absurd (Int32.le_trans (nI_pos' (n := c) (by omega)) q) (by decide)
  | succ m =>
    unfold mI
    rw [nI_pred, nI_leI (by omega) (by omega)]
    omega
set_option maxRecDepth 10000 in
theorem mI_lt {c m : Nat} (hc : c < 1000) (hm : m < 1000) : mI m < nI c ↔ ¬ c + 1 ≤ m := by
  rw [← mI_le hc hm]
  exact ⟨fun q r => absurd q (Int32.not_lt.mpr r), fun q => Int32.not_le.mp q⟩
set_option maxRecDepth 10000 in
theorem mI_s (c : Nat) : mI (c + 1) = nI c := nI_pred c
def cN (x : Nat → Int32) (s a : Int32) (n dy mo : Nat) : Nat := if ts x s a n < tn x dy mo then 0 else 1
set_option maxRecDepth 10000 in
theorem cw_cN {x : Nat → Int32} {s a : Int32} {n dy mo : Nat} : cw x s a n dy mo = nI (cN x s a n dy mo) := by
  unfold cw cN
  split
  · rfl
  · rfl
set_option maxRecDepth 10000 in
theorem cN_1 {x : Nat → Int32} {s a : Int32} {n dy mo : Nat} : cN x s a n dy mo ≤ 1 := by
  unfold cN
  split
  · exact Nat.zero_le _
  · exact Nat.le_refl _
set_option maxRecDepth 10000 in
theorem cN_0 {x : Nat → Int32} {s a : Int32} {n dy mo : Nat} : cw x s a n dy mo = 0 ↔ cN x s a n dy mo = 0 := by
  unfold cw cN
  split
  · exact ⟨fun _ => rfl, fun _ => rfl⟩
  · exact ⟨fun q => absurd q (by decide), fun q => absurd q (by decide)⟩
def sub0 (j : Nat) (a : Int32) : Prop := nI j &&& (a ^^^ -1) = 0
set_option maxRecDepth 10000 in
theorem sub_0 (a : Int32) : nI 0 &&& (a ^^^ -1) = 0 := b_ext (fun i _ => by
  rw [b_and, show nI 0 = (0 : Int32) from rfl, b_0, Bool.false_and])
def fr (f : Nat → Nat × (Nat → Int32) → Nat × (Nat → Int32)) : Nat → Nat → Nat × (Nat → Int32) → Nat × (Nat → Int32)
  | 0, _, s => s
  | q + 1, j, s => fr f q (j + 1) (f j s)
def vis (n mo nd : Nat) : Nat → Nat → (Nat → Int32) → Nat → (Nat → Int32) → Nat × (Nat → Int32) → Nat × (Nat → Int32)
  | 0, _, _, c, p, s => if c + 1 ≤ s.1 then s else (c + 1, p)
  | k + 1, dy, x, c, p, s => fr (fun j s => if nI j &&& (ta x n ^^^ -1) = 0 then vis n mo nd k (dy + 1) (pd x (nI j) n (cw x (nI j) (ta x n) n dy mo)) (c + cN x (nI j) (ta x n) n dy mo) (upd p (nd - (k + 1)) (nI j)) s else s) 16 0 s
def vf (n mo nd k dy : Nat) (x : Nat → Int32) (c : Nat) (p : Nat → Int32) (j : Nat) (s : Nat × (Nat → Int32)) : Nat × (Nat → Int32) := if nI j &&& (ta x n ^^^ -1) = 0 then vis n mo nd k (dy + 1) (pd x (nI j) n (cw x (nI j) (ta x n) n dy mo)) (c + cN x (nI j) (ta x n) n dy mo) (upd p (nd - (k + 1)) (nI j)) s else s
set_option maxRecDepth 10000 in
theorem vis_s {n mo nd k dy c : Nat} {x p : Nat → Int32} {s : Nat × (Nat → Int32)} : vis n mo nd (k + 1) dy x c p s = fr (vf n mo nd k dy x c p) 16 0 s := rfl
section
variable {f : Nat → Nat × (Nat → Int32) → Nat × (Nat → Int32)}
set_option maxRecDepth 10000 in
theorem fr_id {s : Nat × (Nat → Int32)} (h : ∀ j, f j s = s) : ∀ q j, fr f q j s = s
  | 0, _ => rfl
  | q + 1, j => by
    show fr f q (j + 1) (f j s) = s
    rw [h j]
    exact fr_id h q (j + 1)
set_option maxRecDepth 10000 in
theorem fr_inv {P : Nat × (Nat → Int32) → Prop} (h : ∀ j s, P s → P (f j s)) : ∀ q j s, P s → P (fr f q j s)
  | 0, _, _, hs => hs
  | q + 1, j, s, hs => fr_inv h q (j + 1) (f j s) (h j s hs)
set_option maxRecDepth 10000 in
theorem fr_split : ∀ i q j s, fr f (i + q) j s = fr f q (j + i) (fr f i j s)
  | 0, q, j, s => by rw [Nat.zero_add]; rfl
  | i + 1, q, j, s => by
    rw [show i + 1 + q = (i + q) + 1 by omega]
    show fr f (i + q) (j + 1) (f j s) = fr f q (j + (i + 1)) (fr f i (j + 1) (f j s))
    rw [fr_split i q (j + 1) (f j s), show j + 1 + i = j + (i + 1) by omega]
set_option maxRecDepth 10000 in
theorem fr_skip {s : Nat × (Nat → Int32)} : ∀ i q j, (∀ l, j ≤ l → l < j + i → f l s = s) → fr f (i + q) j s = fr f q (j + i) s
  | 0, q, j, _ => by rw [Nat.zero_add]; rfl
  | i + 1, q, j, h => by
    rw [show i + 1 + q = (i + q) + 1 by omega]
    show fr f (i + q) (j + 1) (f j s) = _
    rw [h j (Nat.le_refl _) (by omega), fr_skip i q (j + 1) (fun l h1 h2 => h l (by omega) (by omega)), show j + 1 + i = j + (i + 1) by omega]
end
section
variable {n mo nd : Nat}
-- what can't be better is left as it is
set_option maxRecDepth 10000 in
theorem vis_P : ∀ (k dy : Nat) (x : Nat → Int32) (c : Nat) (p : Nat → Int32) (s : Nat × (Nat → Int32)), c + k + 1 ≤ s.1 → vis n mo nd k dy x c p s = s
  | 0, dy, x, c, p, s, h => by
    unfold vis
    rw [if_pos (by omega)]
  | k + 1, dy, x, c, p, s, h => by
    rw [vis_s]
    refine fr_id (fun j => ?_) 16 0
    unfold vf
    split
    · have := cN_1 (x := x) (s := nI j) (a := ta x n) (n := n) (dy := dy) (mo := mo)
      exact vis_P k _ _ _ _ s (by omega)
    · rfl
set_option maxRecDepth 10000 in
theorem vis_1 : ∀ (k dy : Nat) (x : Nat → Int32) (c : Nat) (p : Nat → Int32) (s : Nat × (Nat → Int32)), 1 ≤ (vis n mo nd k dy x c p s).1
  | 0, dy, x, c, p, s => by
    unfold vis
    split
    · omega
    · exact Nat.le_add_left _ _
  | k + 1, dy, x, c, p, s => by
    rw [vis_s]
    show 1 ≤ (fr (vf n mo nd k dy x c p) 15 1 (vf n mo nd k dy x c p 0 s)).1
    refine fr_inv (P := fun s => 1 ≤ s.1) (fun j s hs => ?_) 15 1 _ ?_
    · show 1 ≤ (vf n mo nd k dy x c p j s).1
      unfold vf
      split
      · exact vis_1 k _ _ _ _ _
      · exact hs
    · show 1 ≤ (vf n mo nd k dy x c p 0 s).1
      unfold vf
      rw [if_pos (sub_0 _)]
      exact vis_1 k _ _ _ _ _
set_option maxRecDepth 10000 in
theorem vis_5 : ∀ (k dy : Nat) (x : Nat → Int32) (c : Nat) (p : Nat → Int32) (s : Nat × (Nat → Int32)), s.1 ≤ 5 → c + k ≤ 4 → (vis n mo nd k dy x c p s).1 ≤ 5
  | 0, dy, x, c, p, s, h, hc => by
    unfold vis
    split
    · exact h
    · show c + 1 ≤ 5
      omega
  | k + 1, dy, x, c, p, s, h, hc => by
    rw [vis_s]
    refine fr_inv (P := fun s => s.1 ≤ 5) (fun j s hs => ?_) 16 0 _ h
    show (vf n mo nd k dy x c p j s).1 ≤ 5
    unfold vf
    split
    · have := cN_1 (x := x) (s := nI j) (a := ta x n) (n := n) (dy := dy) (mo := mo)
      exact vis_5 k _ _ _ _ s hs (by omega)
    · exact hs
set_option maxRecDepth 10000 in
theorem vf_5 {k dy c j : Nat} {x p : Nat → Int32} {s : Nat × (Nat → Int32)} (h : s.1 ≤ 5) (hc : c + (k + 1) ≤ 4) : (vf n mo nd k dy x c p j s).1 ≤ 5 := by
  unfold vf
  split
  · have := cN_1 (x := x) (s := nI j) (a := ta x n) (n := n) (dy := dy) (mo := mo)
    exact vis_5 k _ _ _ _ s h (by omega)
  · exact h
set_option maxRecDepth 10000 in
theorem vf_P {k dy c : Nat} {x p : Nat → Int32} {s : Nat × (Nat → Int32)} (h : c + (k + 1) + 1 ≤ s.1) (j : Nat) : vf n mo nd k dy x c p j s = s := by
  unfold vf
  split
  · have := cN_1 (x := x) (s := nI j) (a := ta x n) (n := n) (dy := dy) (mo := mo)
    exact vis_P k _ _ _ _ s (by omega)
  · rfl
-- the last day
set_option maxRecDepth 10000 in
theorem vis_no {dy c : Nat} {x p : Nat → Int32} {s : Nat × (Nat → Int32)} (hno : ∀ j, nI j &&& (ta x n ^^^ -1) = 0 → cN x (nI j) (ta x n) n dy mo = 0) : vis n mo nd 1 dy x c p s = if c + 1 ≤ s.1 then s else (c + 1, upd p (nd - 1) (nI 0)) := by
  rw [vis_s]
  have key : ∀ (s : Nat × (Nat → Int32)), c + 1 ≤ s.1 → ∀ j, vf n mo nd 0 dy x c p j s = s := by
    intro s hs j
    unfold vf
    by_cases hj : nI j &&& (ta x n ^^^ -1) = 0
    · rw [if_pos hj, hno j hj]
      unfold vis
      rw [if_pos (by omega)]
    · rw [if_neg hj]
  by_cases h : c + 1 ≤ s.1
  · rw [if_pos h]
    exact fr_id (key s h) 16 0
  · rw [if_neg h]
    show fr (vf n mo nd 0 dy x c p) 15 1 (vf n mo nd 0 dy x c p 0 s) = _
    have e : vf n mo nd 0 dy x c p 0 s = (c + 1, upd p (nd - 1) (nI 0)) := by
      unfold vf
      rw [if_pos (sub_0 _), hno 0 (sub_0 _)]
      unfold vis
      rw [if_neg (by omega)]
    rw [e]
    exact fr_id (key _ (Nat.le_refl _)) 15 1
set_option maxRecDepth 10000 in
theorem fr_pre {f : Nat → Nat × (Nat → Int32) → Nat × (Nat → Int32)} {P : Nat × (Nat → Int32) → Prop} {m : Nat} (h : ∀ j s, j < m → P s → P (f j s)) : ∀ q j s, j + q ≤ m → P s → P (fr f q j s)
  | 0, _, _, _, hs => hs
  | q + 1, j, s, hq, hs => fr_pre h q (j + 1) (f j s) (by omega) (h j s (by omega) hs)
set_option maxRecDepth 10000 in
theorem vis_yes {dy c j : Nat} {x p : Nat → Int32} {s : Nat × (Nat → Int32)} (hj16 : j < 16) (hsub : nI j &&& (ta x n ^^^ -1) = 0) (hc : cN x (nI j) (ta x n) n dy mo = 1) (hpre : ∀ i, i < j → nI i &&& (ta x n ^^^ -1) = 0 → cN x (nI i) (ta x n) n dy mo = 0) (hs : s.1 ≤ c + 1) : vis n mo nd 1 dy x c p s = (c + 1 + 1, upd p (nd - 1) (nI j)) := by
  rw [vis_s, show 16 = j + ((15 - j) + 1) by omega, fr_split]
  have hp : (fr (vf n mo nd 0 dy x c p) j 0 s).1 ≤ c + 1 := by
    refine fr_pre (P := fun s => s.1 ≤ c + 1) (m := j) (fun i s hi hs => ?_) j 0 s (by omega) hs
    show (vf n mo nd 0 dy x c p i s).1 ≤ c + 1
    unfold vf
    by_cases h : nI i &&& (ta x n ^^^ -1) = 0
    · rw [if_pos h, hpre i hi h]
      unfold vis
      split
      · exact hs
      · exact Nat.le_refl _
    · rw [if_neg h]
      exact hs
  generalize fr (vf n mo nd 0 dy x c p) j 0 s = s1 at hp
  show fr (vf n mo nd 0 dy x c p) (15 - j) (0 + j + 1) (vf n mo nd 0 dy x c p (0 + j) s1) = _
  have e : vf n mo nd 0 dy x c p (0 + j) s1 = (c + 1 + 1, upd p (nd - 1) (nI j)) := by
    rw [Nat.zero_add]
    unfold vf
    rw [if_pos hsub, hc]
    unfold vis
    rw [if_neg (by omega)]
  rw [e]
  refine fr_id (fun i => ?_) _ _
  unfold vf
  split
  · have := cN_1 (x := x) (s := nI i) (a := ta x n) (n := n) (dy := dy) (mo := mo)
    unfold vis
    rw [if_pos (by show c + cN x (nI i) (ta x n) n dy mo + 1 ≤ c + 1 + 1; omega)]
  · rfl
end
-- nobody's saying weighs less than nothing
set_option maxRecDepth 10000 in
theorem tw_n {x : Nat → Int32} {n i aN : Nat} (h : okT x n) (hn : x 1 = nI n) (ha : aN < 16) (hi : i < n) : ∃ w : Nat, w ≤ 40 + n ∧ tw x i (nI aN) = nI w := by
  obtain ⟨hk, ⟨b, hb, e1⟩, -⟩ := h.1 i hi
  have b4 := bcn4 aN ha
  unfold tw
  rw [e1, hn, bc_n aN ha]
  rcases hk with k | k | k | k | k <;> rw [k]
  · exact ⟨20 - b, by omega, by rw [if_pos rfl, show (20 : Int32) = nI 20 from rfl, pk_sub hb]⟩
  · exact ⟨2 * (20 - b), by omega, by rw [if_neg (by decide), if_pos rfl, show (20 : Int32) = nI 20 from rfl, pk_sub hb, show (2 : Int32) = nI 2 from rfl, pk_mul]⟩
  · exact ⟨20 - b, by omega, by rw [if_neg (by decide), if_neg (by decide), if_pos rfl, show (20 : Int32) = nI 20 from rfl, pk_sub hb]⟩
  · exact ⟨5, by omega, by rw [if_neg (by decide), if_neg (by decide), if_neg (by decide), if_pos rfl]; rfl⟩
  · exact ⟨5 + n - bcn aN, by omega, by rw [if_neg (by decide), if_neg (by decide), if_neg (by decide), if_neg (by decide), show (5 : Int32) = nI 5 from rfl, nI_add, pk_sub (by omega)]⟩
set_option maxRecDepth 10000 in
theorem ts_mono {x : Nat → Int32} {n aN : Nat} {s : Int32} (h : okT x n) (hn : x 1 = nI n) (h4 : n ≤ 4) (ha : aN < 16) (hs : s &&& (nI aN ^^^ -1) = 0) : ∀ i, i ≤ n → ∃ u v : Nat, u ≤ v ∧ v ≤ 44 * i ∧ ts x s (nI aN) i = nI u ∧ ts x (nI aN) (nI aN) i = nI v
  | 0, _ => ⟨0, 0, by omega, by omega, rfl, rfl⟩
  | i + 1, hi => by
    obtain ⟨u, v, h1, h2, h3, h5⟩ := ts_mono h hn h4 ha hs i (by omega)
    obtain ⟨w, hw, ew⟩ := tw_n h hn ha (show i < n by omega)
    unfold ts
    rw [h3, h5, ew]
    by_cases c1 : tb s i = 0
    · rw [if_pos c1]
      by_cases c2 : tb (nI aN) i = 0
      · rw [if_pos c2]
        exact ⟨u, v, h1, by omega, rfl, rfl⟩
      · rw [if_neg c2, nI_add]
        exact ⟨u, v + w, by omega, by omega, rfl, rfl⟩
    · have c2 : ¬ tb (nI aN) i = 0 := by
        rw [tb_bt (by omega)] at c1 ⊢
        intro q
        apply c1
        have h3 := congrArg (fun x => bt x i) hs
        simp only [b_and, b_xor, b_0, b_m1 i (by omega), q] at h3
        simpa using h3
      rw [if_neg c1, if_neg c2, nI_add, nI_add]
      exact ⟨u + w, v + w, by omega, by omega, rfl, rfl⟩
set_option maxRecDepth 10000 in
theorem cN_mono {x : Nat → Int32} {n mo dy : Nat} (hX : okX x n mo dy) (h0 : cN x (ta x n) (ta x n) n dy mo = 0) (j : Nat) (hj : nI j &&& (ta x n ^^^ -1) = 0) : cN x (nI j) (ta x n) n dy mo = 0 := by
  obtain ⟨aN, ha, e⟩ := ta16 (x := x) hX.2.2.1
  rw [e] at h0 hj ⊢
  obtain ⟨u, v, h1, h2, h3, h5⟩ := ts_mono hX.1 hX.2.1 hX.2.2.1 ha hj n (Nat.le_refl _)
  unfold cN at h0 ⊢
  by_cases c : ts x (nI aN) (nI aN) n < tn x dy mo
  · rw [h5] at c
    have h4 := hX.2.2.1
    rw [h3, if_pos (Int32.lt_of_le_of_lt (nI_le h1 (by omega)) c)]
  · rw [if_neg c] at h0
    cases h0
-- the town in which only what was carried in all differs
set_option maxRecDepth 10000 in
theorem cw4 {x : Nat → Int32} {d s a : Int32} {n dy mo : Nat} (h1 : 1 ≤ mo) (h4 : mo ≤ 4) : cw (upd x 4 d) s a n dy mo = cw x s a n dy mo := by
  unfold cw tn
  rw [ts4, up_ne (by have := Nat.mod_lt dy h1; omega)]
set_option maxRecDepth 10000 in
theorem pq4 {x : Nat → Int32} {d s : Int32} : ∀ i, pq (upd x 4 d) s i = upd (pq x s i) 4 d
  | 0 => rfl
  | i + 1 => by
    show upd (pq (upd x 4 d) s i) (13 + i) (pb (upd x 4 d) s i) = upd (upd (pq x s i) (13 + i) (pb x s i)) 4 d
    rw [pq4 i, pb4, up_comm (show 4 ≠ 13 + i by omega)]
set_option maxRecDepth 10000 in
theorem pd4 {x : Nat → Int32} {d s c c' : Int32} {n : Nat} : pd (upd x 4 d) s n c = upd (pd x s n c') 4 (d + c) := by
  unfold pd
  rw [pq4, up_eq, up_ne (show 3 ≠ 4 by decide), up_comm (show 3 ≠ 4 by decide), up_up, up_up]

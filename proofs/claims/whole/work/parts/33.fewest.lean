/-! the fewest speakers; what power each has -/
set_option maxRecDepth 10000 in
theorem gcd_half {k y z : Nat} (hy : y < 2 ^ (k + 1)) (hz : 0 < z) (hzy : z < y) : y % z < 2 ^ k := by
  rw [Nat.pow_succ] at hy
  rcases Nat.lt_or_ge (2 ^ k) z with q | q
  · rw [Nat.mod_eq_sub_mod (by omega)]
    exact Nat.lt_of_le_of_lt (Nat.mod_le _ _) (by omega)
  · exact Nat.lt_of_lt_of_le (Nat.mod_lt _ hz) q
def lwI (a b w : Int32) : Int32 := if w = 0 then a / nI (Nat.gcd b.toNatClampNeg a.toNatClampNeg) else b / nI (Nat.gcd b.toNatClampNeg a.toNatClampNeg)
set_option maxRecDepth 10000 in
theorem lwI_n {a b : Nat} {w : Int32} (ha : a < 2 ^ 31) (hb : b < 2 ^ 31) : lwI (nI a) (nI b) w = if w = 0 then nI a / nI (Nat.gcd b a) else nI b / nI (Nat.gcd b a) := by
  unfold lwI
  rw [nI_clamp ha, nI_clamp hb]
section
variable {h : am_H}
set_option maxRecDepth 10000 in
theorem gs_0 {x s : Nat} (hs : s < 64) (a b : Int32) (o : Option Value) : rn none 0 am_t_X8_greatestShared (7, [some (.int a), some (.int b), some (.int (nI x)), some (.int (nI 0)), some (.int (nI s)), o], [], h) (some (.int (nI x))) h := by
  refine rn_go 80 (by with_unfolding_all rfl) ?_
  refine rn_br (by with_unfolding_all rfl) (fun c_ => absurd c_ ((show ¬ nI 64 ≤ nI s from nI_ge hs (by decide)))) (fun _ => ?_)
  refine rn_go 80 (by with_unfolding_all rfl) ?_
  refine rn_br (by with_unfolding_all rfl) (fun _ => ?_) (fun c_ => absurd (rfl) c_)
  refine rn_go 80 (by with_unfolding_all rfl) ?_
  exact rn_rt (by with_unfolding_all rfl) trivial rfl rfl
set_option maxRecDepth 10000 in
theorem gs_1 {x y s : Nat} (hx : x < 2 ^ 31) (hy : 0 < y) (hy2 : y < 2 ^ 31) (hs : s < 64) (a b : Int32) (o : Option Value) {v : Option Value} (hn : ∀ o, rn none 0 am_t_X8_greatestShared (7, [some (.int a), some (.int b), some (.int (nI y)), some (.int (nI (x % y))), some (.int (nI (s + 1))), o], [], h) v h) : rn none 0 am_t_X8_greatestShared (7, [some (.int a), some (.int b), some (.int (nI x)), some (.int (nI y)), some (.int (nI s)), o], [], h) v h := by
  refine rn_go 80 (by with_unfolding_all rfl) ?_
  refine rn_br (by with_unfolding_all rfl) (fun c_ => absurd c_ ((show ¬ nI 64 ≤ nI s from nI_ge hs (by decide)))) (fun _ => ?_)
  refine rn_go 80 (by with_unfolding_all rfl) ?_
  refine rn_br (by with_unfolding_all rfl) (fun c_ => absurd c_ (nI_ne0 hy hy2)) (fun _ => ?_)
  refine rn_go 80 (by with_unfolding_all rfl) ?_
  refine rn_ck (by with_unfolding_all rfl) (nI_ne0 hy hy2) ?_
  rw [pk_rem hx hy hy2]
  refine rn_to 7 80 (by with_unfolding_all rfl) ?_
  have hn := hn (some (.int (nI (x % y))))
  rw [← nI_1] at hn
  with_unfolding_all exact hn
set_option maxRecDepth 10000 in
theorem gs_L (a b : Int32) : ∀ k s x y, y < 2 ^ k → k ≤ 30 → x < 2 ^ 31 → s + 2 * k ≤ 63 → ∀ o, rn none 0 am_t_X8_greatestShared (7, [some (.int a), some (.int b), some (.int (nI x)), some (.int (nI y)), some (.int (nI s)), o], [], h) (some (.int (nI (Nat.gcd y x)))) h
  | 0, s, x, y, hy, hk, hx, hs, o => by
    have hy0 : y = 0 := by
      have : (2 : Nat) ^ 0 = 1 := rfl
      omega
    subst hy0
    rw [Nat.gcd_zero_left]
    exact gs_0 (by omega) a b o
  | k + 1, s, x, y, hy, hk, hx, hs, o => by
    have hp31 : 2 ^ (k + 1) ≤ 2 ^ 31 := Nat.pow_le_pow_right (by decide) (by omega)
    rcases Nat.eq_zero_or_pos y with q | q
    · subst q
      rw [Nat.gcd_zero_left]
      exact gs_0 (by omega) a b o
    · refine gs_1 hx q (by omega) (by omega) a b o (fun o => ?_)
      rw [Nat.gcd_rec]
      have hz := Nat.mod_lt x q
      rcases Nat.eq_zero_or_pos (x % y) with q2 | q2
      · rw [q2, Nat.gcd_zero_left]
        exact gs_0 (by omega) a b o
      · refine gs_1 (by omega) q2 (by omega) (by omega) a b o (fun o => ?_)
        rw [Nat.gcd_rec]
        exact gs_L a b k (s + 1 + 1) (x % y) (y % (x % y)) (gcd_half hy q2 hz) (by omega) (by omega) (by omega) o
set_option maxRecDepth 10000 in
theorem x8_shared {a b : Nat} (ha : a < 2 ^ 31) (hb : b < 2 ^ 20) : am_ev 1 135 [.int (nI a), .int (nI b)] h (some (.int (nI (Nat.gcd b a)))) h := by
  refine rn_ev am_m_X8_greatestShared rfl rfl ?_
  refine rn_to 7 80 (by with_unfolding_all rfl) ?_
  with_unfolding_all exact gs_L (nI a) (nI b) 20 0 a b hb (by decide) ha (by decide) none
set_option maxRecDepth 10000 in
theorem x8_lowest {a b : Nat} (ha : a < 2 ^ 31) (hb0 : 0 < b) (hb : b < 2 ^ 20) (w : Int32) : am_ev 2 134 [.int (nI a), .int (nI b), .int w] h (some (.int (lwI (nI a) (nI b) w))) h := by
  have hg0 : 0 < Nat.gcd b a := Nat.gcd_pos_of_pos_left _ hb0
  have hg1 : Nat.gcd b a < 2 ^ 31 := Nat.lt_of_le_of_lt (Nat.gcd_le_left _ hb0) (by omega)
  rw [lwI_n ha (by omega)]
  refine rn_ev am_m_X8_lowest rfl rfl ?_
  refine rn_go 80 (by with_unfolding_all rfl) ?_
  refine rn_cl (by with_unfolding_all rfl) (ev_up (by decide) (x8_shared ha hb)) ?_
  refine rn_go 80 (by with_unfolding_all rfl) ?_
  refine rn_br (by with_unfolding_all rfl) (fun c_ => absurd c_ (nI_ne0 hg0 hg1)) (fun _ => ?_)
  refine rn_go 80 (by with_unfolding_all rfl) ?_
  refine rn_br (by with_unfolding_all rfl) (fun c => ?_) (fun c => ?_)
  · rw [if_pos c]
    refine rn_go 80 (by with_unfolding_all rfl) ?_
    refine rn_ck (by with_unfolding_all rfl) (nI_ne0 hg0 hg1) ?_
    refine rn_go 80 (by with_unfolding_all rfl) ?_
    exact rn_rt (by with_unfolding_all rfl) trivial rfl rfl
  · rw [if_neg c]
    refine rn_go 80 (by with_unfolding_all rfl) ?_
    refine rn_ck (by with_unfolding_all rfl) (nI_ne0 hg0 hg1) ?_
    refine rn_go 80 (by with_unfolding_all rfl) ?_
    exact rn_rt (by with_unfolding_all rfl) trivial rfl rfl
set_option maxRecDepth 10000 in
theorem tp_L {a b : Nat} (hg0 : 0 < Nat.gcd b a) (hg1 : Nat.gcd b a < 2 ^ 31) (w : Int32) : ∀ y x, x < 2 ^ 31 → y < 2 ^ 31 → Nat.gcd y x = Nat.gcd b a → ∀ o, rn none 0 am_t_X9_tellPart (5, [some (.int (nI a)), some (.int (nI b)), some (.int w), some (.int (nI x)), some (.int (nI y)), o], [], h) (some (.int (if w = 0 then nI a / nI (Nat.gcd b a) else nI b / nI (Nat.gcd b a)))) h := by
  intro y
  induction y using Nat.strongRecOn with
  | ind y ih =>
    intro x hx hy he o
    rcases Nat.eq_zero_or_pos y with q | q
    · subst q
      rw [Nat.gcd_zero_left] at he
      subst he
      refine rn_go 80 (by with_unfolding_all rfl) ?_
      refine rn_br (by with_unfolding_all rfl) (fun _ => ?_) (fun c_ => absurd (rfl) c_)
      refine rn_go 80 (by with_unfolding_all rfl) ?_
      refine rn_br (by with_unfolding_all rfl) (fun c => ?_) (fun c => ?_)
      · rw [if_pos c]
        refine rn_go 80 (by with_unfolding_all rfl) ?_
        refine rn_ck (by with_unfolding_all rfl) (nI_ne0 hg0 hg1) ?_
        refine rn_go 80 (by with_unfolding_all rfl) ?_
        exact rn_rt (by with_unfolding_all rfl) trivial rfl rfl
      · rw [if_neg c]
        refine rn_go 80 (by with_unfolding_all rfl) ?_
        refine rn_ck (by with_unfolding_all rfl) (nI_ne0 hg0 hg1) ?_
        refine rn_go 80 (by with_unfolding_all rfl) ?_
        exact rn_rt (by with_unfolding_all rfl) trivial rfl rfl
    · refine rn_go 80 (by with_unfolding_all rfl) ?_
      refine rn_br (by with_unfolding_all rfl) (fun c_ => absurd c_ (nI_ne0 q hy)) (fun _ => ?_)
      refine rn_go 80 (by with_unfolding_all rfl) ?_
      refine rn_ck (by with_unfolding_all rfl) (nI_ne0 q hy) ?_
      rw [pk_rem hx q hy]
      refine rn_to 5 80 (by with_unfolding_all rfl) ?_
      have hn := ih (x % y) (Nat.mod_lt x q) y hy (by have := Nat.mod_lt x q; omega) (by rw [← Nat.gcd_rec]; exact he) (some (.int (nI (x % y))))
      with_unfolding_all exact hn
set_option maxRecDepth 10000 in
theorem xm_tellPart {a b : Nat} (ha : a < 2 ^ 31) (hb0 : 0 < b) (hb : b < 2 ^ 20) (w : Int32) : am_ev 1 188 [.int (nI a), .int (nI b), .int w] h (some (.int (lwI (nI a) (nI b) w))) h := by
  have hg0 : 0 < Nat.gcd b a := Nat.gcd_pos_of_pos_left _ hb0
  have hg1 : Nat.gcd b a < 2 ^ 31 := Nat.lt_of_le_of_lt (Nat.gcd_le_left _ hb0) (by omega)
  rw [lwI_n ha (by omega)]
  refine rn_ev am_m_X9_tellPart rfl rfl ?_
  refine rn_to 5 80 (by with_unfolding_all rfl) ?_
  with_unfolding_all exact tp_L hg0 hg1 w b a ha (by omega) rfl none
end
def fo : Nat → Int32
  | 0 => 1
  | 1 => 1
  | 2 => 2
  | 3 => 6
  | _ => 24
set_option maxRecDepth 10000 in
theorem fo_n : ∀ j, ∃ q : Nat, 1 ≤ q ∧ q ≤ 24 ∧ fo j = nI q
  | 0 => ⟨1, by omega, by omega, rfl⟩
  | 1 => ⟨1, by omega, by omega, rfl⟩
  | 2 => ⟨2, by omega, by omega, rfl⟩
  | 3 => ⟨6, by omega, by omega, rfl⟩
  | _ + 4 => ⟨24, by omega, by omega, rfl⟩
def bcn (k : Nat) : Nat := k % 2 + k / 2 % 2 + k / 4 % 2 + k / 8 % 2
set_option maxRecDepth 10000 in
theorem bc_n : ∀ k, k < 16 → bc (nI k) = nI (bcn k) := by decide +kernel
set_option maxRecDepth 10000 in
theorem bcn4 : ∀ k, k < 16 → bcn k ≤ 4 := by decide +kernel
set_option maxRecDepth 10000 in
theorem D1 : ∀ a, a < 16 → ∀ p, p < 4 → ∀ k, k < 16 → ((nI k &&& ((nI a &&& ((1 <<< (nI p &&& 31)) ^^^ -1)) ^^^ -1) = 0) ↔ (nI k &&& (nI a ^^^ -1) = 0 ∧ tb (nI k) p = 0)) := by decide +kernel
set_option maxRecDepth 10000 in
theorem D2 : ∀ a, a < 16 → ∀ p, p < 4 → (nI a &&& (1 <<< (nI p &&& 31)) = 0 ↔ tb (nI a) p = 0) := by decide +kernel
def d3 (a p k : Nat) : Bool := !(decide (nI k &&& (nI a ^^^ -1) = 0) && (decide (tb (nI k) p = 0) && !(decide (tb (nI a) p = 0)))) || (decide (bcn k + 1 ≤ bcn a) && decide (mbs (nI a &&& (nI k ^^^ -1)) 4 - 1 = nI (bcn a - 1 - bcn k)))
set_option maxRecDepth 10000 in
theorem D3a : ∀ a, a < 16 → ∀ p, p < 4 → ∀ k, k < 16 → d3 a p k = true := by decide +kernel
set_option maxRecDepth 10000 in
theorem D3 {a p k : Nat} (ha : a < 16) (hp : p < 4) (hk : k < 16) (h1 : nI k &&& (nI a ^^^ -1) = 0) (h2 : tb (nI k) p = 0) (h3 : ¬ tb (nI a) p = 0) : bcn k + 1 ≤ bcn a ∧ mbs (nI a &&& (nI k ^^^ -1)) 4 - 1 = nI (bcn a - 1 - bcn k) := by
  have e := D3a a ha p hp k hk
  unfold d3 at e
  rw [decide_eq_true h1, decide_eq_true h2, decide_eq_false h3] at e
  simpa using e
def fw (x : Nat → Int32) (a : Int32) (n dy mo : Nat) : Nat → Int32
  | 0 => -1000000
  | k + 1 => if nI k &&& (a ^^^ -1) = 0 then (if cw x (nI k) a n dy mo = 0 then fw x a n dy mo k else if fw x a n dy mo k = -1000000 then nI k else if bc (fw x a n dy mo k) ≤ bc (nI k) then fw x a n dy mo k else nI k) else fw x a n dy mo k
set_option maxRecDepth 10000 in
theorem fw_or (x : Nat → Int32) (a : Int32) (n dy mo : Nat) : ∀ k, fw x a n dy mo k = -1000000 ∨ ∃ j, j < k ∧ fw x a n dy mo k = nI j
  | 0 => Or.inl rfl
  | k + 1 => by
    have ih : fw x a n dy mo k = -1000000 ∨ ∃ j, j < k + 1 ∧ fw x a n dy mo k = nI j := (fw_or x a n dy mo k).imp id (fun ⟨j, hj, e⟩ => ⟨j, by omega, e⟩)
    unfold fw
    split
    · split
      · exact ih
      · split
        · exact Or.inr ⟨k, by omega, rfl⟩
        · split
          · exact ih
          · exact Or.inr ⟨k, by omega, rfl⟩
    · exact ih
set_option maxRecDepth 10000 in
theorem fw_bits {x : Nat → Int32} {a : Int32} {n dy mo k : Nat} (hk : k ≤ 16) (h : ¬ fw x a n dy mo k = -1000000) : mbs (fw x a n dy mo k) 4 = bc (fw x a n dy mo k) := by
  obtain ⟨j, hj, e⟩ := (fw_or x a n dy mo k).resolve_left h
  rw [e, mbs_bc j (by omega)]
def sFewest (z : Int32) (x : Nat → Int32) (n mo dy : Nat) (w : Int32) : Int32 := if z = 0 then -1000002 else if ie w = 0 then -1000001 else if fw x (ta x n) n dy mo 16 = -1000000 then -1000000 else if w = 1 then fw x (ta x n) n dy mo 16 else bc (fw x (ta x n) n dy mo 16)
section
variable {g gm : Nat → Int32} {T A Am : Nat → Nat → Int32} {h : am_H} {n mo dy : Nat}
set_option maxRecDepth 10000 in
theorem xy_can {x : Nat → Int32} (he : Eqv n mo x (tv (Am 0) 0)) (hX : okX x n mo dy) : am_ev 3 170 [.ref 43, .int (nI 0)] (wd g T A gm Am) (some (.int (ta x n))) (wd g T A gm Am) := by
  have key := xx_can (g := g) (T := T) (A := A) (gm := gm) (Am := Am) (r := Am 0) (B := 0) (by omega) he hX
  rw [tu_id] at key
  exact key
set_option maxRecDepth 10000 in
theorem xy_weightOf {x : Nat → Int32} (he : Eqv n mo x (tv (Am 0) 0)) (hX : okX x n mo dy) (s : Int32) : am_ev 5 172 [.ref 43, .int (nI 0), .int s] (wd g T A gm Am) (some (.int (ts x s (ta x n) n))) (wd g T A gm Am) := by
  have key := xx_weightOf (g := g) (T := T) (A := A) (gm := gm) (Am := Am) (r := Am 0) (B := 0) (by omega) he hX s
  rw [tu_id] at key
  exact key
set_option maxRecDepth 10000 in
theorem xy_weighs {x : Nat → Int32} (he : Eqv n mo x (tv (Am 0) 0)) (hX : okX x n mo dy) {p : Nat} (hp : p < n) : am_ev 4 171 [.ref 43, .int (nI 0), .int (nI p)] (wd g T A gm Am) (some (.int (tw x p (ta x n)))) (wd g T A gm Am) := by
  have key := xx_weighs (g := g) (T := T) (A := A) (gm := gm) (Am := Am) (r := Am 0) (B := 0) (by omega) he hX hp
  rw [tu_id] at key
  exact key
set_option maxRecDepth 10000 in
theorem xy_motionOf {x : Nat → Int32} (he : Eqv n mo x (tv (Am 0) 0)) (hX : okX x n mo dy) : am_ev 1 173 [.ref 43, .int (nI 0)] (wd g T A gm Am) (some (.int (nI (dy % mo)))) (wd g T A gm Am) := by
  have key := xx_motionOf (g := g) (T := T) (A := A) (gm := gm) (Am := Am) (r := Am 0) (B := 0) (by omega) he hX
  rw [tu_id] at key
  exact key
set_option maxRecDepth 10000 in
theorem xy_isCarried {x : Nat → Int32} (he : Eqv n mo x (tv (Am 0) 0)) (hX : okX x n mo dy) (s : Int32) : am_ev 6 174 [.ref 43, .int (nI 0), .int s] (wd g T A gm Am) (some (.int (cw x s (ta x n) n dy mo))) (wd g T A gm Am) := by
  have key := xx_isCarried (g := g) (T := T) (A := A) (gm := gm) (Am := Am) (r := Am 0) (B := 0) (by omega) he hX s
  rw [tu_id] at key
  exact key
set_option maxRecDepth 10000 in
theorem x0_carried (hX : okX (T 0) n mo dy) (s b : Int32) : am_ev 4 49 [.ref 5, .int s, .int b] (wd g T A gm Am) (some (.int (cw (T 0) s b n dy mo))) (wd g T A gm Am) := by
  obtain ⟨h1, h2, h3, h4, h5, h6, h7, h8⟩ := hX
  exact xh_carried0 h2 h3 h4 h5 h6 h7 h8 s b
set_option maxRecDepth 10000 in
theorem x2_fwL (hX : okX (T 0) n mo dy) (w : Int32) : ∀ q k, k + q = 16 → rn none 5 am_t_X2_fewestSpeakers (14, [some (.ref 34), some (.int w), some (.int (ta (T 0) n)), some (.int (fw (T 0) (ta (T 0) n) n dy mo k)), some (.int (nI k))], [], wd g T A gm Am) (some (.int (if fw (T 0) (ta (T 0) n) n dy mo 16 = -1000000 then -1000000 else if w = 1 then fw (T 0) (ta (T 0) n) n dy mo 16 else bc (fw (T 0) (ta (T 0) n) n dy mo 16)))) (wd g T A gm Am)
  | 0, k, hk => by
    have hin : k = 16 := by omega
    subst hin
    refine rn_go 80 (by with_unfolding_all rfl) ?_
    refine rn_br (by with_unfolding_all rfl) (fun _ => ?_) (fun c_ => absurd ((by decide)) c_)
    refine rn_go 80 (by with_unfolding_all rfl) ?_
    refine rn_br (by with_unfolding_all rfl) (fun c => ?_) (fun c => ?_)
    · rw [if_pos c]
      refine rn_go 80 (by with_unfolding_all rfl) ?_
      exact rn_rt (by with_unfolding_all rfl) (trivial) (by rw [c]) (rfl)
    rw [if_neg c]
    refine rn_go 80 (by with_unfolding_all rfl) ?_
    refine rn_br (by with_unfolding_all rfl) (fun c2 => ?_) (fun c2 => ?_)
    · rw [if_pos c2]
      refine rn_go 80 (by with_unfolding_all rfl) ?_
      exact rn_rt (by with_unfolding_all rfl) trivial rfl rfl
    · rw [if_neg c2]
      refine rn_go 80 (by with_unfolding_all rfl) ?_
      refine rn_cl (by with_unfolding_all rfl) (ev_up (by decide) (xj_bitCount _)) ?_
      refine rn_go 80 (by with_unfolding_all rfl) ?_
      exact rn_rt (by with_unfolding_all rfl) trivial rfl rfl
  | q + 1, k, hk => by
    have ih := x2_fwL hX w q (k + 1) (by omega)
    rw [← nI_1] at ih
    refine rn_go 80 (by with_unfolding_all rfl) ?_
    refine rn_br (by with_unfolding_all rfl) (fun c_ => absurd c_ ((show ¬ nI 16 ≤ nI k from nI_ge (by omega) (by omega)))) (fun _ => ?_)
    refine rn_go 80 (by with_unfolding_all rfl) ?_
    refine rn_br (by with_unfolding_all rfl) (fun c => ?_) (fun c => ?_)
    · refine rn_go 80 (by with_unfolding_all rfl) ?_
      refine rn_cl (by with_unfolding_all rfl) (ev_up (by decide) (x0_carried hX _ _)) ?_
      refine rn_go 80 (by with_unfolding_all rfl) ?_
      refine rn_br (by with_unfolding_all rfl) (fun c2 => ?_) (fun c2 => ?_)
      · refine rn_to 14 80 (by with_unfolding_all rfl) ?_
        rw [show fw (T 0) (ta (T 0) n) n dy mo (k + 1) = fw (T 0) (ta (T 0) n) n dy mo k by simp only [fw]; rw [if_pos c, if_pos c2]] at ih
        with_unfolding_all exact ih
      refine rn_go 80 (by with_unfolding_all rfl) ?_
      refine rn_br (by with_unfolding_all rfl) (fun c3 => ?_) (fun c3 => ?_)
      · refine rn_to 14 80 (by with_unfolding_all rfl) ?_
        rw [show fw (T 0) (ta (T 0) n) n dy mo (k + 1) = nI k by simp only [fw]; rw [if_pos c, if_neg c2, if_pos c3]] at ih
        with_unfolding_all exact ih
      refine rn_go 80 (by with_unfolding_all rfl) ?_
      refine rn_cl (by with_unfolding_all rfl) (ev_up (by decide) (xj_bitCount _)) ?_
      refine rn_go 80 (by with_unfolding_all rfl) ?_
      refine rn_cl (by with_unfolding_all rfl) (ev_up (by decide) (xj_bitCount _)) ?_
      refine rn_go 80 (by with_unfolding_all rfl) ?_
      refine rn_br (by with_unfolding_all rfl) (fun c4 => ?_) (fun c4 => ?_)
      · refine rn_to 14 80 (by with_unfolding_all rfl) ?_
        rw [show fw (T 0) (ta (T 0) n) n dy mo (k + 1) = fw (T 0) (ta (T 0) n) n dy mo k by simp only [fw]; rw [if_pos c, if_neg c2, if_neg c3, if_pos c4]] at ih
        with_unfolding_all exact ih
      · refine rn_to 14 80 (by with_unfolding_all rfl) ?_
        rw [show fw (T 0) (ta (T 0) n) n dy mo (k + 1) = nI k by simp only [fw]; rw [if_pos c, if_neg c2, if_neg c3, if_neg c4]] at ih
        with_unfolding_all exact ih
    · refine rn_to 14 80 (by with_unfolding_all rfl) ?_
      rw [show fw (T 0) (ta (T 0) n) n dy mo (k + 1) = fw (T 0) (ta (T 0) n) n dy mo k by simp only [fw]; rw [if_neg c]] at ih
      with_unfolding_all exact ih
set_option maxRecDepth 10000 in
theorem x8_fewest (hX : g 11 = 0 ∨ okX (T 0) n mo dy) (w : Int32) : am_ev 12 109 [.ref 0, .int w] (wd g T A gm Am) (some (.int (sFewest (g 11) (T 0) n mo dy w))) (wd g T A gm Am) := by
  unfold sFewest
  refine rn_ev am_m_X8_fewest rfl rfl ?_
  refine rn_go 80 (by with_unfolding_all rfl) ?_
  refine rn_br (by with_unfolding_all rfl) (fun c => ?_) (fun c => ?_)
  · rw [if_pos c]
    refine rn_go 80 (by with_unfolding_all rfl) ?_
    exact rn_rt (by with_unfolding_all rfl) trivial rfl rfl
  rw [if_neg c]
  have hX := hX.resolve_left c
  refine rn_go 80 (by with_unfolding_all rfl) ?_
  refine rn_cl (by with_unfolding_all rfl) (ev_up (by decide) (x8_isEither w)) ?_
  refine rn_go 80 (by with_unfolding_all rfl) ?_
  refine rn_br (by with_unfolding_all rfl) (fun c2 => ?_) (fun c2 => ?_)
  · rw [if_pos c2]
    refine rn_go 80 (by with_unfolding_all rfl) ?_
    exact rn_rt (by with_unfolding_all rfl) trivial rfl rfl
  rw [if_neg c2]
  have key : am_ev 6 23 [.ref 34, .int w] (wd g T A gm Am) (some (.int (if fw (T 0) (ta (T 0) n) n dy mo 16 = -1000000 then -1000000 else if w = 1 then fw (T 0) (ta (T 0) n) n dy mo 16 else bc (fw (T 0) (ta (T 0) n) n dy mo 16)))) (wd g T A gm Am) := by
    refine rn_ev am_m_X2_fewestSpeakers rfl rfl ?_
    refine rn_go 80 (by with_unfolding_all rfl) ?_
    refine rn_cl (by with_unfolding_all rfl) (ev_up (by decide) (xh_ableSet0 hX.2.1 hX.2.2.1)) ?_
    refine rn_to 14 80 (by with_unfolding_all rfl) ?_
    with_unfolding_all exact x2_fwL hX w 16 0 (by omega)
  refine rn_go 80 (by with_unfolding_all rfl) ?_
  refine rn_cl (by with_unfolding_all rfl) (ev_up (by decide) (key)) ?_
  refine rn_go 80 (by with_unfolding_all rfl) ?_
  exact rn_rt (by with_unfolding_all rfl) trivial rfl rfl
set_option maxRecDepth 10000 in
theorem xm_fwL {x : Nat → Int32} (he : Eqv n mo x (tv (Am 0) 0)) (hX : okX x n mo dy) (w : Int32) : ∀ q k, k + q = 16 → ∀ o, rn none 11 am_t_X9_fewest (28, [some (.ref 43), some (.int w), some (.int (fw x (ta x n) n dy mo k)), some (.int (nI k)), o], [], wd g T A gm Am) (some (.int (if fw x (ta x n) n dy mo 16 = -1000000 then -1000000 else if w = 1 then fw x (ta x n) n dy mo 16 else bc (fw x (ta x n) n dy mo 16)))) (wd g T A gm Am)
  | 0, k, hk, o => by
    have hin : k = 16 := by omega
    subst hin
    refine rn_go 80 (by with_unfolding_all rfl) ?_
    refine rn_br (by with_unfolding_all rfl) (fun _ => ?_) (fun c_ => absurd ((by decide)) c_)
    refine rn_go 80 (by with_unfolding_all rfl) ?_
    refine rn_br (by with_unfolding_all rfl) (fun c => ?_) (fun c => ?_)
    · rw [if_pos c]
      refine rn_go 80 (by with_unfolding_all rfl) ?_
      exact rn_rt (by with_unfolding_all rfl) (trivial) (by rw [c]) (rfl)
    rw [if_neg c]
    refine rn_go 80 (by with_unfolding_all rfl) ?_
    refine rn_br (by with_unfolding_all rfl) (fun c2 => ?_) (fun c2 => ?_)
    · rw [if_pos c2]
      refine rn_go 80 (by with_unfolding_all rfl) ?_
      exact rn_rt (by with_unfolding_all rfl) trivial rfl rfl
    · rw [if_neg c2]
      refine rn_go 80 (by with_unfolding_all rfl) ?_
      refine rn_cl (by with_unfolding_all rfl) (ev_up (by decide) (xm_bits _)) ?_
      refine rn_go 80 (by with_unfolding_all rfl) ?_
      exact rn_rt (by with_unfolding_all rfl) (trivial) (by rw [fw_bits (by omega) c]) (rfl)
  | q + 1, k, hk, o => by
    have ih := xm_fwL he hX w q (k + 1) (by omega)
    rw [← nI_1] at ih
    refine rn_go 80 (by with_unfolding_all rfl) ?_
    refine rn_br (by with_unfolding_all rfl) (fun c_ => absurd c_ ((show ¬ nI 16 ≤ nI k from nI_ge (by omega) (by omega)))) (fun _ => ?_)
    refine rn_go 80 (by with_unfolding_all rfl) ?_
    refine rn_cl (by with_unfolding_all rfl) (ev_up (by decide) (xy_can he hX)) ?_
    refine rn_go 80 (by with_unfolding_all rfl) ?_
    refine rn_br (by with_unfolding_all rfl) (fun c => ?_) (fun c => ?_)
    · refine rn_go 80 (by with_unfolding_all rfl) ?_
      refine rn_cl (by with_unfolding_all rfl) (ev_up (by decide) (xy_isCarried he hX _)) ?_
      refine rn_go 80 (by with_unfolding_all rfl) ?_
      refine rn_br (by with_unfolding_all rfl) (fun c2 => ?_) (fun c2 => ?_)
      · refine rn_go 80 (by with_unfolding_all rfl) ?_
        refine rn_br (by with_unfolding_all rfl) (fun _ => ?_) (fun c_ => absurd (rfl) c_)
        refine rn_to 28 80 (by with_unfolding_all rfl) ?_
        rw [show fw x (ta x n) n dy mo (k + 1) = fw x (ta x n) n dy mo k by simp only [fw]; rw [if_pos c, if_pos c2]] at ih
        with_unfolding_all exact ih _
      refine rn_go 80 (by with_unfolding_all rfl) ?_
      refine rn_br (by with_unfolding_all rfl) (fun c_ => absurd c_ ((by decide))) (fun _ => ?_)
      refine rn_go 80 (by with_unfolding_all rfl) ?_
      refine rn_br (by with_unfolding_all rfl) (fun c3 => ?_) (fun c3 => ?_)
      · refine rn_to 28 80 (by with_unfolding_all rfl) ?_
        rw [show fw x (ta x n) n dy mo (k + 1) = nI k by simp only [fw]; rw [if_pos c, if_neg c2, if_pos c3]] at ih
        with_unfolding_all exact ih _
      refine rn_go 80 (by with_unfolding_all rfl) ?_
      refine rn_cl (by with_unfolding_all rfl) (ev_up (by decide) (xm_bits _)) ?_
      refine rn_go 80 (by with_unfolding_all rfl) ?_
      refine rn_cl (by with_unfolding_all rfl) (ev_up (by decide) (xm_bits _)) ?_
      rw [mbs_bc k (by omega), fw_bits (show k ≤ 16 by omega) c3]
      refine rn_go 80 (by with_unfolding_all rfl) ?_
      refine rn_br (by with_unfolding_all rfl) (fun c4 => ?_) (fun c4 => ?_)
      · refine rn_to 28 80 (by with_unfolding_all rfl) ?_
        rw [show fw x (ta x n) n dy mo (k + 1) = fw x (ta x n) n dy mo k by simp only [fw]; rw [if_pos c, if_neg c2, if_neg c3, if_pos c4]] at ih
        with_unfolding_all exact ih _
      · refine rn_to 28 80 (by with_unfolding_all rfl) ?_
        rw [show fw x (ta x n) n dy mo (k + 1) = nI k by simp only [fw]; rw [if_pos c, if_neg c2, if_neg c3, if_neg c4]] at ih
        with_unfolding_all exact ih _
    · refine rn_go 80 (by with_unfolding_all rfl) ?_
      refine rn_br (by with_unfolding_all rfl) (fun _ => ?_) (fun c_ => absurd (rfl) c_)
      refine rn_to 28 80 (by with_unfolding_all rfl) ?_
      rw [show fw x (ta x n) n dy mo (k + 1) = fw x (ta x n) n dy mo k by simp only [fw]; rw [if_neg c]] at ih
      with_unfolding_all exact ih _
set_option maxRecDepth 10000 in
theorem xm_fewest {x : Nat → Int32} (he : Eqv n mo x (tv (Am 0) 0)) (hX : gm 0 = 0 ∨ okX x n mo dy) (w : Int32) : am_ev 12 191 [.ref 43, .int w] (wd g T A gm Am) (some (.int (sFewest (gm 0) x n mo dy w))) (wd g T A gm Am) := by
  unfold sFewest
  refine rn_ev am_m_X9_fewest rfl rfl ?_
  refine rn_go 80 (by with_unfolding_all rfl) ?_
  refine rn_br (by with_unfolding_all rfl) (fun c => ?_) (fun c => ?_)
  · rw [if_pos c]
    refine rn_go 80 (by with_unfolding_all rfl) ?_
    exact rn_rt (by with_unfolding_all rfl) trivial rfl rfl
  rw [if_neg c]
  have hX := hX.resolve_left c
  refine rn_go 80 (by with_unfolding_all rfl) ?_
  refine rn_cl (by with_unfolding_all rfl) (ev_up (by decide) (xm_in _ _ _)) ?_
  rw [inn_b (a := 0) (b := 1) (P := 0) (Q := 1) (by decide) (by decide), ie_btw]
  refine rn_go 80 (by with_unfolding_all rfl) ?_
  refine rn_br (by with_unfolding_all rfl) (fun c2 => ?_) (fun c2 => ?_)
  · rw [if_pos c2]
    refine rn_go 80 (by with_unfolding_all rfl) ?_
    exact rn_rt (by with_unfolding_all rfl) trivial rfl rfl
  rw [if_neg c2]
  refine rn_to 28 80 (by with_unfolding_all rfl) ?_
  with_unfolding_all exact xm_fwL he hX w 16 0 (by omega) none
end

/-! towns as they must be; the same questions of a town that agrees with another -/
def okX (x : Nat → Int32) (n mo dy : Nat) : Prop := okT x n ∧ x 1 = nI n ∧ n ≤ 4 ∧ x 0 = nI mo ∧ 1 ≤ mo ∧ mo ≤ 4 ∧ x 3 = nI dy ∧ dy < 2000
def Out (B : Nat) (r r' : Nat → Int32) : Prop := ∀ k, k < B ∨ B + 21 ≤ k → r' k = r k
def Lo (r r' : Nat → Int32) : Prop := ∀ k, k < 567 → r' k = r k
def sMay (x : Nat → Int32) (n : Nat) (s : Int32) : Prop := ∀ i, i < n → ¬ tb s i = 0 → tc x i ≤ x (13 + i)
set_option maxRecDepth 10000 in
theorem lo_out {r0 r r' : Nat → Int32} {B : Nat} (hB : 567 ≤ B) (h1 : Lo r0 r) (h2 : Out B r r') : Lo r0 r' := fun k hk => by rw [h2 k (by omega), h1 k hk]
set_option maxRecDepth 10000 in
theorem ox_tv {x t : Nat → Int32} {n mo dy : Nat} (he : Eqv n mo x t) (h : okX x n mo dy) : okX t n mo dy := by
  obtain ⟨h1, h2, h3, h4, h5, h6, h7, h8⟩ := h
  exact ⟨cg_ok he h1, by rw [← he.1 1 (by decide)]; exact h2, h3, by rw [← he.1 0 (by decide)]; exact h4, h5, h6, by rw [← he.1 3 (by decide)]; exact h7, h8⟩
set_option maxRecDepth 10000 in
theorem ox_pd {x : Nat → Int32} {n mo dy : Nat} (h : okX x n mo dy) {s : Int32} (hs : sMay x n s) (hd : dy + 1 < 2000) (c : Int32) : okX (pd x s n c) n mo (dy + 1) := by
  obtain ⟨h1, h2, h3, h4, h5, h6, h7, h8⟩ := h
  exact ⟨pd_ok h1 h3 hs c, by rw [pd_lo (by omega) (by decide) (by decide)]; exact h2, h3, by rw [pd_lo (by omega) (by decide) (by decide)]; exact h4, h5, h6, by rw [pd_3, h7, nI_1], hd⟩
set_option maxRecDepth 10000 in
theorem may_ta {x : Nat → Int32} {n : Nat} (h4 : n ≤ 4) : sMay x n (ta x n) := fun i hi hb => Int32.not_lt.mp ((tb_ta x n i h4 hi).mp hb)
set_option maxRecDepth 10000 in
theorem may_and {x : Nat → Int32} {n : Nat} {a b : Int32} (h4 : n ≤ 4) (h : sMay x n a) : sMay x n (a &&& b) := fun i hi hb => h i hi (fun q => hb (by
  rw [tb_bt (by omega)] at q ⊢
  rw [b_and, q, Bool.false_and]))
set_option maxRecDepth 10000 in
theorem cg_may {x t : Nat → Int32} {n mo : Nat} {s : Int32} (he : Eqv n mo x t) (h : sMay x n s) : sMay t n s := fun i hi hb => by
  rw [← cg_tc he hi, ← (he.2.2 i hi).2.1]
  exact h i hi hb
def dys (sf : Nat → Int32 → Int32) (n mo dy : Nat) (x : Nat → Int32) : Nat → Nat → Int32
  | 0 => x
  | i + 1 => pd (dys sf n mo dy x i) (sf i (ta (dys sf n mo dy x i) n)) n (cw (dys sf n mo dy x i) (sf i (ta (dys sf n mo dy x i) n)) (ta (dys sf n mo dy x i) n) n (dy + i) mo)
def dyc (sf : Nat → Int32 → Int32) (n mo dy : Nat) (x : Nat → Int32) : Nat → Int32
  | 0 => 0
  | i + 1 => dyc sf n mo dy x i + cw (dys sf n mo dy x i) (sf i (ta (dys sf n mo dy x i) n)) (ta (dys sf n mo dy x i) n) n (dy + i) mo
def all : Nat → Int32 → Int32 := fun _ a => a
def drw (s : Int64) : Nat → Int64
  | 0 => s
  | i + 1 => drw s i * 16807 - drw s i * 16807 / 2147483647 * 2147483647
def dsf (s : Int64) (i : Nat) (a : Int32) : Int32 := a &&& (drw s (i + 1) - drw s (i + 1) / 16 * 16).toInt32
def sfOk (sf : Nat → Int32 → Int32) : Prop := ∀ (x : Nat → Int32) (n : Nat), n ≤ 4 → ∀ i, sMay x n (sf i (ta x n))
set_option maxRecDepth 10000 in
theorem sf_all : sfOk all := fun x n h4 i => may_ta h4
set_option maxRecDepth 10000 in
theorem sf_dsf (s : Int64) : sfOk (dsf s) := fun x n h4 i => may_and h4 (may_ta h4)
set_option maxRecDepth 10000 in
theorem ox_dys {sf : Nat → Int32 → Int32} (hsf : sfOk sf) {x : Nat → Int32} {n mo dy : Nat} (h : okX x n mo dy) : ∀ i, dy + i < 2000 → okX (dys sf n mo dy x i) n mo (dy + i)
  | 0, _ => h
  | i + 1, hi => ox_pd (ox_dys hsf h i (by omega)) (hsf _ _ h.2.2.1 i) (by omega) _
section
variable {g gm : Nat → Int32} {T A Am : Nat → Nat → Int32} {h : am_H}
section
variable {B n mo dy : Nat} {x r : Nat → Int32}
set_option maxRecDepth 10000 in
theorem xx_can (hB : B + 21 ≤ 672) (he : Eqv n mo x (tv r B)) (hX : okX x n mo dy) : am_ev 3 170 [.ref 43, .int (nI B)] (wd g T A gm (tu Am 0 r)) (some (.int (ta x n))) (wd g T A gm (tu Am 0 r)) := by
  obtain ⟨h1, h2, h3, -⟩ := ox_tv he hX
  have key := xm_canSpeak (g := g) (T := T) (A := A) (gm := gm) (Am := tu Am 0 r) hB h1 h2 h3
  rw [tu_s, ← cg_ta he n (Nat.le_refl _)] at key
  exact key
set_option maxRecDepth 10000 in
theorem xx_weightOf (hB : B + 21 ≤ 672) (he : Eqv n mo x (tv r B)) (hX : okX x n mo dy) (s : Int32) : am_ev 5 172 [.ref 43, .int (nI B), .int s] (wd g T A gm (tu Am 0 r)) (some (.int (ts x s (ta x n) n))) (wd g T A gm (tu Am 0 r)) := by
  obtain ⟨h1, h2, h3, -⟩ := ox_tv he hX
  have key := xm_weightOf (g := g) (T := T) (A := A) (gm := gm) (Am := tu Am 0 r) hB h1 h2 h3 s
  rw [tu_s, ← cg_ta he n (Nat.le_refl _), ← cg_ts he n (Nat.le_refl _)] at key
  exact key
set_option maxRecDepth 10000 in
theorem xx_weighs (hB : B + 21 ≤ 672) (he : Eqv n mo x (tv r B)) (hX : okX x n mo dy) {p : Nat} (hp : p < n) : am_ev 4 171 [.ref 43, .int (nI B), .int (nI p)] (wd g T A gm (tu Am 0 r)) (some (.int (tw x p (ta x n)))) (wd g T A gm (tu Am 0 r)) := by
  obtain ⟨h1, h2, h3, -⟩ := ox_tv he hX
  have key := xm_weighs (g := g) (T := T) (A := A) (gm := gm) (Am := tu Am 0 r) hB h1 h2 h3 hp
  rw [tu_s, ← cg_ta he n (Nat.le_refl _), ← cg_tw he hp] at key
  exact key
set_option maxRecDepth 10000 in
theorem xx_motionOf (hB : B + 21 ≤ 672) (he : Eqv n mo x (tv r B)) (hX : okX x n mo dy) : am_ev 1 173 [.ref 43, .int (nI B)] (wd g T A gm (tu Am 0 r)) (some (.int (nI (dy % mo)))) (wd g T A gm (tu Am 0 r)) := by
  obtain ⟨h1, h2, h3, h4, h5, h6, h7, h8⟩ := ox_tv he hX
  exact xm_motionOf (g := g) (T := T) (A := A) (gm := gm) (Am := tu Am 0 r) hB h4 h5 h6 h7 h8
set_option maxRecDepth 10000 in
theorem xx_isCarried (hB : B + 21 ≤ 672) (he : Eqv n mo x (tv r B)) (hX : okX x n mo dy) (s : Int32) : am_ev 6 174 [.ref 43, .int (nI B), .int s] (wd g T A gm (tu Am 0 r)) (some (.int (cw x s (ta x n) n dy mo))) (wd g T A gm (tu Am 0 r)) := by
  obtain ⟨h1, h2, h3, h4, h5, h6, h7, h8⟩ := ox_tv he hX
  have key := xm_isCarried (g := g) (T := T) (A := A) (gm := gm) (Am := tu Am 0 r) hB h1 h2 h3 h4 h5 h6 h7 h8 s
  rw [tu_s, ← cg_ta he n (Nat.le_refl _), ← cg_cw he h5] at key
  exact key
set_option maxRecDepth 10000 in
theorem xx_post (hX : okX x n mo dy) (he : Eqv n mo x (tv r B)) (s c : Int32) : Out B r (rs r B (pd (tv r B) s n c)) ∧ Eqv n mo (pd x s n c) (tv (rs r B (pd (tv r B) s n c)) B) :=
  ⟨fun k hk => rs_out hk, eqv_tr (cg_pd he hX.2.2.1 hX.2.2.2.2.2.1 c) (eqv_21 hX.2.2.1 hX.2.2.2.2.2.1 (fun k hk => (tv_rs hk).symm))⟩
set_option maxRecDepth 10000 in
theorem xx_pass (hB : B + 21 ≤ 672) (he : Eqv n mo x (tv r B)) (hX : okX x n mo dy) {s : Int32} (hs : sMay x n s) : ∃ r', Out B r r' ∧ Eqv n mo (pd x s n (cw x s (ta x n) n dy mo)) (tv r' B) ∧ am_ev 7 176 [.ref 43, .int (nI B), .int s] (wd g T A gm (tu Am 0 r)) (some (.int (cw x s (ta x n) n dy mo))) (wd g T A gm (tu Am 0 r')) := by
  obtain ⟨h1, h2, h3, h4, h5, h6, h7, h8⟩ := ox_tv he hX
  have key := xm_pass (g := g) (T := T) (A := A) (gm := gm) (Am := tu Am 0 r) hB h1 h2 h3 h4 h5 h6 h7 h8 s (cg_may he hs)
  rw [tu_s, tu_tu, ← cg_ta he n (Nat.le_refl _), ← cg_cw he h5] at key
  exact ⟨_, (xx_post hX he s _).1, (xx_post hX he s _).2, key⟩
set_option maxRecDepth 10000 in
theorem xx_passFor (hB : B + 21 ≤ 672) (he : Eqv n mo x (tv r B)) (hX : okX x n mo dy) {s : Int32} (hs : sMay x n s) (nd : Int32) : ∃ r', Out B r r' ∧ Eqv n mo (pd x s n (if ts x s (ta x n) n < nd then 0 else 1)) (tv r' B) ∧ am_ev 6 175 [.ref 43, .int (nI B), .int s, .int nd] (wd g T A gm (tu Am 0 r)) (some (.int (if ts x s (ta x n) n < nd then 0 else 1))) (wd g T A gm (tu Am 0 r')) := by
  obtain ⟨h1, h2, h3, h4, h5, h6, h7, h8⟩ := ox_tv he hX
  have key := xm_passFor (g := g) (T := T) (A := A) (gm := gm) (Am := tu Am 0 r) hB h1 h2 h3 s nd (cg_may he hs)
  rw [tu_s, tu_tu, ← cg_ta he n (Nat.le_refl _), ← cg_ts he n (Nat.le_refl _)] at key
  exact ⟨_, (xx_post hX he s _).1, (xx_post hX he s _).2, key⟩
set_option maxRecDepth 10000 in
theorem xx_passAll (hB : B + 21 ≤ 672) (he : Eqv n mo x (tv r B)) (hX : okX x n mo dy) : ∃ r', Out B r r' ∧ Eqv n mo (pd x (ta x n) n (cw x (ta x n) (ta x n) n dy mo)) (tv r' B) ∧ am_ev 8 177 [.ref 43, .int (nI B)] (wd g T A gm (tu Am 0 r)) (some (.int (cw x (ta x n) (ta x n) n dy mo))) (wd g T A gm (tu Am 0 r')) := by
  obtain ⟨r', h1, h2, h3⟩ := xx_pass (g := g) (T := T) (A := A) (gm := gm) (Am := Am) hB he hX (may_ta hX.2.2.1)
  refine ⟨r', h1, h2, ?_⟩
  refine rn_ev am_m_X9_passAll rfl rfl ?_
  refine rn_go 80 (by with_unfolding_all rfl) ?_
  refine rn_cl (by with_unfolding_all rfl) (ev_up (by decide) (xx_can hB he hX)) ?_
  refine rn_go 80 (by with_unfolding_all rfl) ?_
  refine rn_cl (by with_unfolding_all rfl) (ev_up (by decide) (h3)) ?_
  refine rn_go 80 (by with_unfolding_all rfl) ?_
  exact rn_rt (by with_unfolding_all rfl) trivial rfl rfl
set_option maxRecDepth 10000 in
theorem xx_lay : ∃ r', Out 567 r r' ∧ (∀ k, k < 21 → tv r 0 k = tv r' 567 k) ∧ am_ev 2 187 [.ref 43] (wd g T A gm (tu Am 0 r)) none (wd g T A gm (tu Am 0 r')) := by
  have key := xm_layTried (g := g) (T := T) (A := A) (gm := gm) (Am := tu Am 0 r)
  rw [tu_s, tu_tu] at key
  exact ⟨_, fun k hk => rs_out hk, fun k hk => (tv_rs hk).symm, key⟩
set_option maxRecDepth 10000 in
theorem xk_able (hX : okX x n mo dy) : am_ev 2 45 [.ref 10] (wd g (tu T 1 x) A gm Am) (some (.int (ta x n))) (wd g (tu T 1 x) A gm Am) := by
  have key := xh_ableSet1 (g := g) (T := tu T 1 x) (A := A) (gm := gm) (Am := Am) (n := n) (by rw [tu_s]; exact hX.2.1) hX.2.2.1
  rw [tu_s] at key
  exact key
set_option maxRecDepth 10000 in
theorem xk_pass (hX : okX x n mo dy) (s b : Int32) : am_ev 5 51 [.ref 10, .int s, .int b] (wd g (tu T 1 x) A gm Am) (some (.int (cw x s b n dy mo))) (wd g (tu T 1 (pd x s n (cw x s b n dy mo))) A gm Am) := by
  obtain ⟨h1, h2, h3, h4, h5, h6, h7, h8⟩ := hX
  have key := xh_passDay1 (g := g) (T := tu T 1 x) (A := A) (gm := gm) (Am := Am) (n := n) (mo := mo) (dy := dy) (by rw [tu_s]; exact h2) h3 (by rw [tu_s]; exact h4) h5 h6 (by rw [tu_s]; exact h7) h8 s b
  rw [tu_s, tu_tu] at key
  exact key
set_option maxRecDepth 10000 in
theorem xk_weighsSet (hX : okX x n mo dy) (s b : Int32) : am_ev 3 47 [.ref 10, .int s, .int b] (wd g (tu T 1 x) A gm Am) (some (.int (ts x s b n))) (wd g (tu T 1 x) A gm Am) := by
  have key := xh_weighsSet1 (g := g) (T := tu T 1 x) (A := A) (gm := gm) (Am := Am) (n := n) (by rw [tu_s]; exact hX.2.1) hX.2.2.1 s b
  rw [tu_s] at key
  exact key
set_option maxRecDepth 10000 in
theorem xk_carried (hX : okX x n mo dy) (s b : Int32) : am_ev 4 49 [.ref 10, .int s, .int b] (wd g (tu T 1 x) A gm Am) (some (.int (cw x s b n dy mo))) (wd g (tu T 1 x) A gm Am) := by
  obtain ⟨h1, h2, h3, h4, h5, h6, h7, h8⟩ := hX
  have key := xh_carried1 (g := g) (T := tu T 1 x) (A := A) (gm := gm) (Am := Am) (n := n) (mo := mo) (dy := dy) (by rw [tu_s]; exact h2) h3 (by rw [tu_s]; exact h4) h5 h6 (by rw [tu_s]; exact h7) h8 s b
  rw [tu_s] at key
  exact key
set_option maxRecDepth 10000 in
theorem xk_carriedAll (hX : okX x n mo dy) : am_ev 5 50 [.ref 10] (wd g (tu T 1 x) A gm Am) (some (.int (cw x (ta x n) (ta x n) n dy mo))) (wd g (tu T 1 x) A gm Am) := by
  obtain ⟨h1, h2, h3, h4, h5, h6, h7, h8⟩ := hX
  have key := xh_carriedAll1 (g := g) (T := tu T 1 x) (A := A) (gm := gm) (Am := Am) (n := n) (mo := mo) (dy := dy) (by rw [tu_s]; exact h2) h3 (by rw [tu_s]; exact h4) h5 h6 (by rw [tu_s]; exact h7) h8
  rw [tu_s] at key
  exact key
end
section
variable {n mo dy d : Nat} {x : Nat → Int32}
set_option maxRecDepth 10000 in
theorem xk_daysL (hX : okX x n mo dy) (hd : dy + d < 2000) : ∀ k i, i + k = d → ∀ o, rn none 5 am_t_X3_passDays (4, [some (.ref 10), some (.int (nI d)), some (.int (dyc all n mo dy x i)), some (.int (nI i)), o], [], wd g (tu T 1 (dys all n mo dy x i)) A gm Am) (some (.int (dyc all n mo dy x d))) (wd g (tu T 1 (dys all n mo dy x d)) A gm Am)
  | 0, i, hi => by
    intro o
    have hin : i = d := by omega
    subst hin
    refine rn_go 80 (by with_unfolding_all rfl) ?_
    refine rn_br (by with_unfolding_all rfl) (fun c => ?_) (fun c => ?_)
    · refine rn_go 80 (by with_unfolding_all rfl) ?_
      exact rn_rt (by with_unfolding_all rfl) trivial rfl rfl
    · exact absurd (Int32.le_refl _) c
  | k + 1, i, hi => by
    intro o
    have ih := xk_daysL hX hd k (i + 1) (by omega)
    rw [← nI_1] at ih
    have hXi := ox_dys sf_all hX i (by omega)
    refine rn_go 80 (by with_unfolding_all rfl) ?_
    refine rn_br (by with_unfolding_all rfl) (fun c => ?_) (fun c => ?_)
    · exact absurd c (nI_ge (show i < d by omega) (by omega))
    refine rn_go 80 (by with_unfolding_all rfl) ?_
    refine rn_cl (by with_unfolding_all rfl) (ev_up (by decide) (xk_able hXi)) ?_
    refine rn_go 80 (by with_unfolding_all rfl) ?_
    refine rn_cl (by with_unfolding_all rfl) (ev_up (by decide) (xk_pass hXi _ _)) ?_
    refine rn_to 4 80 (by with_unfolding_all rfl) ?_
    with_unfolding_all exact ih _
set_option maxRecDepth 10000 in
theorem xk_passDays (hX : okX x n mo dy) (hd : dy + d < 2000) : am_ev 6 52 [.ref 10, .int (nI d)] (wd g (tu T 1 x) A gm Am) (some (.int (dyc all n mo dy x d))) (wd g (tu T 1 (dys all n mo dy x d)) A gm Am) := by
  refine rn_ev am_m_X3_passDays rfl rfl ?_
  refine rn_to 4 80 (by with_unfolding_all rfl) ?_
  with_unfolding_all exact xk_daysL hX hd d 0 (by omega) _
end
def sLater (x : Nat → Int32) (n mo dy : Nat) (p d : Int32) : Int32 := if hm x p = 0 then -1000001 else if d < 0 then -1000001 else if d ≤ 40 then dys all n mo dy x d.toNatClampNeg (13 + p.toNatClampNeg) else -1000001
def sCarried (z : Int32) (x : Nat → Int32) (n mo dy : Nat) (d : Int32) : Int32 := if z = 0 then -1000002 else if d < 0 then -1000001 else if d ≤ 40 then dyc all n mo dy x d.toNatClampNeg else -1000001
set_option maxRecDepth 10000 in
theorem le_of40 {d : Int32} {m : Nat} (hm : m < 1000) (h0 : ¬ d < 0) (h : d ≤ nI m) : ∃ k : Nat, k ≤ m ∧ d = nI k := nI_of2 (M := nI m) (nI_toInt (by omega)) h0 h
section
variable {n mo dy : Nat}
set_option maxRecDepth 10000 in
theorem x8_later (hb : g 11 = 0 ∨ g 11 = 1) (hn : T 0 1 = nI n) (hn4 : n ≤ 4) (hX : n = 0 ∨ okX (T 0) n mo dy) (hdy : dy ≤ 999) (p d : Int32) : ∃ g' t', (∀ k, k ≠ 12 → g' k = g k) ∧ am_ev 12 113 [.ref 0, .int p, .int d] (wd g T A gm Am) (some (.int (sLater (T 0) n mo dy p d))) (wd g' (tu T 1 t') A gm Am) := by
  unfold sLater
  by_cases q1 : hm (T 0) p = 0
  · rw [if_pos q1]
    refine ⟨g, T 1, fun _ _ => rfl, ?_⟩
    rw [tu_id]
    refine rn_ev am_m_X8_later rfl rfl ?_
    refine rn_go 80 (by with_unfolding_all rfl) ?_
    refine rn_cl (by with_unfolding_all rfl) (ev_up (by decide) (xh_hasMember p)) ?_
    refine rn_go 80 (by with_unfolding_all rfl) ?_
    refine rn_br (by with_unfolding_all rfl) (fun c => ?_) (fun c => ?_)
    · refine rn_go 80 (by with_unfolding_all rfl) ?_
      exact rn_rt (by with_unfolding_all rfl) trivial rfl rfl
    · exact absurd q1 c
  rw [if_neg q1]
  obtain ⟨a, ha, rfl⟩ := hm_of hn hn4 q1
  have hX := hX.resolve_left (by omega)
  by_cases q2 : d < 0
  · rw [if_pos q2]
    refine ⟨g, T 1, fun _ _ => rfl, ?_⟩
    rw [tu_id]
    refine rn_ev am_m_X8_later rfl rfl ?_
    refine rn_go 80 (by with_unfolding_all rfl) ?_
    refine rn_cl (by with_unfolding_all rfl) (ev_up (by decide) (xh_hasMember _)) ?_
    refine rn_go 80 (by with_unfolding_all rfl) ?_
    refine rn_br (by with_unfolding_all rfl) (fun c => ?_) (fun c => ?_)
    · exact absurd c q1
    refine rn_go 80 (by with_unfolding_all rfl) ?_
    refine rn_br (by with_unfolding_all rfl) (fun c2 => ?_) (fun c2 => ?_)
    · refine rn_go 80 (by with_unfolding_all rfl) ?_
      exact rn_rt (by with_unfolding_all rfl) trivial rfl rfl
    · exact absurd q2 c2
  rw [if_neg q2]
  by_cases q3 : d ≤ 40
  · rw [if_pos q3]
    obtain ⟨k, hk, rfl⟩ := le_of40 (m := 40) (by decide) q2 q3
    rw [nI_clamp (by omega), nI_clamp (by omega)]
    refine ⟨upd g 12 (g 11), dys all n mo dy (T 0) k, fun j hj => up_ne hj, ?_⟩
    refine rn_ev am_m_X8_later rfl rfl ?_
    refine rn_go 80 (by with_unfolding_all rfl) ?_
    refine rn_cl (by with_unfolding_all rfl) (ev_up (by decide) (xh_hasMember _)) ?_
    refine rn_go 80 (by with_unfolding_all rfl) ?_
    refine rn_br (by with_unfolding_all rfl) (fun c => ?_) (fun c => ?_)
    · exact absurd c q1
    refine rn_go 80 (by with_unfolding_all rfl) ?_
    refine rn_br (by with_unfolding_all rfl) (fun c2 => ?_) (fun c2 => ?_)
    · exact absurd c2 q2
    refine rn_go 80 (by with_unfolding_all rfl) ?_
    refine rn_br (by with_unfolding_all rfl) (fun c3 => ?_) (fun c3 => ?_)
    · refine rn_go 80 (by with_unfolding_all rfl) ?_
      have key : am_ev 8 30 [.ref 34, .int (nI a), .int (nI k)] (wd g T A gm Am) (some (.int (dys all n mo dy (T 0) k (13 + a)))) (wd (upd g 12 (g 11)) (tu T 1 (dys all n mo dy (T 0) k)) A gm Am) := by
        refine rn_ev am_m_X2_breathLater rfl rfl ?_
        refine rn_go 80 (by with_unfolding_all rfl) ?_
        refine rn_cl (by with_unfolding_all rfl) (ev_up (by decide) (xh_become_1_0 hb)) ?_
        refine rn_go 80 (by with_unfolding_all rfl) ?_
        refine rn_cl (by with_unfolding_all rfl) (ev_up (by decide) (xk_passDays hX (by omega))) ?_
        refine rn_go 80 (by with_unfolding_all rfl) ?_
        refine rn_ld (a) (by with_unfolding_all rfl) rfl (by omega) (by decide) ?_
        rw [wa_at (by omega), tu_s]
        refine rn_go 80 (by with_unfolding_all rfl) ?_
        exact rn_rt (by with_unfolding_all rfl) trivial rfl rfl
      refine rn_cl (by with_unfolding_all rfl) (ev_up (by decide) (key)) ?_
      refine rn_go 80 (by with_unfolding_all rfl) ?_
      exact rn_rt (by with_unfolding_all rfl) trivial rfl rfl
    · exact absurd q3 c3
  · rw [if_neg q3]
    refine ⟨g, T 1, fun _ _ => rfl, ?_⟩
    rw [tu_id]
    refine rn_ev am_m_X8_later rfl rfl ?_
    refine rn_go 80 (by with_unfolding_all rfl) ?_
    refine rn_cl (by with_unfolding_all rfl) (ev_up (by decide) (xh_hasMember _)) ?_
    refine rn_go 80 (by with_unfolding_all rfl) ?_
    refine rn_br (by with_unfolding_all rfl) (fun c => ?_) (fun c => ?_)
    · exact absurd c q1
    refine rn_go 80 (by with_unfolding_all rfl) ?_
    refine rn_br (by with_unfolding_all rfl) (fun c2 => ?_) (fun c2 => ?_)
    · exact absurd c2 q2
    refine rn_go 80 (by with_unfolding_all rfl) ?_
    refine rn_br (by with_unfolding_all rfl) (fun c3 => ?_) (fun c3 => ?_)
    · exact absurd c3 q3
    refine rn_go 80 (by with_unfolding_all rfl) ?_
    exact rn_rt (by with_unfolding_all rfl) trivial rfl rfl
set_option maxRecDepth 10000 in
theorem x8_carried (hb : g 11 = 0 ∨ g 11 = 1) (hX : g 11 = 0 ∨ okX (T 0) n mo dy) (hdy : dy ≤ 999) (d : Int32) : ∃ g' t', (∀ k, k ≠ 12 → g' k = g k) ∧ am_ev 12 114 [.ref 0, .int d] (wd g T A gm Am) (some (.int (sCarried (g 11) (T 0) n mo dy d))) (wd g' (tu T 1 t') A gm Am) := by
  unfold sCarried
  by_cases q1 : g 11 = 0
  · rw [if_pos q1]
    refine ⟨g, T 1, fun _ _ => rfl, ?_⟩
    rw [tu_id]
    refine rn_ev am_m_X8_carried rfl rfl ?_
    refine rn_go 80 (by with_unfolding_all rfl) ?_
    refine rn_br (by with_unfolding_all rfl) (fun c => ?_) (fun c => ?_)
    · refine rn_go 80 (by with_unfolding_all rfl) ?_
      exact rn_rt (by with_unfolding_all rfl) trivial rfl rfl
    · exact absurd q1 c
  rw [if_neg q1]
  have hX := hX.resolve_left q1
  by_cases q2 : d < 0
  · rw [if_pos q2]
    refine ⟨g, T 1, fun _ _ => rfl, ?_⟩
    rw [tu_id]
    refine rn_ev am_m_X8_carried rfl rfl ?_
    refine rn_go 80 (by with_unfolding_all rfl) ?_
    refine rn_br (by with_unfolding_all rfl) (fun c => ?_) (fun c => ?_)
    · exact absurd c q1
    refine rn_go 80 (by with_unfolding_all rfl) ?_
    refine rn_br (by with_unfolding_all rfl) (fun c2 => ?_) (fun c2 => ?_)
    · refine rn_go 80 (by with_unfolding_all rfl) ?_
      exact rn_rt (by with_unfolding_all rfl) trivial rfl rfl
    · exact absurd q2 c2
  rw [if_neg q2]
  by_cases q3 : d ≤ 40
  · rw [if_pos q3]
    obtain ⟨k, hk, rfl⟩ := le_of40 (m := 40) (by decide) q2 q3
    rw [nI_clamp (by omega)]
    refine ⟨upd g 12 (g 11), dys all n mo dy (T 0) k, fun j hj => up_ne hj, ?_⟩
    refine rn_ev am_m_X8_carried rfl rfl ?_
    refine rn_go 80 (by with_unfolding_all rfl) ?_
    refine rn_br (by with_unfolding_all rfl) (fun c => ?_) (fun c => ?_)
    · exact absurd c q1
    refine rn_go 80 (by with_unfolding_all rfl) ?_
    refine rn_br (by with_unfolding_all rfl) (fun c2 => ?_) (fun c2 => ?_)
    · exact absurd c2 q2
    refine rn_go 80 (by with_unfolding_all rfl) ?_
    refine rn_br (by with_unfolding_all rfl) (fun c => absurd c (Int32.not_lt.mpr q3)) (fun _ => ?_)
    · refine rn_go 80 (by with_unfolding_all rfl) ?_
      have key : am_ev 8 31 [.ref 34, .int (nI k)] (wd g T A gm Am) (some (.int (dyc all n mo dy (T 0) k))) (wd (upd g 12 (g 11)) (tu T 1 (dys all n mo dy (T 0) k)) A gm Am) := by
        refine rn_ev am_m_X2_carriedLater rfl rfl ?_
        refine rn_go 80 (by with_unfolding_all rfl) ?_
        refine rn_cl (by with_unfolding_all rfl) (ev_up (by decide) (xh_become_1_0 hb)) ?_
        refine rn_go 80 (by with_unfolding_all rfl) ?_
        refine rn_cl (by with_unfolding_all rfl) (ev_up (by decide) (xk_passDays hX (by omega))) ?_
        refine rn_go 80 (by with_unfolding_all rfl) ?_
        exact rn_rt (by with_unfolding_all rfl) trivial rfl rfl
      refine rn_cl (by with_unfolding_all rfl) (ev_up (by decide) (key)) ?_
      refine rn_go 80 (by with_unfolding_all rfl) ?_
      exact rn_rt (by with_unfolding_all rfl) trivial rfl rfl
  · rw [if_neg q3]
    refine ⟨g, T 1, fun _ _ => rfl, ?_⟩
    rw [tu_id]
    refine rn_ev am_m_X8_carried rfl rfl ?_
    refine rn_go 80 (by with_unfolding_all rfl) ?_
    refine rn_br (by with_unfolding_all rfl) (fun c => ?_) (fun c => ?_)
    · exact absurd c q1
    refine rn_go 80 (by with_unfolding_all rfl) ?_
    refine rn_br (by with_unfolding_all rfl) (fun c2 => ?_) (fun c2 => ?_)
    · exact absurd c2 q2
    refine rn_go 80 (by with_unfolding_all rfl) ?_
    refine rn_br (by with_unfolding_all rfl) (fun _ => ?_) (fun c => absurd (Int32.not_le.mp q3) c)
    refine rn_go 80 (by with_unfolding_all rfl) ?_
    exact rn_rt (by with_unfolding_all rfl) trivial rfl rfl
end
end

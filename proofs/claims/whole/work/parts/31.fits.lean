/-! by which breath, kind or cost a row of carried motions comes about -/
def cab (f : Nat → Int32) (n mo dy : Nat) (x : Nat → Int32) : Nat → Nat → Int32
  | 0, _ => 1
  | q + 1, j => if cw (dys all n mo dy x j) (ta (dys all n mo dy x j) n) (ta (dys all n mo dy x j) n) n (dy + j) mo = f j then cab f n mo dy x q (j + 1) else 0
def fsum (c : Nat → Int32) (b : Nat) : Nat → Int32
  | 0 => 0
  | i + 1 => fsum c b i ||| (c (b + i) <<< (nI (b + i) &&& 31))
def sItems (len i n good : Int32) : Int32 × Int32 := if len = -1 then (-1000011, 1) else if hp len i n = 0 then (-1000012, 2) else (good, 0)
def fitF (it : Nat → Int32) (n mo dy : Nat) (x : Nat → Int32) (r i m pl : Nat) (v : Nat) : Int32 := cab (fun j => it (40 * r + (i + j))) n mo dy (upd x pl (nI v)) m 0
def sFits (x : Nat → Int32) (n mo dy : Nat) (p r i k w : Int32) (a1 it : Nat → Int32) (s : Int32) : Int32 × Int32 := if (hm x p = 0 ∨ ir r = 0 ∨ k < 1 ∨ ¬ k ≤ 12 ∨ ie w = 0) then (-1000001, s) else sItems (a1 r.toNatClampNeg) i k (if w = 0 then fsum (fitF it n mo dy x r.toNatClampNeg i.toNatClampNeg k.toNatClampNeg (13 + p.toNatClampNeg)) 0 21 else fsum (fitF it n mo dy x r.toNatClampNeg i.toNatClampNeg k.toNatClampNeg (9 + p.toNatClampNeg)) 1 5)
def sCosts (z : Int32) (x : Nat → Int32) (n mo dy : Nat) (r i k : Int32) (a1 it : Nat → Int32) (s : Int32) : Int32 × Int32 := if z = 0 then (-1000002, s) else if (ir r = 0 ∨ k < 1 ∨ ¬ k ≤ 12) then (-1000001, s) else sItems (a1 r.toNatClampNeg) i k (fsum (fitF it n mo dy x r.toNatClampNeg i.toNatClampNeg k.toNatClampNeg 2) 1 9)
set_option maxRecDepth 10000 in
theorem cab_01 (f : Nat → Int32) (n mo dy : Nat) (x : Nat → Int32) : ∀ q j, cab f n mo dy x q j = 0 ∨ cab f n mo dy x q j = 1
  | 0, _ => Or.inr rfl
  | q + 1, j => by
    unfold cab
    split
    · exact cab_01 f n mo dy x q (j + 1)
    · exact Or.inl rfl
set_option maxRecDepth 10000 in
theorem shl0 : ∀ v, v < 32 → (0 : Int32) <<< (nI v &&& 31) = 0 := by decide +kernel
set_option maxRecDepth 10000 in
theorem eqv_upd {n mo : Nat} {x t : Nat → Int32} (he : Eqv n mo x t) (pl : Nat) (v : Int32) : Eqv n mo (upd x pl v) (upd t pl v) := by
  have key : ∀ k, x k = t k → upd x pl v k = upd t pl v k := by
    intro k hk
    unfold upd
    split
    · rfl
    · exact hk
  exact ⟨fun k hk => key k (he.1 k hk), fun m hm => key _ (he.2.1 m hm), fun p hp => ⟨key _ (he.2.2 p hp).1, key _ (he.2.2 p hp).2.1, key _ (he.2.2 p hp).2.2⟩⟩
set_option maxRecDepth 10000 in
theorem tv_upd {r : Nat → Int32} {B pl : Nat} {v : Int32} : tv (upd r (B + pl) v) B = upd (tv r B) pl v := by
  funext k
  unfold tv upd
  by_cases h : k = pl
  · rw [if_pos (by omega), if_pos h]
  · rw [if_neg (by omega), if_neg h]
set_option maxRecDepth 10000 in
theorem lo_upd {r0 r : Nat → Int32} {k : Nat} {v : Int32} (hk : 567 ≤ k) (h : Lo r0 r) : Lo r0 (upd r k v) := fun j hj => by rw [up_ne (by omega), h j hj]
section
variable {x : Nat → Int32} {n mo dy : Nat}
set_option maxRecDepth 10000 in
theorem ox_br (h : okX x n mo dy) {p v : Nat} (hp : p < n) (hv : v ≤ 20) : okX (upd x (13 + p) (nI v)) n mo dy := by
  obtain ⟨h1, h2, h3, h4, h5, h6, h7, h8⟩ := h
  refine ⟨⟨fun q hq => ?_, by rw [up_ne (by omega)]; exact h1.2⟩, by rw [up_ne (by omega)]; exact h2, h3, by rw [up_ne (by omega)]; exact h4, h5, h6, by rw [up_ne (by omega)]; exact h7, h8⟩
  obtain ⟨a, b, c⟩ := h1.1 q hq
  refine ⟨by rw [up_ne (by omega)]; exact a, ?_, by rw [up_ne (by omega)]; exact c⟩
  by_cases e : q = p
  · rw [e, up_eq]; exact ⟨v, hv, rfl⟩
  · rw [up_ne (by omega)]; exact b
set_option maxRecDepth 10000 in
theorem ox_kd (h : okX x n mo dy) {p v : Nat} (hp : p < n) (h1v : 1 ≤ v) (hv : v ≤ 5) : okX (upd x (9 + p) (nI v)) n mo dy := by
  obtain ⟨h1, h2, h3, h4, h5, h6, h7, h8⟩ := h
  refine ⟨⟨fun q hq => ?_, by rw [up_ne (by omega)]; exact h1.2⟩, by rw [up_ne (by omega)]; exact h2, h3, by rw [up_ne (by omega)]; exact h4, h5, h6, by rw [up_ne (by omega)]; exact h7, h8⟩
  obtain ⟨a, b, c⟩ := h1.1 q hq
  refine ⟨?_, by rw [up_ne (by omega)]; exact b, by rw [up_ne (by omega)]; exact c⟩
  by_cases e : q = p
  · rw [e, up_eq]
    rcases (show v = 1 ∨ v = 2 ∨ v = 3 ∨ v = 4 ∨ v = 5 by omega) with e | e | e | e | e <;> subst e <;> decide
  · rw [up_ne (by omega)]; exact a
set_option maxRecDepth 10000 in
theorem ox_co (h : okX x n mo dy) {v : Nat} (hv : v ≤ 9) : okX (upd x 2 (nI v)) n mo dy := by
  obtain ⟨h1, h2, h3, h4, h5, h6, h7, h8⟩ := h
  refine ⟨⟨fun q hq => ?_, ⟨v, hv, up_eq⟩⟩, by rw [up_ne (by omega)]; exact h2, h3, by rw [up_ne (by omega)]; exact h4, h5, h6, by rw [up_ne (by omega)]; exact h7, h8⟩
  obtain ⟨a, b, c⟩ := h1.1 q hq
  exact ⟨by rw [up_ne (by omega)]; exact a, by rw [up_ne (by omega)]; exact b, by rw [up_ne (by omega)]; exact c⟩
end
section
variable {g gm : Nat → Int32} {T A Am : Nat → Nat → Int32} {h : am_H}
section
variable {x : Nat → Int32} {n mo dy m r i : Nat}
set_option maxRecDepth 10000 in
theorem x4_caL (hX : okX x n mo dy) (hd : dy + m < 2000) (hr : r < 8) (hi : i + m ≤ 40) : ∀ q j, j + q = m → ∀ o, ∃ t', rn none 6 am_t_X4_comesAbout (3, [some (.ref 40), some (.int (nI r)), some (.int (nI i)), some (.int (nI m)), some (.int (nI j)), o], [], wd g (tu T 1 (dys all n mo dy x j)) A gm Am) (some (.int (cab (fun j => A 2 (40 * r + (i + j))) n mo dy x q j))) (wd g (tu T 1 t') A gm Am)
  | 0, j, hj, o => by
    have hin : j = m := by omega
    subst hin
    refine ⟨dys all n mo dy x j, ?_⟩
    refine rn_go 80 (by with_unfolding_all rfl) ?_
    refine rn_br (by with_unfolding_all rfl) (fun _ => ?_) (fun c_ => absurd (Int32.le_refl _) c_)
    refine rn_go 80 (by with_unfolding_all rfl) ?_
    exact rn_rt (by with_unfolding_all rfl) trivial rfl rfl
  | q + 1, j, hj, o => by
    have hXi := ox_dys sf_all hX j (by omega)
    unfold cab
    by_cases c : cw (dys all n mo dy x j) (ta (dys all n mo dy x j) n) (ta (dys all n mo dy x j) n) n (dy + j) mo = A 2 (40 * r + (i + j))
    · rw [if_pos c]
      obtain ⟨t', ih⟩ := x4_caL hX hd hr hi q (j + 1) (by omega) (some (.int (ta (dys all n mo dy x j) n)))
      rw [← nI_1] at ih
      refine ⟨t', ?_⟩
      refine rn_go 80 (by with_unfolding_all rfl) ?_
      refine rn_br (by with_unfolding_all rfl) (fun c_ => absurd c_ (nI_ge (show j < m by omega) (by omega))) (fun _ => ?_)
      refine rn_go 80 (by with_unfolding_all rfl) ?_
      refine rn_cl (by with_unfolding_all rfl) (ev_up (by decide) (xk_able hXi)) ?_
      refine rn_go 80 (by with_unfolding_all rfl) ?_
      refine rn_cl (by with_unfolding_all rfl) (ev_up (by decide) (xk_pass hXi _ _)) ?_
      refine rn_go 80 (by with_unfolding_all rfl) ?_
      rw [nI_add]
      refine rn_cl (by with_unfolding_all rfl) (ev_up (by decide) (x6_item hr (show i + j < 40 by omega))) ?_
      refine rn_go 80 (by with_unfolding_all rfl) ?_
      refine rn_br (by with_unfolding_all rfl) (fun _ => ?_) (fun c_ => absurd (c) c_)
      refine rn_to 3 80 (by with_unfolding_all rfl) ?_
      with_unfolding_all exact ih
    · rw [if_neg c]
      refine ⟨dys all n mo dy x (j + 1), ?_⟩
      refine rn_go 80 (by with_unfolding_all rfl) ?_
      refine rn_br (by with_unfolding_all rfl) (fun c_ => absurd c_ (nI_ge (show j < m by omega) (by omega))) (fun _ => ?_)
      refine rn_go 80 (by with_unfolding_all rfl) ?_
      refine rn_cl (by with_unfolding_all rfl) (ev_up (by decide) (xk_able hXi)) ?_
      refine rn_go 80 (by with_unfolding_all rfl) ?_
      refine rn_cl (by with_unfolding_all rfl) (ev_up (by decide) (xk_pass hXi _ _)) ?_
      refine rn_go 80 (by with_unfolding_all rfl) ?_
      rw [nI_add]
      refine rn_cl (by with_unfolding_all rfl) (ev_up (by decide) (x6_item hr (show i + j < 40 by omega))) ?_
      refine rn_go 80 (by with_unfolding_all rfl) ?_
      refine rn_br (by with_unfolding_all rfl) (fun c_ => absurd c_ (c)) (fun _ => ?_)
      refine rn_go 80 (by with_unfolding_all rfl) ?_
      exact rn_rt (by with_unfolding_all rfl) trivial rfl rfl
set_option maxRecDepth 10000 in
theorem x4_ca (hX : okX x n mo dy) (hd : dy + m < 2000) (hr : r < 8) (hi : i + m ≤ 40) : ∃ t', am_ev 7 57 [.ref 40, .int (nI r), .int (nI i), .int (nI m)] (wd g (tu T 1 x) A gm Am) (some (.int (cab (fun j => A 2 (40 * r + (i + j))) n mo dy x m 0))) (wd g (tu T 1 t') A gm Am) := by
  obtain ⟨t', key⟩ := x4_caL (g := g) (T := T) (A := A) (gm := gm) (Am := Am) hX hd hr hi m 0 (by omega) none
  refine ⟨t', ?_⟩
  refine rn_ev am_m_X4_comesAbout rfl rfl ?_
  refine rn_to 3 80 (by with_unfolding_all rfl) ?_
  with_unfolding_all exact key
set_option maxRecDepth 10000 in
theorem xm_soL {r0 : Nat → Int32} (hX : okX x n mo dy) (hd : dy + m < 2000) (hr : r < 8) (hi : i + m ≤ 40) (pl v : Int32) : ∀ q j, j + q = m → ∀ ro, Lo r0 ro → Eqv n mo (dys all n mo dy x j) (tv ro 567) → ∃ r', Lo r0 r' ∧ rn none 8 am_t_X9_isSo (20, [some (.ref 43), some (.int (nI r)), some (.int (nI i)), some (.int (nI m)), some (.int pl), some (.int v), some (.int (nI j))], [], wd g T A gm (tu Am 0 ro)) (some (.int (cab (fun j => Am 4 (40 * r + (i + j))) n mo dy x q j))) (wd g T A gm (tu Am 0 r'))
  | 0, j, hj, ro, hl, he => by
    have hin : j = m := by omega
    subst hin
    refine ⟨ro, hl, ?_⟩
    refine rn_go 80 (by with_unfolding_all rfl) ?_
    refine rn_br (by with_unfolding_all rfl) (fun _ => ?_) (fun c_ => absurd (Int32.le_refl _) c_)
    refine rn_go 80 (by with_unfolding_all rfl) ?_
    exact rn_rt (by with_unfolding_all rfl) (Or.inr rfl) (rfl) (rfl)
  | q + 1, j, hj, ro, hl, he => by
    have hXi := ox_dys sf_all hX j (by omega)
    obtain ⟨r1, ho, he1, hev⟩ := xx_passAll (g := g) (T := T) (A := A) (gm := gm) (Am := Am) (B := 567) (by omega) he hXi
    have hl1 := lo_out (by omega) hl ho
    unfold cab
    by_cases c : cw (dys all n mo dy x j) (ta (dys all n mo dy x j) n) (ta (dys all n mo dy x j) n) n (dy + j) mo = Am 4 (40 * r + (i + j))
    · rw [if_pos c]
      obtain ⟨r2, hl2, ih⟩ := xm_soL hX hd hr hi pl v q (j + 1) (by omega) r1 hl1 he1
      rw [← nI_1] at ih
      refine ⟨r2, hl2, ?_⟩
      refine rn_go 80 (by with_unfolding_all rfl) ?_
      refine rn_br (by with_unfolding_all rfl) (fun c_ => absurd c_ (nI_ge (show j < m by omega) (by omega))) (fun _ => ?_)
      refine rn_go 80 (by with_unfolding_all rfl) ?_
      refine rn_cl (by with_unfolding_all rfl) (ev_up (by decide) (hev)) ?_
      refine rn_go 80 (by with_unfolding_all rfl) ?_
      refine rn_ld (40 * r + (i + j)) (by with_unfolding_all rfl) (by rw [show (40 : Int32) = nI 40 from rfl, ixr, Nat.add_assoc]) (by omega) (by decide) ?_
      rw [tu_n (by decide)]
      refine rn_go 80 (by with_unfolding_all rfl) ?_
      refine rn_br (by with_unfolding_all rfl) (fun _ => ?_) (fun c_ => absurd (c) c_)
      refine rn_to 20 80 (by with_unfolding_all rfl) ?_
      with_unfolding_all exact ih
    · rw [if_neg c]
      refine ⟨r1, hl1, ?_⟩
      refine rn_go 80 (by with_unfolding_all rfl) ?_
      refine rn_br (by with_unfolding_all rfl) (fun c_ => absurd c_ (nI_ge (show j < m by omega) (by omega))) (fun _ => ?_)
      refine rn_go 80 (by with_unfolding_all rfl) ?_
      refine rn_cl (by with_unfolding_all rfl) (ev_up (by decide) (hev)) ?_
      refine rn_go 80 (by with_unfolding_all rfl) ?_
      refine rn_ld (40 * r + (i + j)) (by with_unfolding_all rfl) (by rw [show (40 : Int32) = nI 40 from rfl, ixr, Nat.add_assoc]) (by omega) (by decide) ?_
      rw [tu_n (by decide)]
      refine rn_go 80 (by with_unfolding_all rfl) ?_
      refine rn_br (by with_unfolding_all rfl) (fun c_ => absurd c_ (c)) (fun _ => ?_)
      refine rn_go 80 (by with_unfolding_all rfl) ?_
      exact rn_rt (by with_unfolding_all rfl) (Or.inl rfl) (rfl) (rfl)
set_option maxRecDepth 10000 in
theorem xm_isSo {r0 ro : Nat → Int32} (hlo : Lo r0 ro) (he : Eqv n mo x (tv r0 0)) (hX0 : okX x n mo dy) {pl : Nat} {v : Int32} (hpl : pl < 21) (hX : okX (upd x pl v) n mo dy) (hd : dy + m < 2000) (hr : r < 8) (hi : i + m ≤ 40) : ∃ r', Lo r0 r' ∧ am_ev 9 204 [.ref 43, .int (nI r), .int (nI i), .int (nI m), .int (nI pl), .int v] (wd g T A gm (tu Am 0 ro)) (some (.int (cab (fun j => Am 4 (40 * r + (i + j))) n mo dy (upd x pl v) m 0))) (wd g T A gm (tu Am 0 r')) := by
  obtain ⟨r1, h1, h2, h3⟩ := xx_lay (g := g) (T := T) (A := A) (gm := gm) (Am := Am) (r := ro)
  have e0 : Eqv n mo (upd x pl v) (tv (upd r1 (567 + pl) v) 567) := by
    rw [tv_upd]
    refine eqv_upd (eqv_tr he ?_) pl v
    refine eqv_tr (eqv_21 hX0.2.2.1 hX0.2.2.2.2.2.1 (fun k hk => ?_)) (eqv_21 hX0.2.2.1 hX0.2.2.2.2.2.1 h2)
    unfold tv
    rw [hlo _ (by omega)]
  obtain ⟨r2, hl2, key⟩ := xm_soL (g := g) (T := T) (A := A) (gm := gm) (Am := Am) (r0 := r0) hX hd hr hi (nI pl) v m 0 (by omega) (upd r1 (567 + pl) v) (lo_upd (by omega) (lo_out (by omega) hlo h1)) e0
  refine ⟨r2, hl2, ?_⟩
  refine rn_ev am_m_X9_isSo rfl rfl ?_
  refine rn_go 80 (by with_unfolding_all rfl) ?_
  refine rn_cl (by with_unfolding_all rfl) (ev_up (by decide) (h3)) ?_
  refine rn_go 80 (by with_unfolding_all rfl) ?_
  refine rn_st (567 + pl) (by with_unfolding_all rfl) (nI_add 567 pl) (by omega) (by decide) ?_
  refine rn_hp (by with_unfolding_all exact (wM_0)) ?_
  rw [tu_tu, tu_s]
  refine rn_to 20 80 (by with_unfolding_all rfl) ?_
  with_unfolding_all exact key
set_option maxRecDepth 10000 in
theorem x4_breathsL (hb : g 11 = 0 ∨ g 11 = 1) (hX : okX (T 0) n mo dy) {p : Nat} (hp : p < n) (hd : dy + m < 2000) (hr : r < 8) (hi : i + m ≤ 40) : ∀ k v, v + k = 21 → ∀ g' t, (∀ j, j ≠ 12 → g' j = g j) → ∃ g'' t'', (∀ j, j ≠ 12 → g'' j = g j) ∧ rn none 7 am_t_X4_breathsOf (6, [some (.ref 40), some (.int (nI p)), some (.int (nI r)), some (.int (nI i)), some (.int (nI m)), some (.int (fsum (fitF (A 2) n mo dy (T 0) r i m (13 + p)) 0 v)), some (.int (nI (0 + v)))], [], wd g' (tu T 1 t) A gm Am) (some (.int (fsum (fitF (A 2) n mo dy (T 0) r i m (13 + p)) 0 21))) (wd g'' (tu T 1 t'') A gm Am)
  | 0, v, hv, g', t, hg => by
    have hin : v = 21 := by omega
    subst hin
    refine ⟨g', t, hg, ?_⟩
    refine rn_go 80 (by with_unfolding_all rfl) ?_
    refine rn_br (by with_unfolding_all rfl) (fun _ => ?_) (fun c_ => absurd ((by decide)) c_)
    refine rn_go 80 (by with_unfolding_all rfl) ?_
    exact rn_rt (by with_unfolding_all rfl) trivial rfl rfl
  | k + 1, v, hv, g', t, hg => by
    have h4 := hX.2.2.1
    obtain ⟨t1, hca⟩ := x4_ca (g := upd g' 12 (g' 11)) (T := T) (A := A) (gm := gm) (Am := Am) (m := m) (r := r) (i := i) (ox_br hX hp (show 0 + v ≤ 20 by omega)) hd hr hi
    obtain ⟨g2, t2, hg2, ih⟩ := x4_breathsL hb hX hp hd hr hi k (v + 1) (by omega) (upd g' 12 (g' 11)) t1 (fun j hj => by rw [up_ne hj, hg j hj])
    rw [← Nat.add_assoc, ← nI_1] at ih
    refine ⟨g2, t2, hg2, ?_⟩
    refine rn_go 80 (by with_unfolding_all rfl) ?_
    refine rn_br (by with_unfolding_all rfl) (fun c_ => absurd c_ ((show ¬ nI 20 < nI (0 + v) from nI_nlt (by omega) (by omega)))) (fun _ => ?_)
    refine rn_go 80 (by with_unfolding_all rfl) ?_
    refine rn_cl (by with_unfolding_all rfl) (ev_up (by decide) (xh_become_1_0 (by rw [hg 11 (by decide)]; exact hb))) ?_
    rw [tu_tu, tu_n (show 0 ≠ 1 by decide)]
    refine rn_go 80 (by with_unfolding_all rfl) ?_
    refine rn_st (p) (by with_unfolding_all rfl) rfl (by omega) (by decide) ?_
    refine rn_hp (by with_unfolding_all exact (ww_1_13 (by omega))) ?_
    rw [tu_tu, tu_s]
    refine rn_go 80 (by with_unfolding_all rfl) ?_
    refine rn_cl (by with_unfolding_all rfl) (ev_up (by decide) (hca)) ?_
    refine rn_to 6 80 (by with_unfolding_all rfl) ?_
    with_unfolding_all exact ih
set_option maxRecDepth 10000 in
theorem x4_sortsL (hb : g 11 = 0 ∨ g 11 = 1) (hX : okX (T 0) n mo dy) {p : Nat} (hp : p < n) (hd : dy + m < 2000) (hr : r < 8) (hi : i + m ≤ 40) : ∀ k v, v + k = 5 → ∀ g' t, (∀ j, j ≠ 12 → g' j = g j) → ∃ g'' t'', (∀ j, j ≠ 12 → g'' j = g j) ∧ rn none 7 am_t_X4_sortsOf (6, [some (.ref 40), some (.int (nI p)), some (.int (nI r)), some (.int (nI i)), some (.int (nI m)), some (.int (fsum (fitF (A 2) n mo dy (T 0) r i m (9 + p)) 1 v)), some (.int (nI (1 + v)))], [], wd g' (tu T 1 t) A gm Am) (some (.int (fsum (fitF (A 2) n mo dy (T 0) r i m (9 + p)) 1 5))) (wd g'' (tu T 1 t'') A gm Am)
  | 0, v, hv, g', t, hg => by
    have hin : v = 5 := by omega
    subst hin
    refine ⟨g', t, hg, ?_⟩
    refine rn_go 80 (by with_unfolding_all rfl) ?_
    refine rn_br (by with_unfolding_all rfl) (fun _ => ?_) (fun c_ => absurd ((by decide)) c_)
    refine rn_go 80 (by with_unfolding_all rfl) ?_
    exact rn_rt (by with_unfolding_all rfl) trivial rfl rfl
  | k + 1, v, hv, g', t, hg => by
    have h4 := hX.2.2.1
    obtain ⟨t1, hca⟩ := x4_ca (g := upd g' 12 (g' 11)) (T := T) (A := A) (gm := gm) (Am := Am) (m := m) (r := r) (i := i) (ox_kd hX hp (show 1 ≤ 1 + v by omega) (show 1 + v ≤ 5 by omega)) hd hr hi
    obtain ⟨g2, t2, hg2, ih⟩ := x4_sortsL hb hX hp hd hr hi k (v + 1) (by omega) (upd g' 12 (g' 11)) t1 (fun j hj => by rw [up_ne hj, hg j hj])
    rw [← Nat.add_assoc, ← nI_1] at ih
    refine ⟨g2, t2, hg2, ?_⟩
    refine rn_go 80 (by with_unfolding_all rfl) ?_
    refine rn_br (by with_unfolding_all rfl) (fun c_ => absurd c_ ((show ¬ nI 5 < nI (1 + v) from nI_nlt (by omega) (by omega)))) (fun _ => ?_)
    refine rn_go 80 (by with_unfolding_all rfl) ?_
    refine rn_cl (by with_unfolding_all rfl) (ev_up (by decide) (xh_become_1_0 (by rw [hg 11 (by decide)]; exact hb))) ?_
    rw [tu_tu, tu_n (show 0 ≠ 1 by decide)]
    refine rn_go 80 (by with_unfolding_all rfl) ?_
    refine rn_st (p) (by with_unfolding_all rfl) rfl (by omega) (by decide) ?_
    refine rn_hp (by with_unfolding_all exact (ww_1_9 (by omega))) ?_
    rw [tu_tu, tu_s]
    refine rn_go 80 (by with_unfolding_all rfl) ?_
    refine rn_cl (by with_unfolding_all rfl) (ev_up (by decide) (hca)) ?_
    refine rn_to 6 80 (by with_unfolding_all rfl) ?_
    with_unfolding_all exact ih
set_option maxRecDepth 10000 in
theorem x4_costsL (hb : g 11 = 0 ∨ g 11 = 1) (hX : okX (T 0) n mo dy) (hd : dy + m < 2000) (hr : r < 8) (hi : i + m ≤ 40) : ∀ k v, v + k = 9 → ∀ g' t, (∀ j, j ≠ 12 → g' j = g j) → ∃ g'' t'', (∀ j, j ≠ 12 → g'' j = g j) ∧ rn none 7 am_t_X4_costsOf (6, [some (.ref 40), some (.int (nI r)), some (.int (nI i)), some (.int (nI m)), some (.int (fsum (fitF (A 2) n mo dy (T 0) r i m 2) 1 v)), some (.int (nI (1 + v)))], [], wd g' (tu T 1 t) A gm Am) (some (.int (fsum (fitF (A 2) n mo dy (T 0) r i m 2) 1 9))) (wd g'' (tu T 1 t'') A gm Am)
  | 0, v, hv, g', t, hg => by
    have hin : v = 9 := by omega
    subst hin
    refine ⟨g', t, hg, ?_⟩
    refine rn_go 80 (by with_unfolding_all rfl) ?_
    refine rn_br (by with_unfolding_all rfl) (fun _ => ?_) (fun c_ => absurd ((by decide)) c_)
    refine rn_go 80 (by with_unfolding_all rfl) ?_
    exact rn_rt (by with_unfolding_all rfl) trivial rfl rfl
  | k + 1, v, hv, g', t, hg => by
    have h4 := hX.2.2.1
    obtain ⟨t1, hca⟩ := x4_ca (g := upd g' 12 (g' 11)) (T := T) (A := A) (gm := gm) (Am := Am) (m := m) (r := r) (i := i) (ox_co hX (show 1 + v ≤ 9 by omega)) hd hr hi
    obtain ⟨g2, t2, hg2, ih⟩ := x4_costsL hb hX hd hr hi k (v + 1) (by omega) (upd g' 12 (g' 11)) t1 (fun j hj => by rw [up_ne hj, hg j hj])
    rw [← Nat.add_assoc, ← nI_1] at ih
    refine ⟨g2, t2, hg2, ?_⟩
    refine rn_go 80 (by with_unfolding_all rfl) ?_
    refine rn_br (by with_unfolding_all rfl) (fun c_ => absurd c_ ((show ¬ nI 9 < nI (1 + v) from nI_nlt (by omega) (by omega)))) (fun _ => ?_)
    refine rn_go 80 (by with_unfolding_all rfl) ?_
    refine rn_cl (by with_unfolding_all rfl) (ev_up (by decide) (xh_become_1_0 (by rw [hg 11 (by decide)]; exact hb))) ?_
    rw [tu_tu, tu_n (show 0 ≠ 1 by decide)]
    refine rn_to 33 80 (by with_unfolding_all rfl) ?_
    refine rn_hp (by with_unfolding_all exact (wf_1_2)) ?_
    rw [tu_tu, tu_s]
    refine rn_go 80 (by with_unfolding_all rfl) ?_
    refine rn_cl (by with_unfolding_all rfl) (ev_up (by decide) (hca)) ?_
    refine rn_to 6 80 (by with_unfolding_all rfl) ?_
    with_unfolding_all exact ih
end
end

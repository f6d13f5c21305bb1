/-! the words of the tables that hold at every state that a call reaches -/
def am_nest : Jvm.Cond → Bool
  | .methodLinkNest _ _ _ _ => true
  | _ => false
def am_kw (w : Jvm.Cond) : Bool := goodWord w || am_nest w
def am_ws : List Jvm.Cond := lw_tbl.filter am_kw
theorem am_word {args a' : Array Value} {s U : State} (hW : s.WarmedH U.vm) {w : Jvm.Cond} (hk : am_kw w = true) (h : w.before args s = true) : w.before a' U = true := by
  unfold am_kw at hk
  rcases (Bool.or_eq_true _ _).mp hk with h1 | h1
  · exact word_at hW (good_of_word h1) h
  · cases w with
    | methodLinkNest a i x hh => exact va_Nw.use rfl (va_Nw.warmM hW (va_Nw.of rfl h))
    | _ => cases h1
theorem am_in {i : Nat} {w : Jvm.Cond} (h : lw_tbl[i]? = some w) (hk : am_kw w = true) : w ∈ am_ws := List.mem_filter.mpr ⟨List.mem_of_getElem? h, hk⟩
theorem am_pay {args : Array Value} {s : State} (ht : ∀ w ∈ am_ws, w.before args s = true) : ∀ w ∈ am_ws, ∀ (a' : Array Value) (U : State), s.WarmedH U.vm → w.before a' U = true :=
  fun w hw a' U hW => am_word hW (List.mem_filter.mp hw).2 (ht w hw)
theorem am_u0 : ∀ w ∈ u_ws RX0 TX0 3, w ∈ am_ws := by decide +kernel

def am_hs : List (MethodName × Nat × Nat) := []
def am_mt (j : Nat) : Option (MethodName × Nat × Nat) := am_hs[j]?
def am_ms : List am_M := []
theorem am_ms_ok : ∀ M ∈ am_ms, am_okM am_mt M := sorry
theorem am_ms_hs : am_ms.map am_hd ++ [(yJ9_max_7cf53, 2, 0), (yJ9_min_7cf53, 2, 0)] = am_hs := sorry
theorem am_mt_max : am_mt 228 = some (yJ9_max_7cf53, 2, 0) := sorry
theorem am_mt_min : am_mt 229 = some (yJ9_min_7cf53, 2, 0) := sorry

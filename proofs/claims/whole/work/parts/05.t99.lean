def am_ms : List am_M := am_ms0 ++ (am_ms1 ++ (am_ms2 ++ (am_ms3 ++ (am_ms4 ++ (am_ms5 ++ (am_ms6 ++ (am_ms7 ++ (am_ms8 ++ (am_ms9 ++ (am_ms10))))))))))
theorem am_ms_ok : ∀ M ∈ am_ms, am_okM am_mt M := List.forall_mem_append.mpr ⟨am_ms0_ok, List.forall_mem_append.mpr ⟨am_ms1_ok, List.forall_mem_append.mpr ⟨am_ms2_ok, List.forall_mem_append.mpr ⟨am_ms3_ok, List.forall_mem_append.mpr ⟨am_ms4_ok, List.forall_mem_append.mpr ⟨am_ms5_ok, List.forall_mem_append.mpr ⟨am_ms6_ok, List.forall_mem_append.mpr ⟨am_ms7_ok, List.forall_mem_append.mpr ⟨am_ms8_ok, List.forall_mem_append.mpr ⟨am_ms9_ok, am_ms10_ok⟩⟩⟩⟩⟩⟩⟩⟩⟩⟩
theorem am_ms_hs : am_ms.map am_hd ++ [(yJ9_max_7cf53, 2, 0), (yJ9_min_7cf53, 2, 0)] = am_hs := by decide +kernel
theorem am_mt_max : am_mt 228 = some (yJ9_max_7cf53, 2, 0) := by decide +kernel
theorem am_mt_min : am_mt 229 = some (yJ9_min_7cf53, 2, 0) := by decide +kernel

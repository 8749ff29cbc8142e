/-! ===== where the two tapes lie ===== -/
theorem fg_1 : j_rf a_g3 (0 : Int).toNat 0 = some 1 := by decide +kernel
theorem fg_2 : j_rf a_g3 (1 : Int).toNat 0 = some 2 := by decide +kernel
theorem fg_3 : j_rf a_g3 (2 : Int).toNat 0 = some 3 := by decide +kernel
theorem fg_4 : j_len a_g3 (3 : Int).toNat = 1000 := by decide +kernel
theorem fg_5 : j_rf a_g3 (182 : Int).toNat 1 = some 183 := by decide +kernel
theorem fg_6 : j_len a_g3 (183 : Int).toNat = 1000 := by decide +kernel

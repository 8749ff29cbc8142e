theorem as_0 : a_drv 0 none 1 [] = true := by decide +kernel
theorem as_1 : a_drv 1 none 1 [] = true := by decide +kernel
theorem as_2 : a_drv 2 none 1 [] = true := by decide +kernel
theorem as_3 : a_drv 3 none 1 [] = true := by decide +kernel
theorem as_4 : a_drv 4 none 1 [] = true := by decide +kernel
theorem as_5 : a_drv 5 none 1 [] = true := by decide +kernel
theorem as_6 : a_drv 6 none 1 [] = true := by decide +kernel
theorem ar_1 : a_drv 7 (some 1) 100 a_c0 = true := by decide +kernel
theorem ar_2 : a_drv 7 (some 2) 100 a_c0 = true := by decide +kernel
theorem ar_3 : a_drv 7 (some 3) 100 a_c0 = true := by decide +kernel
theorem ar_4 : a_drv 7 (some 4) 100 a_c0 = true := by decide +kernel
theorem ar_5 : a_drv 7 (some 5) 100 a_c0 = true := by decide +kernel
theorem ar_6 : a_drv 7 (some 6) 100 a_c0 = true := by decide +kernel
theorem ar_7 : a_drv 7 (some 7) 100 a_c0 = true := by decide +kernel
theorem ar_8 : a_drv 7 (some 8) 100 a_c0 = true := by decide +kernel
theorem ar_9 : a_drv 7 (some 9) 100 a_c0 = true := by decide +kernel
theorem ar_10 : a_drv 7 (some 10) 100 a_c0 = true := by decide +kernel
theorem ar_11 : a_drv 7 (some 11) 100 a_c0 = true := by decide +kernel
theorem ar_12 : a_drv 7 (some 12) 100 a_c0 = true := by decide +kernel
theorem ar_13 : a_drv 7 (some 13) 100 a_c0 = true := by decide +kernel
theorem ar_14 : a_drv 7 (some 14) 100 a_c0 = true := by decide +kernel
theorem ar_15 : a_drv 7 (some 15) 100 a_c0 = true := by decide +kernel
theorem ar_16 : a_drv 7 (some 16) 100 a_c0 = true := by decide +kernel
theorem ar_17 : a_drv 7 (some 17) 100 a_c0 = true := by decide +kernel
theorem ar_18 : a_drv 7 (some 18) 100 a_c0 = true := by decide +kernel
theorem ar_19 : a_drv 7 (some 19) 100 a_c0 = true := by decide +kernel
theorem ar_20 : a_drv 7 (some 20) 100 a_c0 = true := by decide +kernel

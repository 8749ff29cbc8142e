/-! ===== the classes (written by wip/tools/checks.py) ===== -/
theorem cL_0 : gcL 0 = true := by decide +kernel
theorem cP_0f : gcP 0 false = true := by decide +kernel
theorem cP_0t : gcP 0 true = true := by decide +kernel
theorem cL_1 : gcL 1 = true := by decide +kernel
theorem cP_1f : gcP 1 false = true := by decide +kernel
theorem cP_1t : gcP 1 true = true := by decide +kernel
theorem cL_2 : gcL 2 = true := by decide +kernel
theorem cP_2f : gcP 2 false = true := by decide +kernel
theorem cP_2t : gcP 2 true = true := by decide +kernel
theorem cL_3 : gcL 3 = true := by decide +kernel
theorem cP_3f : gcP 3 false = true := by decide +kernel
theorem cP_3t : gcP 3 true = true := by decide +kernel
theorem cL_4 : gcL 4 = true := by decide +kernel
theorem cP_4f : gcP 4 false = true := by decide +kernel
theorem cP_4t : gcP 4 true = true := by decide +kernel
theorem cL_5 : gcL 5 = true := by decide +kernel
theorem cP_5f : gcP 5 false = true := by decide +kernel
theorem cP_5t : gcP 5 true = true := by decide +kernel
theorem cL_6 : gcL 6 = true := by decide +kernel
theorem cP_6f : gcP 6 false = true := by decide +kernel
theorem cP_6t : gcP 6 true = true := by decide +kernel
theorem cL_7 : gcL 7 = true := by decide +kernel
theorem cP_7f : gcP 7 false = true := by decide +kernel
theorem cP_7t : gcP 7 true = true := by decide +kernel
theorem cL_8 : gcL 8 = true := by decide +kernel
theorem cP_8f : gcP 8 false = true := by decide +kernel
theorem cP_8t : gcP 8 true = true := by decide +kernel
theorem cL_9 : gcL 9 = true := by decide +kernel
theorem cP_9f : gcP 9 false = true := by decide +kernel
theorem cP_9t : gcP 9 true = true := by decide +kernel
theorem cL_10 : gcL 10 = true := by decide +kernel
theorem cP_10f : gcP 10 false = true := by decide +kernel
theorem cP_10t : gcP 10 true = true := by decide +kernel
theorem cL_11 : gcL 11 = true := by decide +kernel
theorem cP_11f : gcP 11 false = true := by decide +kernel
theorem cP_11t : gcP 11 true = true := by decide +kernel
theorem cL_12 : gcL 12 = true := by decide +kernel
theorem cP_12f : gcP 12 false = true := by decide +kernel
theorem cP_12t : gcP 12 true = true := by decide +kernel
theorem cL_13 : gcL 13 = true := by decide +kernel
theorem cP_13f : gcP 13 false = true := by decide +kernel
theorem cP_13t : gcP 13 true = true := by decide +kernel
theorem cL_14 : gcL 14 = true := by decide +kernel
theorem cP_14f : gcP 14 false = true := by decide +kernel
theorem cP_14t : gcP 14 true = true := by decide +kernel
theorem cC_0 : okC g_ck (("FeederShares", tf_0, 16), 0, g_pl.getD 0 []) = true := by decide +kernel
theorem cC_1 : okC g_ck (("FeederShares$Law", tf_1, 6), 1, g_pl.getD 1 []) = true := by decide +kernel
theorem cC_2 : okC g_ck (("FeederShares$Ledger", tf_2, 12), 2, g_pl.getD 2 []) = true := by decide +kernel
theorem cC_3 : okC g_ck (("FeederShares$Lines", tf_3, 5), 3, g_pl.getD 3 []) = true := by decide +kernel
theorem cC_4 : okC g_ck (("FeederShares$Past", tf_4, 2), 4, g_pl.getD 4 []) = true := by decide +kernel
theorem cC_5 : okC g_ck (("FeederShares$Plan", tf_5, 13), 5, g_pl.getD 5 []) = true := by decide +kernel
theorem cC_6 : okC g_ck (("FeederShares$Reader", tf_6, 9), 6, g_pl.getD 6 []) = true := by decide +kernel
theorem cC_7 : okC g_ck (("FeederShares$Row", tf_7, 1), 7, g_pl.getD 7 []) = true := by decide +kernel
theorem cC_8 : okC g_ck (("FeederShares$Settling", tf_8, 11), 8, g_pl.getD 8 []) = true := by decide +kernel
theorem cC_9 : okC g_ck (("FeederShares$Tape", tf_9, 7), 9, g_pl.getD 9 []) = true := by decide +kernel
theorem cC_10 : okC g_ck (("FeederSharesModel", tf_10, 30), 10, g_pl.getD 10 []) = true := by decide +kernel

section
/-! ===== the classes (written by wip/tools/checks.py) ===== -/
theorem cL_0 : gcL 0 = true := by decide +kernel
theorem cP_0f : gcP 0 false = true := by decide +kernel
theorem cP_0t : gcP 0 true = true := by decide +kernel
theorem cL_1 : gcL 1 = true := by decide +kernel
theorem cP_1f : gcP 1 false = true := by decide +kernel
theorem cP_1t : gcP 1 true = true := by decide +kernel
theorem cL_2 : gcL 2 = true := by decide +kernel
theorem cP_2f : gcP 2 false = true := by decide +kernel
theorem cP_2t : gcP 2 true = true := by decide +kernel
theorem cL_3 : gcL 3 = true := by decide +kernel
theorem cP_3f : gcP 3 false = true := by decide +kernel
theorem cP_3t : gcP 3 true = true := by decide +kernel
theorem cL_4 : gcL 4 = true := by decide +kernel
theorem cP_4f : gcP 4 false = true := by decide +kernel
theorem cP_4t : gcP 4 true = true := by decide +kernel
theorem cL_5 : gcL 5 = true := by decide +kernel
theorem cP_5f : gcP 5 false = true := by decide +kernel
theorem cP_5t : gcP 5 true = true := by decide +kernel
theorem cL_6 : gcL 6 = true := by decide +kernel
theorem cP_6f : gcP 6 false = true := by decide +kernel
theorem cP_6t : gcP 6 true = true := by decide +kernel
theorem cL_7 : gcL 7 = true := by decide +kernel
theorem cP_7f : gcP 7 false = true := by decide +kernel
theorem cP_7t : gcP 7 true = true := by decide +kernel
theorem cL_8 : gcL 8 = true := by decide +kernel
theorem cP_8f : gcP 8 false = true := by decide +kernel
theorem cP_8t : gcP 8 true = true := by decide +kernel
theorem cL_9 : gcL 9 = true := by decide +kernel
theorem cP_9f : gcP 9 false = true := by decide +kernel
theorem cP_9t : gcP 9 true = true := by decide +kernel
theorem cL_10 : gcL 10 = true := by decide +kernel
theorem cP_10f : gcP 10 false = true := by decide +kernel
theorem cP_10t : gcP 10 true = true := by decide +kernel
theorem cL_11 : gcL 11 = true := by decide +kernel
theorem cP_11f : gcP 11 false = true := by decide +kernel
theorem cP_11t : gcP 11 true = true := by decide +kernel
theorem cL_12 : gcL 12 = true := by decide +kernel
theorem cP_12f : gcP 12 false = true := by decide +kernel
theorem cP_12t : gcP 12 true = true := by decide +kernel
theorem cL_13 : gcL 13 = true := by decide +kernel
theorem cP_13f : gcP 13 false = true := by decide +kernel
theorem cP_13t : gcP 13 true = true := by decide +kernel
theorem cL_14 : gcL 14 = true := by decide +kernel
theorem cP_14f : gcP 14 false = true := by decide +kernel
theorem cP_14t : gcP 14 true = true := by decide +kernel
theorem cC_0 : okC g_ck (("FeederShares", tf_0, 16), 0, g_pl.getD 0 []) = true := by decide +kernel
theorem cC_1 : okC g_ck (("FeederShares$Law", tf_1, 6), 1, g_pl.getD 1 []) = true := by decide +kernel
theorem cC_2 : okC g_ck (("FeederShares$Ledger", tf_2, 12), 2, g_pl.getD 2 []) = true := by decide +kernel
theorem cC_3 : okC g_ck (("FeederShares$Lines", tf_3, 5), 3, g_pl.getD 3 []) = true := by decide +kernel
theorem cC_4 : okC g_ck (("FeederShares$Past", tf_4, 2), 4, g_pl.getD 4 []) = true := by decide +kernel
theorem cC_5 : okC g_ck (("FeederShares$Plan", tf_5, 13), 5, g_pl.getD 5 []) = true := by decide +kernel
theorem cC_6 : okC g_ck (("FeederShares$Reader", tf_6, 9), 6, g_pl.getD 6 []) = true := by decide +kernel
theorem cC_7 : okC g_ck (("FeederShares$Row", tf_7, 1), 7, g_pl.getD 7 []) = true := by decide +kernel
theorem cC_8 : okC g_ck (("FeederShares$Settling", tf_8, 11), 8, g_pl.getD 8 []) = true := by decide +kernel
theorem cC_9 : okC g_ck (("FeederShares$Tape", tf_9, 7), 9, g_pl.getD 9 []) = true := by decide +kernel
theorem cC_10 : okC g_ck (("FeederSharesModel", tf_10, 30), 10, g_pl.getD 10 []) = true := by decide +kernel
end
section
/-! ===== the methods (written by wip/tools/checks.py) ===== -/
/-- a method by itself, its code's row left out -/
def gdN (f : Nat) : Bool := ((true && niceW (cwd (g_Y f) (g_CC f) (m_L g_M f) (g_RT f))) && tk (.initialized (g_Y f).cls) (g_ps f).2 && decide ((g_Y f).cls ≠ "java/lang/invoke/MethodHandle") && decide ((g_Y f).cls ≠ "java/lang/invoke/VarHandle") && decide (m_L g_M f ≤ 40) && decide ((m_R g_M f).length ≤ 1) && plainFor (g_Y f) &&
  (match m_R g_M f with
  | [] => decide ((g_RT f).1 = none)
  | [1] => decide ((g_RT f).1 = some (if g_RZ f then .boolean else .int))
  | [2] => decide ((g_RT f).1 = some .long) && !g_RZ f
  | [3] => decide ((g_RT f).1 = some (.object "FeederShares$Word")) && !g_RZ f
  | _ => false)) && decide ((g_Y f).cls = g_cn (g_c f)) && (!g_in f || decide ((g_Y f).name = "<init>"))
theorem gH_of {f : Nat} (hw : (tb ((g_ps f).1 / 1000))[(g_ps f).1 % 1000]? = some (cwd (g_Y f) (g_CC f) (m_L g_M f) (g_RT f))) (hr : gdN f = true) : gdH f = true := by
  unfold gdH okH tk tw
  rw [decide_eq_true hw]
  exact hr
theorem gK_0 : gdK 0 = true := by decide +kernel
theorem gH_0 : gdH 0 = true := gH_of rfl (by decide +kernel)
theorem gK_1 : gdK 1 = true := by decide +kernel
theorem gH_1 : gdH 1 = true := gH_of rfl (by decide +kernel)
theorem gK_2 : gdK 2 = true := by decide +kernel
theorem gH_2 : gdH 2 = true := gH_of rfl (by decide +kernel)
theorem gK_3 : gdK 3 = true := by decide +kernel
theorem gH_3 : gdH 3 = true := gH_of rfl (by decide +kernel)
theorem gK_4 : gdK 4 = true := by decide +kernel
theorem gH_4 : gdH 4 = true := gH_of rfl (by decide +kernel)
theorem gK_5 : gdK 5 = true := by decide +kernel
theorem gH_5 : gdH 5 = true := gH_of rfl (by decide +kernel)
theorem gK_6 : gdK 6 = true := by decide +kernel
theorem gH_6 : gdH 6 = true := gH_of rfl (by decide +kernel)
theorem gK_7 : gdK 7 = true := by decide +kernel
theorem gH_7 : gdH 7 = true := gH_of rfl (by decide +kernel)
theorem gK_8 : gdK 8 = true := by decide +kernel
theorem gH_8 : gdH 8 = true := gH_of rfl (by decide +kernel)
theorem gK_9 : gdK 9 = true := by decide +kernel
theorem gH_9 : gdH 9 = true := gH_of rfl (by decide +kernel)
theorem gK_10 : gdK 10 = true := by decide +kernel
theorem gH_10 : gdH 10 = true := gH_of rfl (by decide +kernel)
theorem gK_11 : gdK 11 = true := by decide +kernel
theorem gH_11 : gdH 11 = true := gH_of rfl (by decide +kernel)
theorem gK_12 : gdK 12 = true := by decide +kernel
theorem gH_12 : gdH 12 = true := gH_of rfl (by decide +kernel)
theorem gK_13 : gdK 13 = true := by decide +kernel
theorem gH_13 : gdH 13 = true := gH_of rfl (by decide +kernel)
theorem gK_14 : gdK 14 = true := by decide +kernel
theorem gH_14 : gdH 14 = true := gH_of rfl (by decide +kernel)
theorem gK_15 : gdK 15 = true := by decide +kernel
theorem gH_15 : gdH 15 = true := gH_of rfl (by decide +kernel)
theorem gK_16 : gdK 16 = true := by decide +kernel
theorem gH_16 : gdH 16 = true := gH_of rfl (by decide +kernel)
theorem gK_17 : gdK 17 = true := by decide +kernel
theorem gH_17 : gdH 17 = true := gH_of rfl (by decide +kernel)
theorem gK_18 : gdK 18 = true := by decide +kernel
theorem gH_18 : gdH 18 = true := gH_of rfl (by decide +kernel)
theorem gK_19 : gdK 19 = true := by decide +kernel
theorem gH_19 : gdH 19 = true := gH_of rfl (by decide +kernel)
theorem gK_20 : gdK 20 = true := by decide +kernel
theorem gH_20 : gdH 20 = true := gH_of rfl (by decide +kernel)
theorem gK_21 : gdK 21 = true := by decide +kernel
theorem gH_21 : gdH 21 = true := gH_of rfl (by decide +kernel)
theorem gK_22 : gdK 22 = true := by decide +kernel
theorem gH_22 : gdH 22 = true := gH_of rfl (by decide +kernel)
theorem gK_23 : gdK 23 = true := by decide +kernel
theorem gH_23 : gdH 23 = true := gH_of rfl (by decide +kernel)
theorem gK_24 : gdK 24 = true := by decide +kernel
theorem gH_24 : gdH 24 = true := gH_of rfl (by decide +kernel)
theorem gK_25 : gdK 25 = true := by decide +kernel
theorem gH_25 : gdH 25 = true := gH_of rfl (by decide +kernel)
theorem gK_26 : gdK 26 = true := by decide +kernel
theorem gH_26 : gdH 26 = true := gH_of rfl (by decide +kernel)
theorem gK_27 : gdK 27 = true := by decide +kernel
theorem gH_27 : gdH 27 = true := gH_of rfl (by decide +kernel)
theorem gK_28 : gdK 28 = true := by decide +kernel
theorem gH_28 : gdH 28 = true := gH_of rfl (by decide +kernel)
theorem gK_29 : gdK 29 = true := by decide +kernel
theorem gH_29 : gdH 29 = true := gH_of rfl (by decide +kernel)
theorem gK_30 : gdK 30 = true := by decide +kernel
theorem gH_30 : gdH 30 = true := gH_of rfl (by decide +kernel)
theorem gK_31 : gdK 31 = true := by decide +kernel
theorem gH_31 : gdH 31 = true := gH_of rfl (by decide +kernel)
theorem gK_32 : gdK 32 = true := by decide +kernel
theorem gH_32 : gdH 32 = true := gH_of rfl (by decide +kernel)
theorem gK_33 : gdK 33 = true := by decide +kernel
theorem gH_33 : gdH 33 = true := gH_of rfl (by decide +kernel)
theorem gK_34 : gdK 34 = true := by decide +kernel
theorem gH_34 : gdH 34 = true := gH_of rfl (by decide +kernel)
theorem gK_35 : gdK 35 = true := by decide +kernel
theorem gH_35 : gdH 35 = true := gH_of rfl (by decide +kernel)
theorem gK_36 : gdK 36 = true := by decide +kernel
theorem gH_36 : gdH 36 = true := gH_of rfl (by decide +kernel)
theorem gK_37 : gdK 37 = true := by decide +kernel
theorem gH_37 : gdH 37 = true := gH_of rfl (by decide +kernel)
theorem gK_38 : gdK 38 = true := by decide +kernel
theorem gH_38 : gdH 38 = true := gH_of rfl (by decide +kernel)
theorem gK_39 : gdK 39 = true := by decide +kernel
theorem gH_39 : gdH 39 = true := gH_of rfl (by decide +kernel)
theorem gK_40 : gdK 40 = true := by decide +kernel
theorem gH_40 : gdH 40 = true := gH_of rfl (by decide +kernel)
theorem gK_41 : gdK 41 = true := by decide +kernel
theorem gH_41 : gdH 41 = true := gH_of rfl (by decide +kernel)
theorem gK_42 : gdK 42 = true := by decide +kernel
theorem gH_42 : gdH 42 = true := gH_of rfl (by decide +kernel)
theorem gK_43 : gdK 43 = true := by decide +kernel
theorem gH_43 : gdH 43 = true := gH_of rfl (by decide +kernel)
theorem gK_44 : gdK 44 = true := by decide +kernel
theorem gH_44 : gdH 44 = true := gH_of rfl (by decide +kernel)
theorem gK_45 : gdK 45 = true := by decide +kernel
theorem gH_45 : gdH 45 = true := gH_of rfl (by decide +kernel)
theorem gK_46 : gdK 46 = true := by decide +kernel
theorem gH_46 : gdH 46 = true := gH_of rfl (by decide +kernel)
theorem gK_47 : gdK 47 = true := by decide +kernel
theorem gH_47 : gdH 47 = true := gH_of rfl (by decide +kernel)
end

/-! ===== the class's lines: meter ===== -/
theorem TC.kd {n N : Nat} {S P V : Nat → Int} {i : Nat} {h : XH} (t : TC n N S P V i h) : (if wrd (h 2 3) (h 2 6) = 13 then (0 : Int) else if wrd (h 2 3) (h 2 6) = 14 then 1 else if wrd (h 2 3) (h 2 6) = 15 then 2 else if wrd (h 2 3) (h 2 6) = 16 then 3 else -1) = wHere S V wl 13 4 i := by
  have a0_w : wrd (h 2 3) (h 2 6) = 13 ↔ sWd S V wl 13 i := t.wd (w := 13) (by decide)
  have a1_w : wrd (h 2 3) (h 2 6) = 14 ↔ sWd S V wl 14 i := t.wd (w := 14) (by decide)
  have a2 : wrd (h 2 3) (h 2 6) = 15 ↔ sWd S V wl 15 i := t.wd (w := 15) (by decide)
  have a3 : wrd (h 2 3) (h 2 6) = 16 ↔ sWd S V wl 16 i := t.wd (w := 16) (by decide)
  show _ = (if decide (sWd S V wl 16 i) = true then (3 : Int) else if decide (sWd S V wl 15 i) = true then (2 : Int) else if decide (sWd S V wl 14 i) = true then (1 : Int) else if decide (sWd S V wl 13 i) = true then (0 : Int) else -1)
  by_cases y16 : wrd (h 2 3) (h 2 6) = 16
  · rw [if_pos (decide_eq_true (a3.mp y16)), y16]
    rfl
  · rw [if_neg (fun z => y16 (a3.mpr (of_decide_eq_true z)))]
    by_cases y15 : wrd (h 2 3) (h 2 6) = 15
    · rw [if_pos (decide_eq_true (a2.mp y15)), y15]
      rfl
    · rw [if_neg (fun z => y15 (a2.mpr (of_decide_eq_true z)))]
      by_cases y14 : wrd (h 2 3) (h 2 6) = 14
      · rw [if_pos (decide_eq_true (a1_w.mp y14)), y14]
        rfl
      · rw [if_neg (fun z => y14 (a1_w.mpr (of_decide_eq_true z)))]
        by_cases y13 : wrd (h 2 3) (h 2 6) = 13
        · rw [if_pos (decide_eq_true (a0_w.mp y13)), y13]
          rfl
        · rw [if_neg (fun z => y13 (a0_w.mpr (of_decide_eq_true z))), if_neg y13, if_neg y14, if_neg y15, if_neg y16]
theorem TCA.kd {T : TA} {i : Nat} {h : XH} (t : TCA T i h) : (if wrd (h 2 3) (h 2 6) = 13 then (0 : Int) else if wrd (h 2 3) (h 2 6) = 14 then 1 else if wrd (h 2 3) (h 2 6) = 15 then 2 else if wrd (h 2 3) (h 2 6) = 16 then 3 else -1) = wHere (tS T) (tV T) wl 13 4 i := TC.kd t
theorem m_126 : BodyOK CS15 CS15 126 := fun av h Q hQ => by
  rw [cs15_126] at hQ
  unfold k126 kCL at hQ
  split at hQ
  · rename_i o p
    obtain ⟨rfl, rfl, T, i, D, t, tg, lt, cd, rf, q1_w, q2_w⟩ := hQ
    have c3 := cd.1.1.2.2.1
    have l3 := cd.1.1.2.2.2.2.2
    show pS CS15 bb_126 [1, 29, 0, 0, 0, 0] h _
    by_cases y : D.2.2.2.2.1.length = 6
    · have y1 : h 29 12 = 6 := by omega
      have e5_w := t.fa (c := 5) (by decide) (by decide)
      have ew : sEnd sMeter T D i = .error (er (tP T) 5 i) := by
        show eB (sMeter (tS T) (tP T) (tV T) wl D i) _ = _
        unfold sMeter
        rw [if_pos y]
        rfl
      unfold bb_126
      simp only [qe_1, qe_3, qe_4, qe_5, qe_7, qe_72, qe_10, qe_102, qe_13, qe_14, qe_15, qe_16, qe_17, qe_18, qe_20, qe_22, qe_23, qe_21, qe_24, qe_25, qe_26, qe_27, qe_28, qe_30, qe_31, qe_32, qc_20, qc_22, qc_23, qc_21, qc_24, qc_25, qc_26, qc_27, qc_1, qc_3, qc_4, qc_7, qc_13, qc_28, qc_32, qs_1, qs_2, qs_3, qs_4, qs_5, qs_6, qs_9, qs_10, qs_11, qs_14, qs_15, qs_16, qs_27, qs_17, qs_18, qs_19, qs_20, qs_22, qs_23, qs_28, qs_25, qs_26, qs_7, qs_8, kc_1, kn_1, kc_2, kn_2, kc_3, kn_3, kc_4, kn_4, kc_5, kn_5, kc_6, kn_6, kc_7, kn_7, kc_8, kn_8, kc_9, kn_9, kc_10, kn_10, kc_11, kn_11, kc_12, kn_12, kc_13, kn_13, kc_14, kn_14, kc_15, kn_15, kc_16, kc_17, kc_18, kc_19, kc_20, kc_21, kc_22, kc_23, kc_30, kc_32, kc_40, kc_43, kc_45, kc_48, kc_52, kc_56, kc_57, kc_59, kc_60, kc_61, kc_63, kc_64, kc_72, kc_78, kc_97, kc_99, kc_122, kc_126, kc_128, kc_192, kc_200, kc_255, kc_999, kc_1000, kc_9999, kn_9999, kc_10000, kc_12345, kc_65536, kc_252645135, kc_858993459, kc_1103515245, kc_1431655765, kc_2147483647, kc_0, kc_24, kc_28, kc_37, kc_41, kc_42, kc_73, kc_91, kc_95, kc_96, kc_98, kc_100, kc_112, kc_125, kc_150, kc_162, kc_163, kc_168, kc_186, kc_190, kc_250, kc_355, kc_356, kc_404, kc_405, kc_429, kc_573, kc_1002, kc_1100, kc_1891, kc_2200, kc_4719, kc_4869, kc_4881, kc_5148, kc_19741, kc_25433, kc_320403, kc_628412, kc_629093, kc_660401, kc_679843, kc_918640, kc_979410, kc_1178088, kc_6232410, kc_24644941, kc_36238189, kc_38270444, kc_392531318, kc_425693491, kc_1342154595, kc_2147483648, kc_42328242873, kc_891704255789, kc_1722105685577, kc_1858726030364, ct_0, ct_1, ct_2, ct_3, ct_4, ct_5, cf_0, cf_1, cf_2, cf_3, cf_4, cf_5, w_ty6, w_ty7, m_sv, m_z0, m_hd, m_g0, m_gs, m_s0, m_ss, m_ap, m_an, forall_const, true_and, and_true, ne_eq, not_true_eq_false, not_false_eq_true, false_implies, true_implies, implies_true, eq_self, reduceCtorEq, Nat.reduceDiv, Nat.reduceMod, Int.reduceToNat, or_true, true_or, or_false, false_or, or_self, m_it, m_if, m_c1, m_01, m_02, m_03, m_04, m_10, m_12, m_13, m_14, m_20, m_21, m_23, m_24, m_30, m_31, m_32, m_34, m_40, m_41, m_42, m_43, Int.reduceLE, Int.reduceLT, Int.reduceGE, Int.reduceGT, Int.reduceNeg, Int.reduceAdd, Int.reduceSub, Int.reduceMul, Int.reduceEq, Int.reduceNe, Nat.reduceAdd, jun2, ro_0_0, ro_0_1, ro_0_2, ro_0_3, ro_0_4, ro_0_5, ro_0_6, ro_0_7, ro_0_8, ro_0_9, ro_0_10, ro_0_11, ro_0_12, ro_1_0, ro_1_1, ro_2_0, ro_4_0, ro_6_0, ro_6_1, ro_6_2, ro_6_3, ro_6_4, ro_6_5, ro_6_6, ro_6_7, ro_6_8, ro_8_0, ro_10_0, ro_12_0, ro_14_0, ro_16_0, ro_18_0, ro_20_0, ro_22_0, ro_22_1, ro_22_2, ro_23_0, ro_25_0, ro_27_0, ro_29_0, ro_29_1, ro_29_2, ro_29_3, ro_29_4, ro_29_5, ro_29_6, ro_29_7, ro_29_8, ro_31_0, ro_33_0, ro_35_0, ro_37_0, ro_39_0, ro_41_0, ro_43_0, ro_45_0, ro_45_1, ro_45_2, ro_46_0, ro_48_0, ro_50_0, ro_52_0, ro_52_1, ro_52_2, ro_52_3, ro_53_0, ro_55_0, ro_57_0, ro_59_0, ro_61_0, ro_61_1, ro_61_2, ro_61_3, ro_62_0, ro_64_0, ro_66_0, ro_68_0, ro_70_0, ro_70_1, ro_70_2, ro_70_3, ro_70_4, ro_70_5, ro_70_6, ro_70_7, ro_70_8, ro_70_9, ro_71_0, ro_73_0, ro_75_0, ro_77_0, ro_79_0, ro_81_0, ro_83_0, ro_85_0, ro_87_0, ro_89_0, ro_91_0, ro_91_1, ro_91_2, ro_91_3, ro_91_4, ro_91_5, ro_91_6, ro_91_7, ro_91_8, ro_91_9, ro_92_0, ro_94_0, ro_96_0, ro_98_0, ro_100_0, ro_102_0, ro_104_0, ro_106_0, ro_108_0, ro_110_0, ro_112_0, ro_112_1, ro_112_2, ro_112_3, ro_112_4, ro_112_5, ro_112_6, ro_112_7, ro_112_8, ro_112_9, ro_113_0, ro_115_0, ro_117_0, ro_119_0, ro_121_0, ro_123_0, ro_125_0, ro_127_0, ro_129_0, ro_131_0, ro_133_0, ro_133_1, ro_133_2, ro_133_3, ro_133_4, ro_133_5, ro_133_6, ro_133_7, ro_133_8, ro_133_9, ro_134_0, ro_136_0, ro_138_0, ro_140_0, ro_142_0, ro_144_0, ro_146_0, ro_148_0, ro_150_0, ro_152_0, ro_154_0, ro_155_0, ro_157_0, ro_157_1, ro_157_2, ro_157_3, ro_157_4, ro_157_5, ro_157_6, ro_157_7, ro_157_8, ro_157_9, ro_158_0, ro_160_0, ro_162_0, ro_164_0, ro_166_0, ro_168_0, ro_170_0, ro_172_0, ro_174_0, ro_176_0, ro_178_0, ro_180_0, ro_182_1, ro_182_4, ro_182_5, ro_182_6, ro_182_9, ro_182_10, ro_182_11, ro_182_13, ro_182_14, ro_182_15, ro_182_16, ro_182_17, ro_182_20, ro_182_21, ro_182_22, ro_182_23, ro_182_24, ro_182_26, ro_182_27, ro_182_28, lo_3, lo_5, lo_7, lo_9, lo_11, lo_13, lo_15, lo_17, lo_19, lo_21, lo_24, lo_26, lo_28, lo_30, lo_32, lo_34, lo_36, lo_38, lo_40, lo_42, lo_44, lo_47, lo_49, lo_51, lo_54, lo_56, lo_58, lo_60, lo_63, lo_65, lo_67, lo_69, lo_72, lo_74, lo_76, lo_78, lo_80, lo_82, lo_84, lo_86, lo_88, lo_90, lo_93, lo_95, lo_97, lo_99, lo_101, lo_103, lo_105, lo_107, lo_109, lo_111, lo_114, lo_116, lo_118, lo_120, lo_122, lo_124, lo_126, lo_128, lo_130, lo_132, lo_135, lo_137, lo_139, lo_141, lo_143, lo_145, lo_147, lo_149, lo_151, lo_153, lo_156, lo_159, lo_161, lo_163, lo_165, lo_167, lo_169, lo_171, lo_173, lo_175, lo_177, lo_179, lo_181, lo_183, lo_184, lo_185, lo_186, lo_187, lo_188, lo_189, lo_190, lo_191, lo_192, lo_193, lo_194, lo_195, lo_196, lo_197, lo_198, lo_199, lo_200, lo_201, lo_202, lo_203, jp_nn, jp_eq, jp_e1, Classical.not_not, ji0, ji1, ji2, cs15_54, kk_54, cs15_55, kk_55, cs15_68, kk_68, cs15_69, kk_69, cs15_70, kk_70, cs15_71, kk_71, cs15_72, kk_72, cs15_73, kk_73, cs15_74, kk_74, cs15_75, kk_75, cs15_186, kk_186, cs15_187, kk_187, cs15_188, kk_188, cs15_189, kk_189, cs15_191, kk_191, cs15_192, kk_192, cs15_193, kk_193, cs15_198, kk_198, cs15_207, kk_207, cs15_195, kk_195, cs15_196, kk_196, cs15_201, kk_201, cs15_203, kk_203, cs15_204, kk_204, cs15_194, kk_194, cs15_197, kk_197, cs15_200, kk_200, cs15_202, kk_202, cs15_205, kk_205, cs15_208, kk_208, cs15_209, kk_209, cs15_211, kk_211, cs15_216, kk_216, cs15_217, kk_217, cs15_218, kk_218, cs15_219, kk_219, cs15_220, kk_220, cs15_221, kk_221, cs15_210, kk_210, cs15_212, kk_212, cs15_213, kk_213, cs15_190, kk_190, cs15_199, kk_199, cs15_225, kk_225, cs15_226, kk_226, cs15_227, kk_227, cs15_228, kk_228, cs15_240, kk_240, cs15_241, kk_241, cs15_206, kk_206, cs15_333, kk_333, cs15_67, kk_67, cs15_65, kk_65, cs15_66, kk_66, cs15_64, kk_64, cs15_63, kk_63, cs15_77, kk_77, cs15_76, kk_76, cs15_133, kk_133, cs15_134, kk_134, cs15_135, kk_135, cs15_136, kk_136, cs15_138, kk_138, cs15_139, kk_139, cs15_105, kk_105, cs15_102, kk_102, cs15_103, kk_103, cs15_104, kk_104, cs15_106, kk_106, cs15_140, kk_140, cs15_137, kk_137, cs15_127, kk_127, cs15_56, kk_56, cs15_57, kk_57, cs15_79, kk_79, cs15_101, kk_101, cs15_96, kk_96, cs15_99, kk_99, cs15_100, kk_100, cs15_98, kk_98, cs15_122, kk_122, cs15_123, kk_123, cs15_124, kk_124, cs15_125, kk_125, cs15_126, kk_126, jl_0, jl_1, jl_2, jl_3, jl_4, jl_5, jl_6, jl_7, jl_8, jl_9, jl_10, jl_11, jl_12, jl_13, jl_14, jl_15, jl_16, jl_17, jl_18, jl_19, jl_20, jl_21, jl_22, jl_23, jl_24, jl_25, jl_26, jl_27, jl_28, jl_29, jl_30, jl_31, jl_32, jl_33, jl_34, jl_35, jl_36, jl_37, jl_38, jl_39, jl_40, jl_95, jl_96, jl_97, jl_98, jl_99, jl_100, jl_101, jl_102, jl_103, jl_104, jl_105, jl_106, jl_107, jl_108, jl_109, jl_110, jl_111, jl_112, jl_113, jl_114, jl_186, jl_1100, jr, ju, jpT, jpF, tnc, Nat.reduceEqDiff, reduceIte, and_false, false_and, not_true_eq_false, not_false_eq_true, or_false, gt_iff_lt, ge_iff_le, Int.lt_irrefl, Int.le_refl, y1, e5_w]
      exact q1_w _ _ ew (FL.up (by omega)) up_eq
    · have y1 : ¬ 6 ≤ h 29 12 := by omega
      have y2 : h 29 12 < 6 := by omega
      obtain ⟨n1_w, n2_w, n3_w, n4_w⟩ := t.nx lt rfl rfl
      unfold bb_126
      simp only [qe_1, qe_3, qe_4, qe_5, qe_7, qe_72, qe_10, qe_102, qe_13, qe_14, qe_15, qe_16, qe_17, qe_18, qe_20, qe_22, qe_23, qe_21, qe_24, qe_25, qe_26, qe_27, qe_28, qe_30, qe_31, qe_32, qc_20, qc_22, qc_23, qc_21, qc_24, qc_25, qc_26, qc_27, qc_1, qc_3, qc_4, qc_7, qc_13, qc_28, qc_32, qs_1, qs_2, qs_3, qs_4, qs_5, qs_6, qs_9, qs_10, qs_11, qs_14, qs_15, qs_16, qs_27, qs_17, qs_18, qs_19, qs_20, qs_22, qs_23, qs_28, qs_25, qs_26, qs_7, qs_8, kc_1, kn_1, kc_2, kn_2, kc_3, kn_3, kc_4, kn_4, kc_5, kn_5, kc_6, kn_6, kc_7, kn_7, kc_8, kn_8, kc_9, kn_9, kc_10, kn_10, kc_11, kn_11, kc_12, kn_12, kc_13, kn_13, kc_14, kn_14, kc_15, kn_15, kc_16, kc_17, kc_18, kc_19, kc_20, kc_21, kc_22, kc_23, kc_30, kc_32, kc_40, kc_43, kc_45, kc_48, kc_52, kc_56, kc_57, kc_59, kc_60, kc_61, kc_63, kc_64, kc_72, kc_78, kc_97, kc_99, kc_122, kc_126, kc_128, kc_192, kc_200, kc_255, kc_999, kc_1000, kc_9999, kn_9999, kc_10000, kc_12345, kc_65536, kc_252645135, kc_858993459, kc_1103515245, kc_1431655765, kc_2147483647, kc_0, kc_24, kc_28, kc_37, kc_41, kc_42, kc_73, kc_91, kc_95, kc_96, kc_98, kc_100, kc_112, kc_125, kc_150, kc_162, kc_163, kc_168, kc_186, kc_190, kc_250, kc_355, kc_356, kc_404, kc_405, kc_429, kc_573, kc_1002, kc_1100, kc_1891, kc_2200, kc_4719, kc_4869, kc_4881, kc_5148, kc_19741, kc_25433, kc_320403, kc_628412, kc_629093, kc_660401, kc_679843, kc_918640, kc_979410, kc_1178088, kc_6232410, kc_24644941, kc_36238189, kc_38270444, kc_392531318, kc_425693491, kc_1342154595, kc_2147483648, kc_42328242873, kc_891704255789, kc_1722105685577, kc_1858726030364, ct_0, ct_1, ct_2, ct_3, ct_4, ct_5, cf_0, cf_1, cf_2, cf_3, cf_4, cf_5, w_ty6, w_ty7, m_sv, m_z0, m_hd, m_g0, m_gs, m_s0, m_ss, m_ap, m_an, forall_const, true_and, and_true, ne_eq, not_true_eq_false, not_false_eq_true, false_implies, true_implies, implies_true, eq_self, reduceCtorEq, Nat.reduceDiv, Nat.reduceMod, Int.reduceToNat, or_true, true_or, or_false, false_or, or_self, m_it, m_if, m_c1, m_01, m_02, m_03, m_04, m_10, m_12, m_13, m_14, m_20, m_21, m_23, m_24, m_30, m_31, m_32, m_34, m_40, m_41, m_42, m_43, Int.reduceLE, Int.reduceLT, Int.reduceGE, Int.reduceGT, Int.reduceNeg, Int.reduceAdd, Int.reduceSub, Int.reduceMul, Int.reduceEq, Int.reduceNe, Nat.reduceAdd, jun2, ro_0_0, ro_0_1, ro_0_2, ro_0_3, ro_0_4, ro_0_5, ro_0_6, ro_0_7, ro_0_8, ro_0_9, ro_0_10, ro_0_11, ro_0_12, ro_1_0, ro_1_1, ro_2_0, ro_4_0, ro_6_0, ro_6_1, ro_6_2, ro_6_3, ro_6_4, ro_6_5, ro_6_6, ro_6_7, ro_6_8, ro_8_0, ro_10_0, ro_12_0, ro_14_0, ro_16_0, ro_18_0, ro_20_0, ro_22_0, ro_22_1, ro_22_2, ro_23_0, ro_25_0, ro_27_0, ro_29_0, ro_29_1, ro_29_2, ro_29_3, ro_29_4, ro_29_5, ro_29_6, ro_29_7, ro_29_8, ro_31_0, ro_33_0, ro_35_0, ro_37_0, ro_39_0, ro_41_0, ro_43_0, ro_45_0, ro_45_1, ro_45_2, ro_46_0, ro_48_0, ro_50_0, ro_52_0, ro_52_1, ro_52_2, ro_52_3, ro_53_0, ro_55_0, ro_57_0, ro_59_0, ro_61_0, ro_61_1, ro_61_2, ro_61_3, ro_62_0, ro_64_0, ro_66_0, ro_68_0, ro_70_0, ro_70_1, ro_70_2, ro_70_3, ro_70_4, ro_70_5, ro_70_6, ro_70_7, ro_70_8, ro_70_9, ro_71_0, ro_73_0, ro_75_0, ro_77_0, ro_79_0, ro_81_0, ro_83_0, ro_85_0, ro_87_0, ro_89_0, ro_91_0, ro_91_1, ro_91_2, ro_91_3, ro_91_4, ro_91_5, ro_91_6, ro_91_7, ro_91_8, ro_91_9, ro_92_0, ro_94_0, ro_96_0, ro_98_0, ro_100_0, ro_102_0, ro_104_0, ro_106_0, ro_108_0, ro_110_0, ro_112_0, ro_112_1, ro_112_2, ro_112_3, ro_112_4, ro_112_5, ro_112_6, ro_112_7, ro_112_8, ro_112_9, ro_113_0, ro_115_0, ro_117_0, ro_119_0, ro_121_0, ro_123_0, ro_125_0, ro_127_0, ro_129_0, ro_131_0, ro_133_0, ro_133_1, ro_133_2, ro_133_3, ro_133_4, ro_133_5, ro_133_6, ro_133_7, ro_133_8, ro_133_9, ro_134_0, ro_136_0, ro_138_0, ro_140_0, ro_142_0, ro_144_0, ro_146_0, ro_148_0, ro_150_0, ro_152_0, ro_154_0, ro_155_0, ro_157_0, ro_157_1, ro_157_2, ro_157_3, ro_157_4, ro_157_5, ro_157_6, ro_157_7, ro_157_8, ro_157_9, ro_158_0, ro_160_0, ro_162_0, ro_164_0, ro_166_0, ro_168_0, ro_170_0, ro_172_0, ro_174_0, ro_176_0, ro_178_0, ro_180_0, ro_182_1, ro_182_4, ro_182_5, ro_182_6, ro_182_9, ro_182_10, ro_182_11, ro_182_13, ro_182_14, ro_182_15, ro_182_16, ro_182_17, ro_182_20, ro_182_21, ro_182_22, ro_182_23, ro_182_24, ro_182_26, ro_182_27, ro_182_28, lo_3, lo_5, lo_7, lo_9, lo_11, lo_13, lo_15, lo_17, lo_19, lo_21, lo_24, lo_26, lo_28, lo_30, lo_32, lo_34, lo_36, lo_38, lo_40, lo_42, lo_44, lo_47, lo_49, lo_51, lo_54, lo_56, lo_58, lo_60, lo_63, lo_65, lo_67, lo_69, lo_72, lo_74, lo_76, lo_78, lo_80, lo_82, lo_84, lo_86, lo_88, lo_90, lo_93, lo_95, lo_97, lo_99, lo_101, lo_103, lo_105, lo_107, lo_109, lo_111, lo_114, lo_116, lo_118, lo_120, lo_122, lo_124, lo_126, lo_128, lo_130, lo_132, lo_135, lo_137, lo_139, lo_141, lo_143, lo_145, lo_147, lo_149, lo_151, lo_153, lo_156, lo_159, lo_161, lo_163, lo_165, lo_167, lo_169, lo_171, lo_173, lo_175, lo_177, lo_179, lo_181, lo_183, lo_184, lo_185, lo_186, lo_187, lo_188, lo_189, lo_190, lo_191, lo_192, lo_193, lo_194, lo_195, lo_196, lo_197, lo_198, lo_199, lo_200, lo_201, lo_202, lo_203, jp_nn, jp_eq, jp_e1, Classical.not_not, ji0, ji1, ji2, cs15_54, kk_54, cs15_55, kk_55, cs15_68, kk_68, cs15_69, kk_69, cs15_70, kk_70, cs15_71, kk_71, cs15_72, kk_72, cs15_73, kk_73, cs15_74, kk_74, cs15_75, kk_75, cs15_186, kk_186, cs15_187, kk_187, cs15_188, kk_188, cs15_189, kk_189, cs15_191, kk_191, cs15_192, kk_192, cs15_193, kk_193, cs15_198, kk_198, cs15_207, kk_207, cs15_195, kk_195, cs15_196, kk_196, cs15_201, kk_201, cs15_203, kk_203, cs15_204, kk_204, cs15_194, kk_194, cs15_197, kk_197, cs15_200, kk_200, cs15_202, kk_202, cs15_205, kk_205, cs15_208, kk_208, cs15_209, kk_209, cs15_211, kk_211, cs15_216, kk_216, cs15_217, kk_217, cs15_218, kk_218, cs15_219, kk_219, cs15_220, kk_220, cs15_221, kk_221, cs15_210, kk_210, cs15_212, kk_212, cs15_213, kk_213, cs15_190, kk_190, cs15_199, kk_199, cs15_225, kk_225, cs15_226, kk_226, cs15_227, kk_227, cs15_228, kk_228, cs15_240, kk_240, cs15_241, kk_241, cs15_206, kk_206, cs15_333, kk_333, cs15_67, kk_67, cs15_65, kk_65, cs15_66, kk_66, cs15_64, kk_64, cs15_63, kk_63, cs15_77, kk_77, cs15_76, kk_76, cs15_133, kk_133, cs15_134, kk_134, cs15_135, kk_135, cs15_136, kk_136, cs15_138, kk_138, cs15_139, kk_139, cs15_105, kk_105, cs15_102, kk_102, cs15_103, kk_103, cs15_104, kk_104, cs15_106, kk_106, cs15_140, kk_140, cs15_137, kk_137, cs15_127, kk_127, cs15_56, kk_56, cs15_57, kk_57, cs15_79, kk_79, cs15_101, kk_101, cs15_96, kk_96, cs15_99, kk_99, cs15_100, kk_100, cs15_98, kk_98, cs15_122, kk_122, cs15_123, kk_123, cs15_124, kk_124, cs15_125, kk_125, cs15_126, kk_126, jl_0, jl_1, jl_2, jl_3, jl_4, jl_5, jl_6, jl_7, jl_8, jl_9, jl_10, jl_11, jl_12, jl_13, jl_14, jl_15, jl_16, jl_17, jl_18, jl_19, jl_20, jl_21, jl_22, jl_23, jl_24, jl_25, jl_26, jl_27, jl_28, jl_29, jl_30, jl_31, jl_32, jl_33, jl_34, jl_35, jl_36, jl_37, jl_38, jl_39, jl_40, jl_95, jl_96, jl_97, jl_98, jl_99, jl_100, jl_101, jl_102, jl_103, jl_104, jl_105, jl_106, jl_107, jl_108, jl_109, jl_110, jl_111, jl_112, jl_113, jl_114, jl_186, jl_1100, jr, ju, jpT, jpF, tnc, Nat.reduceEqDiff, reduceIte, and_false, false_and, not_true_eq_false, not_false_eq_true, or_false, gt_iff_lt, ge_iff_le, Int.lt_irrefl, Int.le_refl, y1, y2]
      have ew : sEnd sMeter T D i = eB (eB (sNew (tS T) (tP T) (tV T) wl D (i + 1)) fun a => eB (sOne (tS T) (tP T) (tV T) wl 13 4 a.2) fun k => eB (sWrd (tS T) (tP T) (tV T) wl 2 k.2) fun j => eB (sTold (tS T) (tP T) (tV T) wl (D.2.2.1.map (·.1)) j) fun c => eB (sWrd (tS T) (tP T) (tV T) wl 7 c.2) fun j2_w => eB (sTold (tS T) (tP T) (tV T) wl D.2.2.2.1 j2_w) fun s => .ok ((D.1, D.2.1, D.2.2.1, D.2.2.2.1, D.2.2.2.2.1 ++ [(a.1, k.1, c.1, s.1)], D.2.2.2.2.2), s.2)) fun r => eB (sSgn (tS T) (tP T) (tV T) 59 r.2) fun j => .ok (r.1, j) := by
        show eB (sMeter (tS T) (tP T) (tV T) wl D i) _ = _
        unfold sMeter
        rw [if_neg y]
      refine ⟨_, _, n1_w, n2_w, n3_w, fun h1 f1_w a1_w => ⟨Or.inr rfl, T, i + 1, D, n4_w h1 f1_w a1_w, (cd.rd f1_w.rd).1, fun f h2 e f2_w e6_w => q1_w f h2 (by simp only [ew, e, eB]) (f1_w.rd.fl.tr f2_w.fl) e6_w, fun v j h2 e f2_w e5_w w t2_w => ?_⟩⟩
      have g2 : FL h h2 := f1_w.rd.fl.tr f2_w.fl
      have kd := t2_w.kd
      rw [kd]
      have ef := t2_w.fa (c := 1) (by decide) (by decide)
      refine ⟨fun z => ?_, fun z => ?_⟩
      · have e3_w : sOne (tS T) (tP T) (tV T) wl 13 4 j = .error (er (tP T) 1 j) := by
          unfold sOne
          rw [if_pos (by omega)]
        exact q1_w _ _ (by simp only [ew, e, e3_w, eB]) (g2.tr (FL.up (by omega))) (up_eq.trans ef)
      · have e3_w : sOne (tS T) (tP T) (tV T) wl 13 4 j = .ok (wHere (tS T) (tV T) wl 13 4 j, j + 1) := by
          unfold sOne
          have := lst_ge (p := fun k => decide (sWd (tS T) (tV T) wl (13 + k) j)) 4
          rw [if_neg (fun y => z (by unfold wHere at y ⊢; omega))]
        have lt2 : j < T.2.1 := t2_w.lt (fun y => z (by
          have a := kd
          have : h2 2 3 = 0 := t2_w.2.1.trans y
          rw [this] at a
          exact a.symm.trans rfl))
        obtain ⟨m1_w, m2_w, m3_w, m4_w⟩ := t2_w.nx lt2 rfl rfl
        refine ⟨_, _, m1_w, m2_w, m3_w, fun h3 f3_w a3 => ?_⟩
        have t3_w := m4_w h3 f3_w a3
        have g3_w : FL h h3 := g2.tr f3_w.rd.fl
        have n3_w : h3 1 5 = h2 1 5 := f3_w 1 5 (by omega)
        refine ⟨T, j + 1, 2, by decide, rfl, t3_w, fun f h4 e4_w f4_w e6_w => q1_w f h4 (by simp only [ew, e, e3_w, e4_w, eB]) (g3_w.tr f4_w.fl) e6_w, fun j4_w h4 e4_w f4_w k4 t4_w => ?_⟩
        have g4 : FL h h4 := g3_w.tr f4_w.fl
        have st : ∀ (l : List Int) (j : Nat), sTold (tS T) (tP T) (tV T) wl l j = (if ¬ isNm (tS T) (tV T) wl j then .error (er (tP T) 1 j) else if nmAt l (tV T j) < 0 then .error (er (tP T) 2 j) else .ok (nmAt l (tV T j), j + 1)) := fun _ _ => rfl
        have cd4 : CD 29 D h4 := (((cd.rd f1_w.rd).ro f2_w).rd f3_w.rd).ro f4_w
        have rf4 : RFD D h4 := (((rf.rd f1_w.rd).ro f2_w).rd f3_w.rd).ro f4_w
        have nn : ∀ l u, nmAt l u = -1 ↔ nmAt l u < 0 := fun l u => by
          have := lst_ge (p := fun k => decide (l[k]? = some u)) l.length
          unfold nmAt
          omega
        refine ⟨T, j4_w, t4_w, fun h5 nm f5_w e6_w => q1_w _ h5 (by simp only [ew, e, e3_w, e4_w, eB, st, if_pos nm]) (g4.tr f5_w.fl) e6_w, fun h5 nm f5_w k5 w5 t5_w => ?_⟩
        have g5_w : FL h h5 := g4.tr f5_w.fl
        have lt5 : j4_w < T.2.1 := t5_w.lt (by rw [nm.1]; decide)
        refine ⟨Or.inr rfl, D, tV T j4_w, (cd4.ro f5_w).1, k5, w5, T, j4_w, t5_w, lt5, fun h6 x6 f6_w e6_w => q1_w _ h6 (by simp only [ew, e, e3_w, e4_w, eB, st, if_neg (fun z => z nm : ¬ ¬ isNm (tS T) (tV T) wl j4_w), if_pos ((nn _ _).mp x6)]) (g5_w.tr f6_w.fl) e6_w, fun h6 x6 f6_w v6 k6 _ t6 => ?_⟩
        have g6 : FL h h6 := g5_w.tr f6_w.fl
        have e6t : sTold (tS T) (tP T) (tV T) wl (D.2.2.1.map (·.1)) j4_w = .ok (nmAt (D.2.2.1.map (·.1)) (tV T j4_w), j4_w + 1) := by
          rw [st, if_neg (fun z => z nm), if_neg (fun z => x6 ((nn _ _).mpr z))]
        refine ⟨T, j4_w + 1, 7, by decide, rfl, t6, fun f h7 e7_w f7_w e6_w => q1_w f h7 (by simp only [ew, e, e3_w, e4_w, e6t, e7_w, eB]) (g6.tr f7_w.fl) e6_w, fun j7_w h7 e7_w f7_w k7 t7 => ?_⟩
        have g7 : FL h h7 := g6.tr f7_w.fl
        refine ⟨T, j7_w, t7, fun h8 nm8 f8_w e6_w => q1_w _ h8 (by simp only [ew, e, e3_w, e4_w, e6t, e7_w, eB, st, if_pos nm8]) (g7.tr f8_w.fl) e6_w, fun h8 nm8 f8_w k8 w8 t8 => ?_⟩
        have g8 : FL h h8 := g7.tr f8_w.fl
        have cd8 : CD 29 D h8 := (((cd4.ro f5_w).ro f6_w).ro f7_w).ro f8_w
        have rf8 : RFD D h8 := (((rf4.ro f5_w).ro f6_w).ro f7_w).ro f8_w
        have lt8 : j7_w < T.2.1 := t8.lt (by rw [nm8.1]; decide)
        refine ⟨Or.inr rfl, D, tV T j7_w, cd8.1, k8, w8, T, j7_w, t8, lt8, fun h9 x9 f9_w e6_w => q1_w _ h9 (by simp only [ew, e, e3_w, e4_w, e6t, e7_w, eB, st, if_neg (fun z => z nm8 : ¬ ¬ isNm (tS T) (tV T) wl j7_w), if_pos ((nn _ _).mp x9)]) (g8.tr f9_w.fl) e6_w, fun h9 x9 f9_w v9 k9 _ t9 => ?_⟩
        have g9 : FL h h9 := g8.tr f9_w.fl
        have e9t : sTold (tS T) (tP T) (tV T) wl D.2.2.2.1 j7_w = .ok (nmAt D.2.2.2.1 (tV T j7_w), j7_w + 1) := by
          rw [st, if_neg (fun z => z nm8), if_neg (fun z => x9 ((nn _ _).mpr z))]
        have gb : 0 ≤ nmAt (D.2.2.1.map (·.1)) (tV T j4_w) := by
          rcases Int.lt_or_le (nmAt (D.2.2.1.map (·.1)) (tV T j4_w)) 0 with z | z
          · exact absurd ((nn (D.2.2.1.map (·.1)) (tV T j4_w)).mpr z) x6
          · exact z
        have gl : nmAt (D.2.2.1.map (·.1)) (tV T j4_w) < 4 := by
          have a := lst_lt (p := fun k => decide ((D.2.2.1.map (·.1))[k]? = some (tV T j4_w))) (D.2.2.1.map (·.1)).length
          have b : (D.2.2.1.map (·.1)).length ≤ 4 := by rw [lenM.1]; exact cd.1.1.2.2.2.1
          unfold nmAt
          omega
        refine ⟨D, v, (nmAt (D.2.2.1.map (·.1)) (tV T j4_w)).toNat, cd8.ro f9_w, by omega, e5_w, w, sNew_ok e, by rw [v6]; omega, by omega, fun h10 f10 cd10 => ?_⟩
        rw [v6, v9] at cd10
        have rf10 : RFD (D.1, D.2.1, D.2.2.1, D.2.2.2.1, D.2.2.2.2.1 ++ [(v, wHere (tS T) (tV T) wl 13 4 j, nmAt (D.2.2.1.map (·.1)) (tV T j4_w), nmAt D.2.2.2.1 (tV T j7_w))], D.2.2.2.2.2) h10 := (rf8.ro f9_w).fp f10
        exact ⟨T, j7_w + 1, f10.tca t9, fun f h11 e11_w f11_w e6_w => q1_w f h11 (by simp only [ew, e, e3_w, e4_w, e6t, e7_w, e9t, e11_w, eB]) ((g9.tr f10.fl).tr f11_w.fl) e6_w, fun j11_w h11 e11_w f11_w t11 => q2_w _ j11_w h11 (by simp only [ew, e, e3_w, e4_w, e6t, e7_w, e9t, e11_w, eB]) ((g9.tr f10.fl).tr f11_w.fl) (f11_w.2.trans ((f10 1 6 (by omega)).trans (f9_w.2.trans (f8_w.2.trans (f7_w.2.trans (f6_w.2.trans (f5_w.2.trans (f4_w.2.trans ((f3_w 1 6 (by omega)).trans (f2_w.2.trans (f1_w 1 6 (by omega)))))))))))) (cd10.ro f11_w) (rf10.ro f11_w) t11⟩
  · exact hQ.elim
theorem snd_15 {xs : Nat → Int} {L K : Nat} : ∀ n, SndC CS15 (evF xs L g_ck K g_cW g_M n) := snd_all snd_14 (fun f av h Q hQ => by
  unfold CS15 at hQ
  split at hQ
  · exact Or.inr m_122
  · exact Or.inr m_123
  · exact Or.inr m_124
  · exact Or.inr m_125
  · exact Or.inr m_126
  · exact Or.inl hQ)

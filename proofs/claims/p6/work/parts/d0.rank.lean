/-! ===== contracts: the class's law_w, how strongly a sign binds ===== -/
def rkn (t : Int) : Int := if t = -6 ∨ t = -7 then 1 else if t = -8 ∨ t = -9 then 2 else if t = -10 ∨ t = -11 then 3 else if t = -12 then 4 else if t = -5 then 5 else 0
def k84 : KT := fun av h Q => match av with
  | [t] => Q 1 [rkn t] h
  | _ => False
theorem kk_84 {t : Int} {h : XH} {Q : Nat → List Int → XH → Prop} : k84 [t] h Q = Q 1 [rkn t] h := id rfl
def CS16 : CSt := fun f => match f with
  | 84 => k84
  | _ => CS15 f
theorem cs16_54 {av : List Int} {h : XH} {Q : Nat → List Int → XH → Prop} : CS16 54 av h Q = k54 av h Q := id rfl
theorem cs16_55 {av : List Int} {h : XH} {Q : Nat → List Int → XH → Prop} : CS16 55 av h Q = k55 av h Q := id rfl
theorem cs16_68 {av : List Int} {h : XH} {Q : Nat → List Int → XH → Prop} : CS16 68 av h Q = k68 av h Q := id rfl
theorem cs16_69 {av : List Int} {h : XH} {Q : Nat → List Int → XH → Prop} : CS16 69 av h Q = k69 av h Q := id rfl
theorem cs16_70 {av : List Int} {h : XH} {Q : Nat → List Int → XH → Prop} : CS16 70 av h Q = k70 av h Q := id rfl
theorem cs16_71 {av : List Int} {h : XH} {Q : Nat → List Int → XH → Prop} : CS16 71 av h Q = k71 av h Q := id rfl
theorem cs16_72 {av : List Int} {h : XH} {Q : Nat → List Int → XH → Prop} : CS16 72 av h Q = k72 av h Q := id rfl
theorem cs16_73 {av : List Int} {h : XH} {Q : Nat → List Int → XH → Prop} : CS16 73 av h Q = k73 av h Q := id rfl
theorem cs16_74 {av : List Int} {h : XH} {Q : Nat → List Int → XH → Prop} : CS16 74 av h Q = k74 av h Q := id rfl
theorem cs16_75 {av : List Int} {h : XH} {Q : Nat → List Int → XH → Prop} : CS16 75 av h Q = k75 av h Q := id rfl
theorem cs16_186 {av : List Int} {h : XH} {Q : Nat → List Int → XH → Prop} : CS16 186 av h Q = k186 av h Q := id rfl
theorem cs16_187 {av : List Int} {h : XH} {Q : Nat → List Int → XH → Prop} : CS16 187 av h Q = k187 av h Q := id rfl
theorem cs16_188 {av : List Int} {h : XH} {Q : Nat → List Int → XH → Prop} : CS16 188 av h Q = k188 av h Q := id rfl
theorem cs16_189 {av : List Int} {h : XH} {Q : Nat → List Int → XH → Prop} : CS16 189 av h Q = k189 av h Q := id rfl
theorem cs16_191 {av : List Int} {h : XH} {Q : Nat → List Int → XH → Prop} : CS16 191 av h Q = k191 av h Q := id rfl
theorem cs16_192 {av : List Int} {h : XH} {Q : Nat → List Int → XH → Prop} : CS16 192 av h Q = k192 av h Q := id rfl
theorem cs16_193 {av : List Int} {h : XH} {Q : Nat → List Int → XH → Prop} : CS16 193 av h Q = k193 av h Q := id rfl
theorem cs16_198 {av : List Int} {h : XH} {Q : Nat → List Int → XH → Prop} : CS16 198 av h Q = k198 av h Q := id rfl
theorem cs16_207 {av : List Int} {h : XH} {Q : Nat → List Int → XH → Prop} : CS16 207 av h Q = k207 av h Q := id rfl
theorem cs16_195 {av : List Int} {h : XH} {Q : Nat → List Int → XH → Prop} : CS16 195 av h Q = k195 av h Q := id rfl
theorem cs16_196 {av : List Int} {h : XH} {Q : Nat → List Int → XH → Prop} : CS16 196 av h Q = k196 av h Q := id rfl
theorem cs16_201 {av : List Int} {h : XH} {Q : Nat → List Int → XH → Prop} : CS16 201 av h Q = k201 av h Q := id rfl
theorem cs16_203 {av : List Int} {h : XH} {Q : Nat → List Int → XH → Prop} : CS16 203 av h Q = k203 av h Q := id rfl
theorem cs16_204 {av : List Int} {h : XH} {Q : Nat → List Int → XH → Prop} : CS16 204 av h Q = k204 av h Q := id rfl
theorem cs16_194 {av : List Int} {h : XH} {Q : Nat → List Int → XH → Prop} : CS16 194 av h Q = k194 av h Q := id rfl
theorem cs16_197 {av : List Int} {h : XH} {Q : Nat → List Int → XH → Prop} : CS16 197 av h Q = k197 av h Q := id rfl
theorem cs16_200 {av : List Int} {h : XH} {Q : Nat → List Int → XH → Prop} : CS16 200 av h Q = k200 av h Q := id rfl
theorem cs16_202 {av : List Int} {h : XH} {Q : Nat → List Int → XH → Prop} : CS16 202 av h Q = k202 av h Q := id rfl
theorem cs16_205 {av : List Int} {h : XH} {Q : Nat → List Int → XH → Prop} : CS16 205 av h Q = k205 av h Q := id rfl
theorem cs16_208 {av : List Int} {h : XH} {Q : Nat → List Int → XH → Prop} : CS16 208 av h Q = k208 av h Q := id rfl
theorem cs16_209 {av : List Int} {h : XH} {Q : Nat → List Int → XH → Prop} : CS16 209 av h Q = k209 av h Q := id rfl
theorem cs16_211 {av : List Int} {h : XH} {Q : Nat → List Int → XH → Prop} : CS16 211 av h Q = k211 av h Q := id rfl
theorem cs16_216 {av : List Int} {h : XH} {Q : Nat → List Int → XH → Prop} : CS16 216 av h Q = k216 av h Q := id rfl
theorem cs16_217 {av : List Int} {h : XH} {Q : Nat → List Int → XH → Prop} : CS16 217 av h Q = k217 av h Q := id rfl
theorem cs16_218 {av : List Int} {h : XH} {Q : Nat → List Int → XH → Prop} : CS16 218 av h Q = k218 av h Q := id rfl
theorem cs16_219 {av : List Int} {h : XH} {Q : Nat → List Int → XH → Prop} : CS16 219 av h Q = k219 av h Q := id rfl
theorem cs16_220 {av : List Int} {h : XH} {Q : Nat → List Int → XH → Prop} : CS16 220 av h Q = k220 av h Q := id rfl
theorem cs16_221 {av : List Int} {h : XH} {Q : Nat → List Int → XH → Prop} : CS16 221 av h Q = k221 av h Q := id rfl
theorem cs16_210 {av : List Int} {h : XH} {Q : Nat → List Int → XH → Prop} : CS16 210 av h Q = k210 av h Q := id rfl
theorem cs16_212 {av : List Int} {h : XH} {Q : Nat → List Int → XH → Prop} : CS16 212 av h Q = k212 av h Q := id rfl
theorem cs16_213 {av : List Int} {h : XH} {Q : Nat → List Int → XH → Prop} : CS16 213 av h Q = k213 av h Q := id rfl
theorem cs16_190 {av : List Int} {h : XH} {Q : Nat → List Int → XH → Prop} : CS16 190 av h Q = k190 av h Q := id rfl
theorem cs16_199 {av : List Int} {h : XH} {Q : Nat → List Int → XH → Prop} : CS16 199 av h Q = k199 av h Q := id rfl
theorem cs16_225 {av : List Int} {h : XH} {Q : Nat → List Int → XH → Prop} : CS16 225 av h Q = k225 av h Q := id rfl
theorem cs16_226 {av : List Int} {h : XH} {Q : Nat → List Int → XH → Prop} : CS16 226 av h Q = k226 av h Q := id rfl
theorem cs16_227 {av : List Int} {h : XH} {Q : Nat → List Int → XH → Prop} : CS16 227 av h Q = k227 av h Q := id rfl
theorem cs16_228 {av : List Int} {h : XH} {Q : Nat → List Int → XH → Prop} : CS16 228 av h Q = k228 av h Q := id rfl
theorem cs16_240 {av : List Int} {h : XH} {Q : Nat → List Int → XH → Prop} : CS16 240 av h Q = k240 av h Q := id rfl
theorem cs16_241 {av : List Int} {h : XH} {Q : Nat → List Int → XH → Prop} : CS16 241 av h Q = k241 av h Q := id rfl
theorem cs16_206 {av : List Int} {h : XH} {Q : Nat → List Int → XH → Prop} : CS16 206 av h Q = k206 av h Q := id rfl
theorem cs16_333 {av : List Int} {h : XH} {Q : Nat → List Int → XH → Prop} : CS16 333 av h Q = k333 av h Q := id rfl
theorem cs16_67 {av : List Int} {h : XH} {Q : Nat → List Int → XH → Prop} : CS16 67 av h Q = k67 av h Q := id rfl
theorem cs16_65 {av : List Int} {h : XH} {Q : Nat → List Int → XH → Prop} : CS16 65 av h Q = k65 av h Q := id rfl
theorem cs16_66 {av : List Int} {h : XH} {Q : Nat → List Int → XH → Prop} : CS16 66 av h Q = k66 av h Q := id rfl
theorem cs16_64 {av : List Int} {h : XH} {Q : Nat → List Int → XH → Prop} : CS16 64 av h Q = k64 av h Q := id rfl
theorem cs16_63 {av : List Int} {h : XH} {Q : Nat → List Int → XH → Prop} : CS16 63 av h Q = k63 av h Q := id rfl
theorem cs16_77 {av : List Int} {h : XH} {Q : Nat → List Int → XH → Prop} : CS16 77 av h Q = k77 av h Q := id rfl
theorem cs16_76 {av : List Int} {h : XH} {Q : Nat → List Int → XH → Prop} : CS16 76 av h Q = k76 av h Q := id rfl
theorem cs16_133 {av : List Int} {h : XH} {Q : Nat → List Int → XH → Prop} : CS16 133 av h Q = k133 av h Q := id rfl
theorem cs16_134 {av : List Int} {h : XH} {Q : Nat → List Int → XH → Prop} : CS16 134 av h Q = k134 av h Q := id rfl
theorem cs16_135 {av : List Int} {h : XH} {Q : Nat → List Int → XH → Prop} : CS16 135 av h Q = k135 av h Q := id rfl
theorem cs16_136 {av : List Int} {h : XH} {Q : Nat → List Int → XH → Prop} : CS16 136 av h Q = k136 av h Q := id rfl
theorem cs16_138 {av : List Int} {h : XH} {Q : Nat → List Int → XH → Prop} : CS16 138 av h Q = k138 av h Q := id rfl
theorem cs16_139 {av : List Int} {h : XH} {Q : Nat → List Int → XH → Prop} : CS16 139 av h Q = k139 av h Q := id rfl
theorem cs16_105 {av : List Int} {h : XH} {Q : Nat → List Int → XH → Prop} : CS16 105 av h Q = k105 av h Q := id rfl
theorem cs16_102 {av : List Int} {h : XH} {Q : Nat → List Int → XH → Prop} : CS16 102 av h Q = k102 av h Q := id rfl
theorem cs16_103 {av : List Int} {h : XH} {Q : Nat → List Int → XH → Prop} : CS16 103 av h Q = k103 av h Q := id rfl
theorem cs16_104 {av : List Int} {h : XH} {Q : Nat → List Int → XH → Prop} : CS16 104 av h Q = k104 av h Q := id rfl
theorem cs16_106 {av : List Int} {h : XH} {Q : Nat → List Int → XH → Prop} : CS16 106 av h Q = k106 av h Q := id rfl
theorem cs16_140 {av : List Int} {h : XH} {Q : Nat → List Int → XH → Prop} : CS16 140 av h Q = k140 av h Q := id rfl
theorem cs16_137 {av : List Int} {h : XH} {Q : Nat → List Int → XH → Prop} : CS16 137 av h Q = k137 av h Q := id rfl
theorem cs16_127 {av : List Int} {h : XH} {Q : Nat → List Int → XH → Prop} : CS16 127 av h Q = k127 av h Q := id rfl
theorem cs16_56 {av : List Int} {h : XH} {Q : Nat → List Int → XH → Prop} : CS16 56 av h Q = k56 av h Q := id rfl
theorem cs16_57 {av : List Int} {h : XH} {Q : Nat → List Int → XH → Prop} : CS16 57 av h Q = k57 av h Q := id rfl
theorem cs16_79 {av : List Int} {h : XH} {Q : Nat → List Int → XH → Prop} : CS16 79 av h Q = k79 av h Q := id rfl
theorem cs16_101 {av : List Int} {h : XH} {Q : Nat → List Int → XH → Prop} : CS16 101 av h Q = k101 av h Q := id rfl
theorem cs16_96 {av : List Int} {h : XH} {Q : Nat → List Int → XH → Prop} : CS16 96 av h Q = k96 av h Q := id rfl
theorem cs16_99 {av : List Int} {h : XH} {Q : Nat → List Int → XH → Prop} : CS16 99 av h Q = k99c av h Q := id rfl
theorem cs16_100 {av : List Int} {h : XH} {Q : Nat → List Int → XH → Prop} : CS16 100 av h Q = k100 av h Q := id rfl
theorem cs16_98 {av : List Int} {h : XH} {Q : Nat → List Int → XH → Prop} : CS16 98 av h Q = k98 av h Q := id rfl
theorem cs16_122 {av : List Int} {h : XH} {Q : Nat → List Int → XH → Prop} : CS16 122 av h Q = k122 av h Q := id rfl
theorem cs16_123 {av : List Int} {h : XH} {Q : Nat → List Int → XH → Prop} : CS16 123 av h Q = k123 av h Q := id rfl
theorem cs16_124 {av : List Int} {h : XH} {Q : Nat → List Int → XH → Prop} : CS16 124 av h Q = k124 av h Q := id rfl
theorem cs16_125 {av : List Int} {h : XH} {Q : Nat → List Int → XH → Prop} : CS16 125 av h Q = k125 av h Q := id rfl
theorem cs16_126 {av : List Int} {h : XH} {Q : Nat → List Int → XH → Prop} : CS16 126 av h Q = k126 av h Q := id rfl
theorem cs16_84 {av : List Int} {h : XH} {Q : Nat → List Int → XH → Prop} : CS16 84 av h Q = k84 av h Q := id rfl
theorem m_84 : BodyOK CS16 CS16 84 := fun av h Q hQ => by
  rw [cs16_84] at hQ
  unfold k84 at hQ
  split at hQ
  · rename_i t
    unfold rkn at hQ
    show pS CS16 bb_84 [t] h _
    unfold bb_84
    simp only [qe_1, qe_3, qe_4, qe_5, qe_7, qe_72, qe_10, qe_102, qe_13, qe_14, qe_15, qe_16, qe_17, qe_18, qe_20, qe_22, qe_23, qe_21, qe_24, qe_25, qe_26, qe_27, qe_28, qe_30, qe_31, qe_32, qc_20, qc_22, qc_23, qc_21, qc_24, qc_25, qc_26, qc_27, qc_1, qc_3, qc_4, qc_7, qc_13, qc_28, qc_32, qs_1, qs_2, qs_3, qs_4, qs_5, qs_6, qs_9, qs_10, qs_11, qs_14, qs_15, qs_16, qs_27, qs_17, qs_18, qs_19, qs_20, qs_22, qs_23, qs_28, qs_25, qs_26, qs_7, qs_8, kc_1, kn_1, kc_2, kn_2, kc_3, kn_3, kc_4, kn_4, kc_5, kn_5, kc_6, kn_6, kc_7, kn_7, kc_8, kn_8, kc_9, kn_9, kc_10, kn_10, kc_11, kn_11, kc_12, kn_12, kc_13, kn_13, kc_14, kn_14, kc_15, kn_15, kc_16, kc_17, kc_18, kc_19, kc_20, kc_21, kc_22, kc_23, kc_30, kc_32, kc_40, kc_43, kc_45, kc_48, kc_52, kc_56, kc_57, kc_59, kc_60, kc_61, kc_63, kc_64, kc_72, kc_78, kc_97, kc_99, kc_122, kc_126, kc_128, kc_192, kc_200, kc_255, kc_999, kc_1000, kc_9999, kn_9999, kc_10000, kc_12345, kc_65536, kc_252645135, kc_858993459, kc_1103515245, kc_1431655765, kc_2147483647, kc_0, kc_24, kc_28, kc_37, kc_41, kc_42, kc_73, kc_91, kc_95, kc_96, kc_98, kc_100, kc_112, kc_125, kc_150, kc_162, kc_163, kc_168, kc_186, kc_190, kc_250, kc_355, kc_356, kc_404, kc_405, kc_429, kc_573, kc_1002, kc_1100, kc_1891, kc_2200, kc_4719, kc_4869, kc_4881, kc_5148, kc_19741, kc_25433, kc_320403, kc_628412, kc_629093, kc_660401, kc_679843, kc_918640, kc_979410, kc_1178088, kc_6232410, kc_24644941, kc_36238189, kc_38270444, kc_392531318, kc_425693491, kc_1342154595, kc_2147483648, kc_42328242873, kc_891704255789, kc_1722105685577, kc_1858726030364, ct_0, ct_1, ct_2, ct_3, ct_4, ct_5, cf_0, cf_1, cf_2, cf_3, cf_4, cf_5, w_ty6, w_ty7, m_sv, m_z0, m_hd, m_g0, m_gs, m_s0, m_ss, m_ap, m_an, forall_const, true_and, and_true, ne_eq, not_true_eq_false, not_false_eq_true, false_implies, true_implies, implies_true, eq_self, reduceCtorEq, Nat.reduceDiv, Nat.reduceMod, Int.reduceToNat, or_true, true_or, or_false, false_or, or_self, m_it, m_if, m_c1, m_01, m_02, m_03, m_04, m_10, m_12, m_13, m_14, m_20, m_21, m_23, m_24, m_30, m_31, m_32, m_34, m_40, m_41, m_42, m_43, Int.reduceLE, Int.reduceLT, Int.reduceGE, Int.reduceGT, Int.reduceNeg, Int.reduceAdd, Int.reduceSub, Int.reduceMul, Int.reduceEq, Int.reduceNe, Nat.reduceAdd, jun2, ro_0_0, ro_0_1, ro_0_2, ro_0_3, ro_0_4, ro_0_5, ro_0_6, ro_0_7, ro_0_8, ro_0_9, ro_0_10, ro_0_11, ro_0_12, ro_1_0, ro_1_1, ro_2_0, ro_4_0, ro_6_0, ro_6_1, ro_6_2, ro_6_3, ro_6_4, ro_6_5, ro_6_6, ro_6_7, ro_6_8, ro_8_0, ro_10_0, ro_12_0, ro_14_0, ro_16_0, ro_18_0, ro_20_0, ro_22_0, ro_22_1, ro_22_2, ro_23_0, ro_25_0, ro_27_0, ro_29_0, ro_29_1, ro_29_2, ro_29_3, ro_29_4, ro_29_5, ro_29_6, ro_29_7, ro_29_8, ro_31_0, ro_33_0, ro_35_0, ro_37_0, ro_39_0, ro_41_0, ro_43_0, ro_45_0, ro_45_1, ro_45_2, ro_46_0, ro_48_0, ro_50_0, ro_52_0, ro_52_1, ro_52_2, ro_52_3, ro_53_0, ro_55_0, ro_57_0, ro_59_0, ro_61_0, ro_61_1, ro_61_2, ro_61_3, ro_62_0, ro_64_0, ro_66_0, ro_68_0, ro_70_0, ro_70_1, ro_70_2, ro_70_3, ro_70_4, ro_70_5, ro_70_6, ro_70_7, ro_70_8, ro_70_9, ro_71_0, ro_73_0, ro_75_0, ro_77_0, ro_79_0, ro_81_0, ro_83_0, ro_85_0, ro_87_0, ro_89_0, ro_91_0, ro_91_1, ro_91_2, ro_91_3, ro_91_4, ro_91_5, ro_91_6, ro_91_7, ro_91_8, ro_91_9, ro_92_0, ro_94_0, ro_96_0, ro_98_0, ro_100_0, ro_102_0, ro_104_0, ro_106_0, ro_108_0, ro_110_0, ro_112_0, ro_112_1, ro_112_2, ro_112_3, ro_112_4, ro_112_5, ro_112_6, ro_112_7, ro_112_8, ro_112_9, ro_113_0, ro_115_0, ro_117_0, ro_119_0, ro_121_0, ro_123_0, ro_125_0, ro_127_0, ro_129_0, ro_131_0, ro_133_0, ro_133_1, ro_133_2, ro_133_3, ro_133_4, ro_133_5, ro_133_6, ro_133_7, ro_133_8, ro_133_9, ro_134_0, ro_136_0, ro_138_0, ro_140_0, ro_142_0, ro_144_0, ro_146_0, ro_148_0, ro_150_0, ro_152_0, ro_154_0, ro_155_0, ro_157_0, ro_157_1, ro_157_2, ro_157_3, ro_157_4, ro_157_5, ro_157_6, ro_157_7, ro_157_8, ro_157_9, ro_158_0, ro_160_0, ro_162_0, ro_164_0, ro_166_0, ro_168_0, ro_170_0, ro_172_0, ro_174_0, ro_176_0, ro_178_0, ro_180_0, ro_182_1, ro_182_4, ro_182_5, ro_182_6, ro_182_9, ro_182_10, ro_182_11, ro_182_13, ro_182_14, ro_182_15, ro_182_16, ro_182_17, ro_182_20, ro_182_21, ro_182_22, ro_182_23, ro_182_24, ro_182_26, ro_182_27, ro_182_28, lo_3, lo_5, lo_7, lo_9, lo_11, lo_13, lo_15, lo_17, lo_19, lo_21, lo_24, lo_26, lo_28, lo_30, lo_32, lo_34, lo_36, lo_38, lo_40, lo_42, lo_44, lo_47, lo_49, lo_51, lo_54, lo_56, lo_58, lo_60, lo_63, lo_65, lo_67, lo_69, lo_72, lo_74, lo_76, lo_78, lo_80, lo_82, lo_84, lo_86, lo_88, lo_90, lo_93, lo_95, lo_97, lo_99, lo_101, lo_103, lo_105, lo_107, lo_109, lo_111, lo_114, lo_116, lo_118, lo_120, lo_122, lo_124, lo_126, lo_128, lo_130, lo_132, lo_135, lo_137, lo_139, lo_141, lo_143, lo_145, lo_147, lo_149, lo_151, lo_153, lo_156, lo_159, lo_161, lo_163, lo_165, lo_167, lo_169, lo_171, lo_173, lo_175, lo_177, lo_179, lo_181, lo_183, lo_184, lo_185, lo_186, lo_187, lo_188, lo_189, lo_190, lo_191, lo_192, lo_193, lo_194, lo_195, lo_196, lo_197, lo_198, lo_199, lo_200, lo_201, lo_202, lo_203, jp_nn, jp_eq, jp_e1, Classical.not_not, ji0, ji1, ji2, cs16_54, kk_54, cs16_55, kk_55, cs16_68, kk_68, cs16_69, kk_69, cs16_70, kk_70, cs16_71, kk_71, cs16_72, kk_72, cs16_73, kk_73, cs16_74, kk_74, cs16_75, kk_75, cs16_186, kk_186, cs16_187, kk_187, cs16_188, kk_188, cs16_189, kk_189, cs16_191, kk_191, cs16_192, kk_192, cs16_193, kk_193, cs16_198, kk_198, cs16_207, kk_207, cs16_195, kk_195, cs16_196, kk_196, cs16_201, kk_201, cs16_203, kk_203, cs16_204, kk_204, cs16_194, kk_194, cs16_197, kk_197, cs16_200, kk_200, cs16_202, kk_202, cs16_205, kk_205, cs16_208, kk_208, cs16_209, kk_209, cs16_211, kk_211, cs16_216, kk_216, cs16_217, kk_217, cs16_218, kk_218, cs16_219, kk_219, cs16_220, kk_220, cs16_221, kk_221, cs16_210, kk_210, cs16_212, kk_212, cs16_213, kk_213, cs16_190, kk_190, cs16_199, kk_199, cs16_225, kk_225, cs16_226, kk_226, cs16_227, kk_227, cs16_228, kk_228, cs16_240, kk_240, cs16_241, kk_241, cs16_206, kk_206, cs16_333, kk_333, cs16_67, kk_67, cs16_65, kk_65, cs16_66, kk_66, cs16_64, kk_64, cs16_63, kk_63, cs16_77, kk_77, cs16_76, kk_76, cs16_133, kk_133, cs16_134, kk_134, cs16_135, kk_135, cs16_136, kk_136, cs16_138, kk_138, cs16_139, kk_139, cs16_105, kk_105, cs16_102, kk_102, cs16_103, kk_103, cs16_104, kk_104, cs16_106, kk_106, cs16_140, kk_140, cs16_137, kk_137, cs16_127, kk_127, cs16_56, kk_56, cs16_57, kk_57, cs16_79, kk_79, cs16_101, kk_101, cs16_96, kk_96, cs16_99, kk_99, cs16_100, kk_100, cs16_98, kk_98, cs16_122, kk_122, cs16_123, kk_123, cs16_124, kk_124, cs16_125, kk_125, cs16_126, kk_126, cs16_84, kk_84, jl_0, jl_1, jl_2, jl_3, jl_4, jl_5, jl_6, jl_7, jl_8, jl_9, jl_10, jl_11, jl_12, jl_13, jl_14, jl_15, jl_16, jl_17, jl_18, jl_19, jl_20, jl_21, jl_22, jl_23, jl_24, jl_25, jl_26, jl_27, jl_28, jl_29, jl_30, jl_31, jl_32, jl_33, jl_34, jl_35, jl_36, jl_37, jl_38, jl_39, jl_40, jl_95, jl_96, jl_97, jl_98, jl_99, jl_100, jl_101, jl_102, jl_103, jl_104, jl_105, jl_106, jl_107, jl_108, jl_109, jl_110, jl_111, jl_112, jl_113, jl_114, jl_186, jl_1100, jr, ju, jpT, jpF, tnc, Nat.reduceEqDiff, reduceIte, and_false, false_and, not_true_eq_false, not_false_eq_true, or_false, gt_iff_lt, ge_iff_le, Int.lt_irrefl, Int.le_refl]
    have two : ∀ a b : Int, ((decide (t = a) || (decide (t = b) || false)) = true) = (t = a ∨ t = b) := fun a b => by simp
    have one : ∀ a : Int, ((decide (t = a) || false) = true) = (t = a) := fun a => by simp
    have nt : ∀ b : Bool, (b = false) = ¬ (b = true) := fun b => by cases b <;> simp
    simp only [nt]
    show ((decide (t = -6) || (decide (t = -7) || false)) = true → Q 1 [1] h) ∧ (¬ (decide (t = -6) || (decide (t = -7) || false)) = true → ((decide (t = -8) || (decide (t = -9) || false)) = true → Q 1 [2] h) ∧ (¬ (decide (t = -8) || (decide (t = -9) || false)) = true → ((decide (t = -10) || (decide (t = -11) || false)) = true → Q 1 [3] h) ∧ (¬ (decide (t = -10) || (decide (t = -11) || false)) = true → ((decide (t = -12) || false) = true → Q 1 [4] h) ∧ (¬ (decide (t = -12) || false) = true → ((decide (t = -5) || false) = true → Q 1 [5] h) ∧ (¬ (decide (t = -5) || false) = true → Q 1 [0] h)))))
    rw [two, two, two, one, one]
    refine ⟨fun z => ?_, fun z => ⟨fun z2 => ?_, fun z2 => ⟨fun z3 => ?_, fun z3 => ⟨fun z4 => ?_, fun z4 => ⟨fun z5 => ?_, fun z5 => ?_⟩⟩⟩⟩⟩
    · rw [if_pos z] at hQ; exact hQ
    · rw [if_neg z, if_pos z2] at hQ; exact hQ
    · rw [if_neg z, if_neg z2, if_pos z3] at hQ; exact hQ
    · rw [if_neg z, if_neg z2, if_neg z3, if_pos z4] at hQ; exact hQ
    · rw [if_neg z, if_neg z2, if_neg z3, if_neg z4, if_pos z5] at hQ; exact hQ
    · rw [if_neg z, if_neg z2, if_neg z3, if_neg z4, if_neg z5] at hQ; exact hQ
  · exact hQ.elim
theorem snd_16 {xs : Nat → Int} {L K : Nat} : ∀ n, SndC CS16 (evF xs L g_ck K g_cW g_M n) := snd_all snd_15 (fun f av h Q hQ => by
  unfold CS16 at hQ
  split at hQ
  · exact Or.inr m_84
  · exact Or.inl hQ)

/-! ===== the reference_w reads_w a line: bodies ===== -/
def CS6 : CSt := fun f => match f with
  | 210 => k210
  | 212 => k212
  | 213 => k213
  | _ => CS5 f
theorem cs6_54 {av : List Int} {h : XH} {Q : Nat → List Int → XH → Prop} : CS6 54 av h Q = k54 av h Q := id rfl
theorem cs6_55 {av : List Int} {h : XH} {Q : Nat → List Int → XH → Prop} : CS6 55 av h Q = k55 av h Q := id rfl
theorem cs6_68 {av : List Int} {h : XH} {Q : Nat → List Int → XH → Prop} : CS6 68 av h Q = k68 av h Q := id rfl
theorem cs6_69 {av : List Int} {h : XH} {Q : Nat → List Int → XH → Prop} : CS6 69 av h Q = k69 av h Q := id rfl
theorem cs6_70 {av : List Int} {h : XH} {Q : Nat → List Int → XH → Prop} : CS6 70 av h Q = k70 av h Q := id rfl
theorem cs6_71 {av : List Int} {h : XH} {Q : Nat → List Int → XH → Prop} : CS6 71 av h Q = k71 av h Q := id rfl
theorem cs6_72 {av : List Int} {h : XH} {Q : Nat → List Int → XH → Prop} : CS6 72 av h Q = k72 av h Q := id rfl
theorem cs6_73 {av : List Int} {h : XH} {Q : Nat → List Int → XH → Prop} : CS6 73 av h Q = k73 av h Q := id rfl
theorem cs6_74 {av : List Int} {h : XH} {Q : Nat → List Int → XH → Prop} : CS6 74 av h Q = k74 av h Q := id rfl
theorem cs6_75 {av : List Int} {h : XH} {Q : Nat → List Int → XH → Prop} : CS6 75 av h Q = k75 av h Q := id rfl
theorem cs6_186 {av : List Int} {h : XH} {Q : Nat → List Int → XH → Prop} : CS6 186 av h Q = k186 av h Q := id rfl
theorem cs6_187 {av : List Int} {h : XH} {Q : Nat → List Int → XH → Prop} : CS6 187 av h Q = k187 av h Q := id rfl
theorem cs6_188 {av : List Int} {h : XH} {Q : Nat → List Int → XH → Prop} : CS6 188 av h Q = k188 av h Q := id rfl
theorem cs6_189 {av : List Int} {h : XH} {Q : Nat → List Int → XH → Prop} : CS6 189 av h Q = k189 av h Q := id rfl
theorem cs6_191 {av : List Int} {h : XH} {Q : Nat → List Int → XH → Prop} : CS6 191 av h Q = k191 av h Q := id rfl
theorem cs6_192 {av : List Int} {h : XH} {Q : Nat → List Int → XH → Prop} : CS6 192 av h Q = k192 av h Q := id rfl
theorem cs6_193 {av : List Int} {h : XH} {Q : Nat → List Int → XH → Prop} : CS6 193 av h Q = k193 av h Q := id rfl
theorem cs6_198 {av : List Int} {h : XH} {Q : Nat → List Int → XH → Prop} : CS6 198 av h Q = k198 av h Q := id rfl
theorem cs6_207 {av : List Int} {h : XH} {Q : Nat → List Int → XH → Prop} : CS6 207 av h Q = k207 av h Q := id rfl
theorem cs6_195 {av : List Int} {h : XH} {Q : Nat → List Int → XH → Prop} : CS6 195 av h Q = k195 av h Q := id rfl
theorem cs6_196 {av : List Int} {h : XH} {Q : Nat → List Int → XH → Prop} : CS6 196 av h Q = k196 av h Q := id rfl
theorem cs6_201 {av : List Int} {h : XH} {Q : Nat → List Int → XH → Prop} : CS6 201 av h Q = k201 av h Q := id rfl
theorem cs6_203 {av : List Int} {h : XH} {Q : Nat → List Int → XH → Prop} : CS6 203 av h Q = k203 av h Q := id rfl
theorem cs6_204 {av : List Int} {h : XH} {Q : Nat → List Int → XH → Prop} : CS6 204 av h Q = k204 av h Q := id rfl
theorem cs6_194 {av : List Int} {h : XH} {Q : Nat → List Int → XH → Prop} : CS6 194 av h Q = k194 av h Q := id rfl
theorem cs6_197 {av : List Int} {h : XH} {Q : Nat → List Int → XH → Prop} : CS6 197 av h Q = k197 av h Q := id rfl
theorem cs6_200 {av : List Int} {h : XH} {Q : Nat → List Int → XH → Prop} : CS6 200 av h Q = k200 av h Q := id rfl
theorem cs6_202 {av : List Int} {h : XH} {Q : Nat → List Int → XH → Prop} : CS6 202 av h Q = k202 av h Q := id rfl
theorem cs6_205 {av : List Int} {h : XH} {Q : Nat → List Int → XH → Prop} : CS6 205 av h Q = k205 av h Q := id rfl
theorem cs6_208 {av : List Int} {h : XH} {Q : Nat → List Int → XH → Prop} : CS6 208 av h Q = k208 av h Q := id rfl
theorem cs6_209 {av : List Int} {h : XH} {Q : Nat → List Int → XH → Prop} : CS6 209 av h Q = k209 av h Q := id rfl
theorem cs6_211 {av : List Int} {h : XH} {Q : Nat → List Int → XH → Prop} : CS6 211 av h Q = k211 av h Q := id rfl
theorem cs6_216 {av : List Int} {h : XH} {Q : Nat → List Int → XH → Prop} : CS6 216 av h Q = k216 av h Q := id rfl
theorem cs6_217 {av : List Int} {h : XH} {Q : Nat → List Int → XH → Prop} : CS6 217 av h Q = k217 av h Q := id rfl
theorem cs6_218 {av : List Int} {h : XH} {Q : Nat → List Int → XH → Prop} : CS6 218 av h Q = k218 av h Q := id rfl
theorem cs6_219 {av : List Int} {h : XH} {Q : Nat → List Int → XH → Prop} : CS6 219 av h Q = k219 av h Q := id rfl
theorem cs6_220 {av : List Int} {h : XH} {Q : Nat → List Int → XH → Prop} : CS6 220 av h Q = k220 av h Q := id rfl
theorem cs6_221 {av : List Int} {h : XH} {Q : Nat → List Int → XH → Prop} : CS6 221 av h Q = k221 av h Q := id rfl
theorem cs6_210 {av : List Int} {h : XH} {Q : Nat → List Int → XH → Prop} : CS6 210 av h Q = k210 av h Q := id rfl
theorem cs6_212 {av : List Int} {h : XH} {Q : Nat → List Int → XH → Prop} : CS6 212 av h Q = k212 av h Q := id rfl
theorem cs6_213 {av : List Int} {h : XH} {Q : Nat → List Int → XH → Prop} : CS6 213 av h Q = k213 av h Q := id rfl
theorem m_212 : BodyOK CS6 CS6 212 := fun av h Q hQ => by
  rw [cs6_212] at hQ
  unfold k212 kLN at hQ
  split at hQ
  · rename_i t
    obtain ⟨rfl, N, i, D, tk, st, lt, rd, hQ⟩ := hQ
    obtain ⟨e8, e7_w, hi_w⟩ := id st
    obtain ⟨⟨⟨c1_w, c2, c3, l1, l2, l3⟩, r1_w, r2, r3⟩, -⟩ := id rd
    show pS CS6 bb_212 [182, 0, 0, 0, 0] h _
    unfold bb_212
    simp only [qe_1, qe_3, qe_4, qe_5, qe_7, qe_72, qe_10, qe_102, qe_13, qe_14, qe_15, qe_16, qe_17, qe_18, qe_20, qe_22, qe_23, qe_21, qe_24, qe_25, qe_26, qe_27, qe_28, qe_30, qe_31, qe_32, qc_20, qc_22, qc_23, qc_21, qc_24, qc_25, qc_26, qc_27, qc_1, qc_3, qc_4, qc_7, qc_13, qc_28, qc_32, qs_1, qs_2, qs_3, qs_4, qs_5, qs_6, qs_9, qs_10, qs_11, qs_14, qs_15, qs_16, qs_27, qs_17, qs_18, qs_19, qs_20, qs_22, qs_23, qs_28, qs_25, qs_26, qs_7, qs_8, kc_1, kn_1, kc_2, kn_2, kc_3, kn_3, kc_4, kn_4, kc_5, kn_5, kc_6, kn_6, kc_7, kn_7, kc_8, kn_8, kc_9, kn_9, kc_10, kn_10, kc_11, kn_11, kc_12, kn_12, kc_13, kn_13, kc_14, kn_14, kc_15, kn_15, kc_16, kc_17, kc_18, kc_19, kc_20, kc_21, kc_22, kc_23, kc_30, kc_32, kc_40, kc_43, kc_45, kc_48, kc_52, kc_56, kc_57, kc_59, kc_60, kc_61, kc_63, kc_64, kc_72, kc_78, kc_97, kc_99, kc_122, kc_126, kc_128, kc_192, kc_200, kc_255, kc_999, kc_1000, kc_9999, kn_9999, kc_10000, kc_12345, kc_65536, kc_252645135, kc_858993459, kc_1103515245, kc_1431655765, kc_2147483647, kc_0, kc_24, kc_28, kc_37, kc_41, kc_42, kc_73, kc_91, kc_95, kc_96, kc_98, kc_100, kc_112, kc_125, kc_150, kc_162, kc_163, kc_168, kc_186, kc_190, kc_250, kc_355, kc_356, kc_404, kc_405, kc_429, kc_573, kc_1002, kc_1100, kc_1891, kc_2200, kc_4719, kc_4869, kc_4881, kc_5148, kc_19741, kc_25433, kc_320403, kc_628412, kc_629093, kc_660401, kc_679843, kc_918640, kc_979410, kc_1178088, kc_6232410, kc_24644941, kc_36238189, kc_38270444, kc_392531318, kc_425693491, kc_1342154595, kc_2147483648, kc_42328242873, kc_891704255789, kc_1722105685577, kc_1858726030364, ct_0, ct_1, ct_2, ct_3, ct_4, ct_5, cf_0, cf_1, cf_2, cf_3, cf_4, cf_5, w_ty6, w_ty7, m_sv, m_z0, m_hd, m_g0, m_gs, m_s0, m_ss, m_ap, m_an, forall_const, true_and, and_true, ne_eq, not_true_eq_false, not_false_eq_true, false_implies, true_implies, implies_true, eq_self, reduceCtorEq, Nat.reduceDiv, Nat.reduceMod, Int.reduceToNat, or_true, true_or, or_false, false_or, or_self, m_it, m_if, m_c1, m_01, m_02, m_03, m_04, m_10, m_12, m_13, m_14, m_20, m_21, m_23, m_24, m_30, m_31, m_32, m_34, m_40, m_41, m_42, m_43, Int.reduceLE, Int.reduceLT, Int.reduceGE, Int.reduceGT, Int.reduceNeg, Int.reduceAdd, Int.reduceSub, Int.reduceMul, Int.reduceEq, Int.reduceNe, Nat.reduceAdd, jun2, ro_0_0, ro_0_1, ro_0_2, ro_0_3, ro_0_4, ro_0_5, ro_0_6, ro_0_7, ro_0_8, ro_0_9, ro_0_10, ro_0_11, ro_0_12, ro_1_0, ro_1_1, ro_2_0, ro_4_0, ro_6_0, ro_6_1, ro_6_2, ro_6_3, ro_6_4, ro_6_5, ro_6_6, ro_6_7, ro_6_8, ro_8_0, ro_10_0, ro_12_0, ro_14_0, ro_16_0, ro_18_0, ro_20_0, ro_22_0, ro_22_1, ro_22_2, ro_23_0, ro_25_0, ro_27_0, ro_29_0, ro_29_1, ro_29_2, ro_29_3, ro_29_4, ro_29_5, ro_29_6, ro_29_7, ro_29_8, ro_31_0, ro_33_0, ro_35_0, ro_37_0, ro_39_0, ro_41_0, ro_43_0, ro_45_0, ro_45_1, ro_45_2, ro_46_0, ro_48_0, ro_50_0, ro_52_0, ro_52_1, ro_52_2, ro_52_3, ro_53_0, ro_55_0, ro_57_0, ro_59_0, ro_61_0, ro_61_1, ro_61_2, ro_61_3, ro_62_0, ro_64_0, ro_66_0, ro_68_0, ro_70_0, ro_70_1, ro_70_2, ro_70_3, ro_70_4, ro_70_5, ro_70_6, ro_70_7, ro_70_8, ro_70_9, ro_71_0, ro_73_0, ro_75_0, ro_77_0, ro_79_0, ro_81_0, ro_83_0, ro_85_0, ro_87_0, ro_89_0, ro_91_0, ro_91_1, ro_91_2, ro_91_3, ro_91_4, ro_91_5, ro_91_6, ro_91_7, ro_91_8, ro_91_9, ro_92_0, ro_94_0, ro_96_0, ro_98_0, ro_100_0, ro_102_0, ro_104_0, ro_106_0, ro_108_0, ro_110_0, ro_112_0, ro_112_1, ro_112_2, ro_112_3, ro_112_4, ro_112_5, ro_112_6, ro_112_7, ro_112_8, ro_112_9, ro_113_0, ro_115_0, ro_117_0, ro_119_0, ro_121_0, ro_123_0, ro_125_0, ro_127_0, ro_129_0, ro_131_0, ro_133_0, ro_133_1, ro_133_2, ro_133_3, ro_133_4, ro_133_5, ro_133_6, ro_133_7, ro_133_8, ro_133_9, ro_134_0, ro_136_0, ro_138_0, ro_140_0, ro_142_0, ro_144_0, ro_146_0, ro_148_0, ro_150_0, ro_152_0, ro_154_0, ro_155_0, ro_157_0, ro_157_1, ro_157_2, ro_157_3, ro_157_4, ro_157_5, ro_157_6, ro_157_7, ro_157_8, ro_157_9, ro_158_0, ro_160_0, ro_162_0, ro_164_0, ro_166_0, ro_168_0, ro_170_0, ro_172_0, ro_174_0, ro_176_0, ro_178_0, ro_180_0, ro_182_1, ro_182_4, ro_182_5, ro_182_6, ro_182_9, ro_182_10, ro_182_11, ro_182_13, ro_182_14, ro_182_15, ro_182_16, ro_182_17, ro_182_20, ro_182_21, ro_182_22, ro_182_23, ro_182_24, ro_182_26, ro_182_27, ro_182_28, lo_3, lo_5, lo_7, lo_9, lo_11, lo_13, lo_15, lo_17, lo_19, lo_21, lo_24, lo_26, lo_28, lo_30, lo_32, lo_34, lo_36, lo_38, lo_40, lo_42, lo_44, lo_47, lo_49, lo_51, lo_54, lo_56, lo_58, lo_60, lo_63, lo_65, lo_67, lo_69, lo_72, lo_74, lo_76, lo_78, lo_80, lo_82, lo_84, lo_86, lo_88, lo_90, lo_93, lo_95, lo_97, lo_99, lo_101, lo_103, lo_105, lo_107, lo_109, lo_111, lo_114, lo_116, lo_118, lo_120, lo_122, lo_124, lo_126, lo_128, lo_130, lo_132, lo_135, lo_137, lo_139, lo_141, lo_143, lo_145, lo_147, lo_149, lo_151, lo_153, lo_156, lo_159, lo_161, lo_163, lo_165, lo_167, lo_169, lo_171, lo_173, lo_175, lo_177, lo_179, lo_181, lo_183, lo_184, lo_185, lo_186, lo_187, lo_188, lo_189, lo_190, lo_191, lo_192, lo_193, lo_194, lo_195, lo_196, lo_197, lo_198, lo_199, lo_200, lo_201, lo_202, lo_203, jp_nn, jp_eq, jp_e1, Classical.not_not, ji0, ji1, ji2, cs6_54, kk_54, cs6_55, kk_55, cs6_68, kk_68, cs6_69, kk_69, cs6_70, kk_70, cs6_71, kk_71, cs6_72, kk_72, cs6_73, kk_73, cs6_74, kk_74, cs6_75, kk_75, cs6_186, kk_186, cs6_187, kk_187, cs6_188, kk_188, cs6_189, kk_189, cs6_191, kk_191, cs6_192, kk_192, cs6_193, kk_193, cs6_198, kk_198, cs6_207, kk_207, cs6_195, kk_195, cs6_196, kk_196, cs6_201, kk_201, cs6_203, kk_203, cs6_204, kk_204, cs6_194, kk_194, cs6_197, kk_197, cs6_200, kk_200, cs6_202, kk_202, cs6_205, kk_205, cs6_208, kk_208, cs6_209, kk_209, cs6_211, kk_211, cs6_216, kk_216, cs6_217, kk_217, cs6_218, kk_218, cs6_219, kk_219, cs6_220, kk_220, cs6_221, kk_221, cs6_210, kk_210, cs6_212, kk_212, cs6_213, kk_213, jl_0, jl_1, jl_2, jl_3, jl_4, jl_5, jl_6, jl_7, jl_8, jl_9, jl_10, jl_11, jl_12, jl_13, jl_14, jl_15, jl_16, jl_17, jl_18, jl_19, jl_20, jl_21, jl_22, jl_23, jl_24, jl_25, jl_26, jl_27, jl_28, jl_29, jl_30, jl_31, jl_32, jl_33, jl_34, jl_35, jl_36, jl_37, jl_38, jl_39, jl_40, jl_95, jl_96, jl_97, jl_98, jl_99, jl_100, jl_101, jl_102, jl_103, jl_104, jl_105, jl_106, jl_107, jl_108, jl_109, jl_110, jl_111, jl_112, jl_113, jl_114, jl_186, jl_1100, jr, ju, jpT, jpF, tnc, Nat.reduceEqDiff, reduceIte, and_false, false_and, not_true_eq_false, not_false_eq_true, or_false, gt_iff_lt, ge_iff_le, Int.lt_irrefl, Int.le_refl, c1_w]
    refine ⟨⟨by omega, by omega⟩, N, i, D, tk, st, lt, rd.1, fun h1 f1_w g1 st1_w nm1 => ?_⟩
    have F1_w : Fr ([7, 8, 12], [188, 189, 190]) h h1 := Fr.sub (by decide) f1_w
    refine ⟨N, _, tk.fr F1_w rfl rfl rfl, st1_w, fun h2 f2_w st2_w => ?_⟩
    have F2 : Fr ([7, 8, 12], [188, 189, 190]) h h2 := Fr.tr F1_w (Fr.sub (by decide) f2_w)
    refine ⟨N, _, tk.fr F2 rfl rfl rfl, st2_w, fun r3' h3 f3_w st3_w v3 => ?_⟩
    have F3 : Fr ([7, 8, 12], [188, 189, 190]) h h3 := Fr.tr F2 (Fr.sub (by decide) f3_w)
    refine ⟨N, _, tk.fr F3 rfl rfl rfl, st3_w, fun h4 f4_w st4_w => ?_⟩
    have F4 : Fr ([7, 8, 12], [188, 189, 190]) h h4 := Fr.tr F3 (Fr.sub (by decide) f4_w)
    have rows : ∀ h', Fr ([7, 8, 12], [188, 189, 190]) h h' → h' 184 = h 184 ∧ h' 185 = h 185 ∧ h' 186 = h 186 ∧ h' 187 = h 187 := fun h' F => ⟨F.row rfl (by decide), F.row rfl (by decide), F.row rfl (by decide), F.row rfl (by decide)⟩
    obtain ⟨p14_w, p15, p16, p17⟩ := rows h1 F1_w
    obtain ⟨p24, p25_w, p26, p27⟩ := rows h2 F2
    obtain ⟨p34, p35_w, p36, p37⟩ := rows h3 F3
    rw [p14_w, p15, p16, p17, p24, p25_w, p26, p34, p35_w, p36, p37] at st4_w
    rw [p14_w, p15, p16, p17, p24, p25_w, p26] at v3
    have tk4 : TK N h4 := tk.fr F4 rfl rfl rfl
    obtain ⟨p44, p45, p46, p47⟩ := rows h4 F4
    have k1_w : ∀ q : Nat, h4 188 q = h 188 q := fun q => by
      rw [f4_w 188 q (fun z => absurd z (by decide)) rfl, f3_w 188 q (fun z => absurd z (by decide)) rfl, f2_w 188 q (fun z => absurd z (by decide)) rfl, f1_w 188 q (fun z => absurd z (by decide)) rfl]
    have k2 : ∀ q : Nat, h4 189 q = h 189 q := fun q => by
      rw [f4_w 189 q (fun z => absurd z (by decide)) rfl, f3_w 189 q (fun z => absurd z (by decide)) rfl, f2_w 189 q (fun z => absurd z (by decide)) rfl, f1_w 189 q (fun z => absurd z (by decide)) rfl]
    have k3 : ∀ q : Nat, h4 190 q = h1 190 q := fun q => by
      rw [f4_w 190 q (fun z => absurd z (by decide)) rfl, f3_w 190 q (fun z => absurd z (by decide)) rfl, f2_w 190 q (fun z => absurd z (by decide)) rfl]
    have k12 : h4 182 12 = h 182 12 := by
      rw [f4_w 182 12 (fun _ => rfl) rfl, f3_w 182 12 (fun _ => rfl) rfl, f2_w 182 12 (fun _ => rfl) rfl, f1_w 182 12 (fun _ => rfl) rfl]
    have kf4 : KF h h4 := ⟨fun q _ => k1_w q, fun q _ => k2 q, fun q hq => (k3 q).trans (g1 q (by omega))⟩
    -- the spec_w, cut_w where the row begins
    have key_w : ∃ y : XZ ((Int × Int) × Nat), eB (nx (eB (eB (nx (sNm (h 184) (h 185) (h 186) (h 187) D (D.2.2.1.length : Int) 4 i)) (sWrd (h 184) (h 185) (h 186) (h 187) 3)) (sNum (h 184) (h 185) (h 186) 0 999))) (sWrd (h 184) (h 185) (h 186) (h 187) 4) = nx y ∧ sClass (h 184) (h 185) (h 186) (h 187) D i = eB y (fun c => eB (sRow (h 184) (h 185) (h 186) 99 14 [] c.2) fun r => .ok ((D.1, D.2.1, D.2.2.1 ++ [(c.1.1, c.1.2, r.1)], D.2.2.2), r.2)) ∧
        ∀ v loss j, y = .ok ((v, loss), j) → (∃ j1, sNm (h 184) (h 185) (h 186) (h 187) D (D.2.2.1.length : Int) 4 i = .ok (v, j1)) ∧ (∃ j3_w, eB (eB (nx (sNm (h 184) (h 185) (h 186) (h 187) D (D.2.2.1.length : Int) 4 i)) (sWrd (h 184) (h 185) (h 186) (h 187) 3)) (sNum (h 184) (h 185) (h 186) 0 999) = .ok (loss, j3_w)) ∧ D.2.2.1.length < 4 := by
      have e0 : sClass (h 184) (h 185) (h 186) (h 187) D i = eB (sNm (h 184) (h 185) (h 186) (h 187) D (D.2.2.1.length : Int) 4 i) fun a => eB (sWrd (h 184) (h 185) (h 186) (h 187) 3 a.2) fun j => eB (sNum (h 184) (h 185) (h 186) 0 999 j) fun b => eB (sWrd (h 184) (h 185) (h 186) (h 187) 4 b.2) fun j2_w => eB (sRow (h 184) (h 185) (h 186) 99 14 [] j2_w) fun r => .ok ((D.1, D.2.1, D.2.2.1 ++ [(a.1, b.1, r.1)], D.2.2.2), r.2) := by
        unfold sClass sNm
        by_cases z : D.2.2.1.length = 4
        · rw [if_pos z, if_pos (by omega)]
          rfl
        · rw [if_neg z, if_neg (by omega)]
      have e1_w : D.2.2.1.length = 4 → ∃ f, sNm (h 184) (h 185) (h 186) (h 187) D (D.2.2.1.length : Int) 4 i = .error f := fun z => by
        unfold sNm
        rw [if_pos (by omega)]
        exact ⟨_, rfl⟩
      rw [e0]
      match hy : sNm (h 184) (h 185) (h 186) (h 187) D (D.2.2.1.length : Int) 4 i with
      | .error f => exact ⟨.error f, rfl, rfl, fun _ _ _ z => by cases z⟩
      | .ok (v, j1) =>
        have n4_w : D.2.2.1.length < 4 := by
          have : D.2.2.1.length ≠ 4 := fun z => by
            obtain ⟨f, e2_w⟩ := e1_w z
            rw [hy] at e2_w
            cases e2_w
          omega
        show ∃ y : XZ ((Int × Int) × Nat), eB (nx (eB (sWrd (h 184) (h 185) (h 186) (h 187) 3 j1) (sNum (h 184) (h 185) (h 186) 0 999))) (sWrd (h 184) (h 185) (h 186) (h 187) 4) = nx y ∧ (eB (sWrd (h 184) (h 185) (h 186) (h 187) 3 j1) fun j => eB (sNum (h 184) (h 185) (h 186) 0 999 j) fun b => eB (sWrd (h 184) (h 185) (h 186) (h 187) 4 b.2) fun j2_w => eB (sRow (h 184) (h 185) (h 186) 99 14 [] j2_w) fun r => .ok ((D.1, D.2.1, D.2.2.1 ++ [(v, b.1, r.1)], D.2.2.2), r.2)) = _ ∧ ∀ v' loss j, y = .ok ((v', loss), j) → (∃ j1', (Except.ok (v, j1) : XZ (Int × Nat)) = .ok (v', j1')) ∧ (∃ j3_w, eB (sWrd (h 184) (h 185) (h 186) (h 187) 3 j1) (sNum (h 184) (h 185) (h 186) 0 999) = .ok (loss, j3_w)) ∧ D.2.2.1.length < 4
        match sWrd (h 184) (h 185) (h 186) (h 187) 3 j1 with
        | .error f => exact ⟨.error f, rfl, rfl, fun _ _ _ z => by cases z⟩
        | .ok j2_w =>
          show ∃ y : XZ ((Int × Int) × Nat), eB (nx (sNum (h 184) (h 185) (h 186) 0 999 j2_w)) (sWrd (h 184) (h 185) (h 186) (h 187) 4) = nx y ∧ (eB (sNum (h 184) (h 185) (h 186) 0 999 j2_w) fun b => eB (sWrd (h 184) (h 185) (h 186) (h 187) 4 b.2) fun j2_w => eB (sRow (h 184) (h 185) (h 186) 99 14 [] j2_w) fun r => .ok ((D.1, D.2.1, D.2.2.1 ++ [(v, b.1, r.1)], D.2.2.2), r.2)) = _ ∧ ∀ v' loss j, y = .ok ((v', loss), j) → (∃ j1', (Except.ok (v, j1) : XZ (Int × Nat)) = .ok (v', j1')) ∧ (∃ j3_w, sNum (h 184) (h 185) (h 186) 0 999 j2_w = .ok (loss, j3_w)) ∧ D.2.2.1.length < 4
          match sNum (h 184) (h 185) (h 186) 0 999 j2_w with
          | .error f => exact ⟨.error f, rfl, rfl, fun _ _ _ z => by cases z⟩
          | .ok (b, j3_w) =>
            show ∃ y : XZ ((Int × Int) × Nat), sWrd (h 184) (h 185) (h 186) (h 187) 4 j3_w = nx y ∧ (eB (sWrd (h 184) (h 185) (h 186) (h 187) 4 j3_w) fun j2_w => eB (sRow (h 184) (h 185) (h 186) 99 14 [] j2_w) fun r => .ok ((D.1, D.2.1, D.2.2.1 ++ [(v, b, r.1)], D.2.2.2), r.2)) = _ ∧ ∀ v' loss j, y = .ok ((v', loss), j) → (∃ j1', (Except.ok (v, j1) : XZ (Int × Nat)) = .ok (v', j1')) ∧ (∃ j3', (Except.ok (b, j3_w) : XZ (Int × Nat)) = .ok (loss, j3')) ∧ D.2.2.1.length < 4
            match sWrd (h 184) (h 185) (h 186) (h 187) 4 j3_w with
            | .error f => exact ⟨.error f, rfl, rfl, fun _ _ _ z => by cases z⟩
            | .ok j4_w => exact ⟨.ok ((v, b), j4_w), rfl, rfl, fun _ _ _ z => by cases z; exact ⟨⟨_, rfl⟩, ⟨_, rfl⟩, n4_w⟩⟩
    obtain ⟨y, ky, ks_w, kv⟩ := key_w
    rw [ky] at st4_w
    rw [ks_w] at hQ
    match y, st4_w, hQ, kv with
    | .error f, st4_w, hQ, _ =>
      have g2 : ¬ h4 182 8 = 0 := by have := st4_w.1; have := st4_w.2; omega
      have g3_w : 0 < h4 182 8 := by have := st4_w.1; have := st4_w.2; omega
      have g4 : ¬ h4 182 8 ≤ 0 := by omega
      simp only [qe_1, qe_3, qe_4, qe_5, qe_7, qe_72, qe_10, qe_102, qe_13, qe_14, qe_15, qe_16, qe_17, qe_18, qe_20, qe_22, qe_23, qe_21, qe_24, qe_25, qe_26, qe_27, qe_28, qe_30, qe_31, qe_32, qc_20, qc_22, qc_23, qc_21, qc_24, qc_25, qc_26, qc_27, qc_1, qc_3, qc_4, qc_7, qc_13, qc_28, qc_32, qs_1, qs_2, qs_3, qs_4, qs_5, qs_6, qs_9, qs_10, qs_11, qs_14, qs_15, qs_16, qs_27, qs_17, qs_18, qs_19, qs_20, qs_22, qs_23, qs_28, qs_25, qs_26, qs_7, qs_8, kc_1, kn_1, kc_2, kn_2, kc_3, kn_3, kc_4, kn_4, kc_5, kn_5, kc_6, kn_6, kc_7, kn_7, kc_8, kn_8, kc_9, kn_9, kc_10, kn_10, kc_11, kn_11, kc_12, kn_12, kc_13, kn_13, kc_14, kn_14, kc_15, kn_15, kc_16, kc_17, kc_18, kc_19, kc_20, kc_21, kc_22, kc_23, kc_30, kc_32, kc_40, kc_43, kc_45, kc_48, kc_52, kc_56, kc_57, kc_59, kc_60, kc_61, kc_63, kc_64, kc_72, kc_78, kc_97, kc_99, kc_122, kc_126, kc_128, kc_192, kc_200, kc_255, kc_999, kc_1000, kc_9999, kn_9999, kc_10000, kc_12345, kc_65536, kc_252645135, kc_858993459, kc_1103515245, kc_1431655765, kc_2147483647, kc_0, kc_24, kc_28, kc_37, kc_41, kc_42, kc_73, kc_91, kc_95, kc_96, kc_98, kc_100, kc_112, kc_125, kc_150, kc_162, kc_163, kc_168, kc_186, kc_190, kc_250, kc_355, kc_356, kc_404, kc_405, kc_429, kc_573, kc_1002, kc_1100, kc_1891, kc_2200, kc_4719, kc_4869, kc_4881, kc_5148, kc_19741, kc_25433, kc_320403, kc_628412, kc_629093, kc_660401, kc_679843, kc_918640, kc_979410, kc_1178088, kc_6232410, kc_24644941, kc_36238189, kc_38270444, kc_392531318, kc_425693491, kc_1342154595, kc_2147483648, kc_42328242873, kc_891704255789, kc_1722105685577, kc_1858726030364, ct_0, ct_1, ct_2, ct_3, ct_4, ct_5, cf_0, cf_1, cf_2, cf_3, cf_4, cf_5, w_ty6, w_ty7, m_sv, m_z0, m_hd, m_g0, m_gs, m_s0, m_ss, m_ap, m_an, forall_const, true_and, and_true, ne_eq, not_true_eq_false, not_false_eq_true, false_implies, true_implies, implies_true, eq_self, reduceCtorEq, Nat.reduceDiv, Nat.reduceMod, Int.reduceToNat, or_true, true_or, or_false, false_or, or_self, m_it, m_if, m_c1, m_01, m_02, m_03, m_04, m_10, m_12, m_13, m_14, m_20, m_21, m_23, m_24, m_30, m_31, m_32, m_34, m_40, m_41, m_42, m_43, Int.reduceLE, Int.reduceLT, Int.reduceGE, Int.reduceGT, Int.reduceNeg, Int.reduceAdd, Int.reduceSub, Int.reduceMul, Int.reduceEq, Int.reduceNe, Nat.reduceAdd, jun2, ro_0_0, ro_0_1, ro_0_2, ro_0_3, ro_0_4, ro_0_5, ro_0_6, ro_0_7, ro_0_8, ro_0_9, ro_0_10, ro_0_11, ro_0_12, ro_1_0, ro_1_1, ro_2_0, ro_4_0, ro_6_0, ro_6_1, ro_6_2, ro_6_3, ro_6_4, ro_6_5, ro_6_6, ro_6_7, ro_6_8, ro_8_0, ro_10_0, ro_12_0, ro_14_0, ro_16_0, ro_18_0, ro_20_0, ro_22_0, ro_22_1, ro_22_2, ro_23_0, ro_25_0, ro_27_0, ro_29_0, ro_29_1, ro_29_2, ro_29_3, ro_29_4, ro_29_5, ro_29_6, ro_29_7, ro_29_8, ro_31_0, ro_33_0, ro_35_0, ro_37_0, ro_39_0, ro_41_0, ro_43_0, ro_45_0, ro_45_1, ro_45_2, ro_46_0, ro_48_0, ro_50_0, ro_52_0, ro_52_1, ro_52_2, ro_52_3, ro_53_0, ro_55_0, ro_57_0, ro_59_0, ro_61_0, ro_61_1, ro_61_2, ro_61_3, ro_62_0, ro_64_0, ro_66_0, ro_68_0, ro_70_0, ro_70_1, ro_70_2, ro_70_3, ro_70_4, ro_70_5, ro_70_6, ro_70_7, ro_70_8, ro_70_9, ro_71_0, ro_73_0, ro_75_0, ro_77_0, ro_79_0, ro_81_0, ro_83_0, ro_85_0, ro_87_0, ro_89_0, ro_91_0, ro_91_1, ro_91_2, ro_91_3, ro_91_4, ro_91_5, ro_91_6, ro_91_7, ro_91_8, ro_91_9, ro_92_0, ro_94_0, ro_96_0, ro_98_0, ro_100_0, ro_102_0, ro_104_0, ro_106_0, ro_108_0, ro_110_0, ro_112_0, ro_112_1, ro_112_2, ro_112_3, ro_112_4, ro_112_5, ro_112_6, ro_112_7, ro_112_8, ro_112_9, ro_113_0, ro_115_0, ro_117_0, ro_119_0, ro_121_0, ro_123_0, ro_125_0, ro_127_0, ro_129_0, ro_131_0, ro_133_0, ro_133_1, ro_133_2, ro_133_3, ro_133_4, ro_133_5, ro_133_6, ro_133_7, ro_133_8, ro_133_9, ro_134_0, ro_136_0, ro_138_0, ro_140_0, ro_142_0, ro_144_0, ro_146_0, ro_148_0, ro_150_0, ro_152_0, ro_154_0, ro_155_0, ro_157_0, ro_157_1, ro_157_2, ro_157_3, ro_157_4, ro_157_5, ro_157_6, ro_157_7, ro_157_8, ro_157_9, ro_158_0, ro_160_0, ro_162_0, ro_164_0, ro_166_0, ro_168_0, ro_170_0, ro_172_0, ro_174_0, ro_176_0, ro_178_0, ro_180_0, ro_182_1, ro_182_4, ro_182_5, ro_182_6, ro_182_9, ro_182_10, ro_182_11, ro_182_13, ro_182_14, ro_182_15, ro_182_16, ro_182_17, ro_182_20, ro_182_21, ro_182_22, ro_182_23, ro_182_24, ro_182_26, ro_182_27, ro_182_28, lo_3, lo_5, lo_7, lo_9, lo_11, lo_13, lo_15, lo_17, lo_19, lo_21, lo_24, lo_26, lo_28, lo_30, lo_32, lo_34, lo_36, lo_38, lo_40, lo_42, lo_44, lo_47, lo_49, lo_51, lo_54, lo_56, lo_58, lo_60, lo_63, lo_65, lo_67, lo_69, lo_72, lo_74, lo_76, lo_78, lo_80, lo_82, lo_84, lo_86, lo_88, lo_90, lo_93, lo_95, lo_97, lo_99, lo_101, lo_103, lo_105, lo_107, lo_109, lo_111, lo_114, lo_116, lo_118, lo_120, lo_122, lo_124, lo_126, lo_128, lo_130, lo_132, lo_135, lo_137, lo_139, lo_141, lo_143, lo_145, lo_147, lo_149, lo_151, lo_153, lo_156, lo_159, lo_161, lo_163, lo_165, lo_167, lo_169, lo_171, lo_173, lo_175, lo_177, lo_179, lo_181, lo_183, lo_184, lo_185, lo_186, lo_187, lo_188, lo_189, lo_190, lo_191, lo_192, lo_193, lo_194, lo_195, lo_196, lo_197, lo_198, lo_199, lo_200, lo_201, lo_202, lo_203, jp_nn, jp_eq, jp_e1, Classical.not_not, ji0, ji1, ji2, cs6_54, kk_54, cs6_55, kk_55, cs6_68, kk_68, cs6_69, kk_69, cs6_70, kk_70, cs6_71, kk_71, cs6_72, kk_72, cs6_73, kk_73, cs6_74, kk_74, cs6_75, kk_75, cs6_186, kk_186, cs6_187, kk_187, cs6_188, kk_188, cs6_189, kk_189, cs6_191, kk_191, cs6_192, kk_192, cs6_193, kk_193, cs6_198, kk_198, cs6_207, kk_207, cs6_195, kk_195, cs6_196, kk_196, cs6_201, kk_201, cs6_203, kk_203, cs6_204, kk_204, cs6_194, kk_194, cs6_197, kk_197, cs6_200, kk_200, cs6_202, kk_202, cs6_205, kk_205, cs6_208, kk_208, cs6_209, kk_209, cs6_211, kk_211, cs6_216, kk_216, cs6_217, kk_217, cs6_218, kk_218, cs6_219, kk_219, cs6_220, kk_220, cs6_221, kk_221, cs6_210, kk_210, cs6_212, kk_212, cs6_213, kk_213, jl_0, jl_1, jl_2, jl_3, jl_4, jl_5, jl_6, jl_7, jl_8, jl_9, jl_10, jl_11, jl_12, jl_13, jl_14, jl_15, jl_16, jl_17, jl_18, jl_19, jl_20, jl_21, jl_22, jl_23, jl_24, jl_25, jl_26, jl_27, jl_28, jl_29, jl_30, jl_31, jl_32, jl_33, jl_34, jl_35, jl_36, jl_37, jl_38, jl_39, jl_40, jl_95, jl_96, jl_97, jl_98, jl_99, jl_100, jl_101, jl_102, jl_103, jl_104, jl_105, jl_106, jl_107, jl_108, jl_109, jl_110, jl_111, jl_112, jl_113, jl_114, jl_186, jl_1100, jr, ju, jpT, jpF, tnc, Nat.reduceEqDiff, reduceIte, and_false, false_and, not_true_eq_false, not_false_eq_true, or_false, gt_iff_lt, ge_iff_le, Int.lt_irrefl, Int.le_refl, g2, g3_w, g4]
      exact hQ _ F4 kf4 st4_w (fun _ _ z => by cases z)
    | .ok ((v, loss), j4_w), st4_w, hQ, kv =>
      obtain ⟨⟨j1, hv⟩, ⟨j3_w, hl⟩, n4_w⟩ := kv v loss j4_w rfl
      have el := v3 loss j3_w hl
      subst el
      have nm := nm1 v j1 hv
      obtain ⟨x8, x7, xj⟩ := id st4_w
      have x7' : h4 182 7 = (j4_w : Int) := x7
      have ei : j32 (112 + j32 (14 * (D.2.2.1.length : Int))) = ((112 + 14 * D.2.2.1.length : Nat) : Int) := by
        rw [j32_id (x := 14 * (D.2.2.1.length : Int)) (by omega) (by omega), j32_id (by omega) (by omega)]
        omega
      have ei1 : j32 (((112 + 14 * D.2.2.1.length : Nat) : Int) + 1) = ((113 + 14 * D.2.2.1.length : Nat) : Int) := by
        rw [j32_id (by omega) (by omega)]
        omega
      have ei2 : j32 (((112 + 14 * D.2.2.1.length : Nat) : Int) + 2) = ((114 + 14 * D.2.2.1.length : Nat) : Int) := by
        rw [j32_id (by omega) (by omega)]
        omega
      have d1_w : ¬ 96 = 113 + 14 * D.2.2.1.length := by omega
      have d2_w : ¬ 96 = 112 + 14 * D.2.2.1.length := by omega
      simp only [qe_1, qe_3, qe_4, qe_5, qe_7, qe_72, qe_10, qe_102, qe_13, qe_14, qe_15, qe_16, qe_17, qe_18, qe_20, qe_22, qe_23, qe_21, qe_24, qe_25, qe_26, qe_27, qe_28, qe_30, qe_31, qe_32, qc_20, qc_22, qc_23, qc_21, qc_24, qc_25, qc_26, qc_27, qc_1, qc_3, qc_4, qc_7, qc_13, qc_28, qc_32, qs_1, qs_2, qs_3, qs_4, qs_5, qs_6, qs_9, qs_10, qs_11, qs_14, qs_15, qs_16, qs_27, qs_17, qs_18, qs_19, qs_20, qs_22, qs_23, qs_28, qs_25, qs_26, qs_7, qs_8, kc_1, kn_1, kc_2, kn_2, kc_3, kn_3, kc_4, kn_4, kc_5, kn_5, kc_6, kn_6, kc_7, kn_7, kc_8, kn_8, kc_9, kn_9, kc_10, kn_10, kc_11, kn_11, kc_12, kn_12, kc_13, kn_13, kc_14, kn_14, kc_15, kn_15, kc_16, kc_17, kc_18, kc_19, kc_20, kc_21, kc_22, kc_23, kc_30, kc_32, kc_40, kc_43, kc_45, kc_48, kc_52, kc_56, kc_57, kc_59, kc_60, kc_61, kc_63, kc_64, kc_72, kc_78, kc_97, kc_99, kc_122, kc_126, kc_128, kc_192, kc_200, kc_255, kc_999, kc_1000, kc_9999, kn_9999, kc_10000, kc_12345, kc_65536, kc_252645135, kc_858993459, kc_1103515245, kc_1431655765, kc_2147483647, kc_0, kc_24, kc_28, kc_37, kc_41, kc_42, kc_73, kc_91, kc_95, kc_96, kc_98, kc_100, kc_112, kc_125, kc_150, kc_162, kc_163, kc_168, kc_186, kc_190, kc_250, kc_355, kc_356, kc_404, kc_405, kc_429, kc_573, kc_1002, kc_1100, kc_1891, kc_2200, kc_4719, kc_4869, kc_4881, kc_5148, kc_19741, kc_25433, kc_320403, kc_628412, kc_629093, kc_660401, kc_679843, kc_918640, kc_979410, kc_1178088, kc_6232410, kc_24644941, kc_36238189, kc_38270444, kc_392531318, kc_425693491, kc_1342154595, kc_2147483648, kc_42328242873, kc_891704255789, kc_1722105685577, kc_1858726030364, ct_0, ct_1, ct_2, ct_3, ct_4, ct_5, cf_0, cf_1, cf_2, cf_3, cf_4, cf_5, w_ty6, w_ty7, m_sv, m_z0, m_hd, m_g0, m_gs, m_s0, m_ss, m_ap, m_an, forall_const, true_and, and_true, ne_eq, not_true_eq_false, not_false_eq_true, false_implies, true_implies, implies_true, eq_self, reduceCtorEq, Nat.reduceDiv, Nat.reduceMod, Int.reduceToNat, or_true, true_or, or_false, false_or, or_self, m_it, m_if, m_c1, m_01, m_02, m_03, m_04, m_10, m_12, m_13, m_14, m_20, m_21, m_23, m_24, m_30, m_31, m_32, m_34, m_40, m_41, m_42, m_43, Int.reduceLE, Int.reduceLT, Int.reduceGE, Int.reduceGT, Int.reduceNeg, Int.reduceAdd, Int.reduceSub, Int.reduceMul, Int.reduceEq, Int.reduceNe, Nat.reduceAdd, jun2, ro_0_0, ro_0_1, ro_0_2, ro_0_3, ro_0_4, ro_0_5, ro_0_6, ro_0_7, ro_0_8, ro_0_9, ro_0_10, ro_0_11, ro_0_12, ro_1_0, ro_1_1, ro_2_0, ro_4_0, ro_6_0, ro_6_1, ro_6_2, ro_6_3, ro_6_4, ro_6_5, ro_6_6, ro_6_7, ro_6_8, ro_8_0, ro_10_0, ro_12_0, ro_14_0, ro_16_0, ro_18_0, ro_20_0, ro_22_0, ro_22_1, ro_22_2, ro_23_0, ro_25_0, ro_27_0, ro_29_0, ro_29_1, ro_29_2, ro_29_3, ro_29_4, ro_29_5, ro_29_6, ro_29_7, ro_29_8, ro_31_0, ro_33_0, ro_35_0, ro_37_0, ro_39_0, ro_41_0, ro_43_0, ro_45_0, ro_45_1, ro_45_2, ro_46_0, ro_48_0, ro_50_0, ro_52_0, ro_52_1, ro_52_2, ro_52_3, ro_53_0, ro_55_0, ro_57_0, ro_59_0, ro_61_0, ro_61_1, ro_61_2, ro_61_3, ro_62_0, ro_64_0, ro_66_0, ro_68_0, ro_70_0, ro_70_1, ro_70_2, ro_70_3, ro_70_4, ro_70_5, ro_70_6, ro_70_7, ro_70_8, ro_70_9, ro_71_0, ro_73_0, ro_75_0, ro_77_0, ro_79_0, ro_81_0, ro_83_0, ro_85_0, ro_87_0, ro_89_0, ro_91_0, ro_91_1, ro_91_2, ro_91_3, ro_91_4, ro_91_5, ro_91_6, ro_91_7, ro_91_8, ro_91_9, ro_92_0, ro_94_0, ro_96_0, ro_98_0, ro_100_0, ro_102_0, ro_104_0, ro_106_0, ro_108_0, ro_110_0, ro_112_0, ro_112_1, ro_112_2, ro_112_3, ro_112_4, ro_112_5, ro_112_6, ro_112_7, ro_112_8, ro_112_9, ro_113_0, ro_115_0, ro_117_0, ro_119_0, ro_121_0, ro_123_0, ro_125_0, ro_127_0, ro_129_0, ro_131_0, ro_133_0, ro_133_1, ro_133_2, ro_133_3, ro_133_4, ro_133_5, ro_133_6, ro_133_7, ro_133_8, ro_133_9, ro_134_0, ro_136_0, ro_138_0, ro_140_0, ro_142_0, ro_144_0, ro_146_0, ro_148_0, ro_150_0, ro_152_0, ro_154_0, ro_155_0, ro_157_0, ro_157_1, ro_157_2, ro_157_3, ro_157_4, ro_157_5, ro_157_6, ro_157_7, ro_157_8, ro_157_9, ro_158_0, ro_160_0, ro_162_0, ro_164_0, ro_166_0, ro_168_0, ro_170_0, ro_172_0, ro_174_0, ro_176_0, ro_178_0, ro_180_0, ro_182_1, ro_182_4, ro_182_5, ro_182_6, ro_182_9, ro_182_10, ro_182_11, ro_182_13, ro_182_14, ro_182_15, ro_182_16, ro_182_17, ro_182_20, ro_182_21, ro_182_22, ro_182_23, ro_182_24, ro_182_26, ro_182_27, ro_182_28, lo_3, lo_5, lo_7, lo_9, lo_11, lo_13, lo_15, lo_17, lo_19, lo_21, lo_24, lo_26, lo_28, lo_30, lo_32, lo_34, lo_36, lo_38, lo_40, lo_42, lo_44, lo_47, lo_49, lo_51, lo_54, lo_56, lo_58, lo_60, lo_63, lo_65, lo_67, lo_69, lo_72, lo_74, lo_76, lo_78, lo_80, lo_82, lo_84, lo_86, lo_88, lo_90, lo_93, lo_95, lo_97, lo_99, lo_101, lo_103, lo_105, lo_107, lo_109, lo_111, lo_114, lo_116, lo_118, lo_120, lo_122, lo_124, lo_126, lo_128, lo_130, lo_132, lo_135, lo_137, lo_139, lo_141, lo_143, lo_145, lo_147, lo_149, lo_151, lo_153, lo_156, lo_159, lo_161, lo_163, lo_165, lo_167, lo_169, lo_171, lo_173, lo_175, lo_177, lo_179, lo_181, lo_183, lo_184, lo_185, lo_186, lo_187, lo_188, lo_189, lo_190, lo_191, lo_192, lo_193, lo_194, lo_195, lo_196, lo_197, lo_198, lo_199, lo_200, lo_201, lo_202, lo_203, jp_nn, jp_eq, jp_e1, Classical.not_not, ji0, ji1, ji2, cs6_54, kk_54, cs6_55, kk_55, cs6_68, kk_68, cs6_69, kk_69, cs6_70, kk_70, cs6_71, kk_71, cs6_72, kk_72, cs6_73, kk_73, cs6_74, kk_74, cs6_75, kk_75, cs6_186, kk_186, cs6_187, kk_187, cs6_188, kk_188, cs6_189, kk_189, cs6_191, kk_191, cs6_192, kk_192, cs6_193, kk_193, cs6_198, kk_198, cs6_207, kk_207, cs6_195, kk_195, cs6_196, kk_196, cs6_201, kk_201, cs6_203, kk_203, cs6_204, kk_204, cs6_194, kk_194, cs6_197, kk_197, cs6_200, kk_200, cs6_202, kk_202, cs6_205, kk_205, cs6_208, kk_208, cs6_209, kk_209, cs6_211, kk_211, cs6_216, kk_216, cs6_217, kk_217, cs6_218, kk_218, cs6_219, kk_219, cs6_220, kk_220, cs6_221, kk_221, cs6_210, kk_210, cs6_212, kk_212, cs6_213, kk_213, jl_0, jl_1, jl_2, jl_3, jl_4, jl_5, jl_6, jl_7, jl_8, jl_9, jl_10, jl_11, jl_12, jl_13, jl_14, jl_15, jl_16, jl_17, jl_18, jl_19, jl_20, jl_21, jl_22, jl_23, jl_24, jl_25, jl_26, jl_27, jl_28, jl_29, jl_30, jl_31, jl_32, jl_33, jl_34, jl_35, jl_36, jl_37, jl_38, jl_39, jl_40, jl_95, jl_96, jl_97, jl_98, jl_99, jl_100, jl_101, jl_102, jl_103, jl_104, jl_105, jl_106, jl_107, jl_108, jl_109, jl_110, jl_111, jl_112, jl_113, jl_114, jl_186, jl_1100, jr, ju, jpT, jpF, tnc, Nat.reduceEqDiff, reduceIte, and_false, false_and, not_true_eq_false, not_false_eq_true, or_false, gt_iff_lt, ge_iff_le, Int.lt_irrefl, Int.le_refl, x8, ei, ei1, ei2, d1_w, d2_w]
      refine ⟨⟨by omega, by omega⟩, N, j4_w, tk4, ⟨x8, x7', xj⟩, fun r h5 f5_w st5_w lo5 v5 => ?_⟩
      rw [p44, p45, p46] at st5_w v5
      have F5 : Fr ([7, 8, 12], [188, 189, 190]) h h5 := Fr.tr F4 (Fr.sub (by decide) f5_w)
      have m2_w : ∀ q : Nat, h5 189 q = h 189 q := fun q => (f5_w 189 q (fun z => absurd z (by decide)) rfl).trans (k2 q)
      have m3_w : ∀ q : Nat, h5 190 q = h1 190 q := fun q => (f5_w 190 q (fun z => absurd z (by decide)) rfl).trans (k3 q)
      have m12 : h5 182 12 = h 182 12 := (f5_w 182 12 (fun _ => rfl) rfl).trans k12
      have m1_w : ∀ q : Nat, q < 112 + 14 * D.2.2.1.length → h5 188 q = h 188 q := fun q z => (lo5 q (by omega)).trans (k1_w q)
      have kf5 : KF h h5 := ⟨fun q z => m1_w q (by omega), fun q _ => m2_w q, fun q hq => (m3_w q).trans (g1 q (by omega))⟩
      replace hQ : ∀ h', Fr ([7, 8, 12], [188, 189, 190]) h h' → KF h h' → St N (nx (eB (sRow (h 184) (h 185) (h 186) 99 14 [] j4_w) fun r => .ok ((D.1, D.2.1, D.2.2.1 ++ [(v, r3', r.1)], D.2.2.2), r.2))) h' → (∀ (D' : DD) j, (eB (sRow (h 184) (h 185) (h 186) 99 14 [] j4_w) fun r => (.ok ((D.1, D.2.1, D.2.2.1 ++ [(v, r3', r.1)], D.2.2.2), r.2) : XZ (DD × Nat))) = .ok (D', j) → RD D' h') → Q 1 [] h' := hQ
      match hr : sRow (h 184) (h 185) (h 186) 99 14 [] j4_w with
      | .error f =>
        rw [hr] at st5_w hQ
        have g2 : ¬ h5 182 8 = 0 := by have := st5_w.1; have := st5_w.2; omega
        refine ⟨fun z => absurd z g2, fun _ => ?_⟩
        exact hQ _ F5 kf5 st5_w (fun _ _ z => by cases z)
      | .ok (l, j5_w) =>
        rw [hr] at st5_w hQ
        obtain ⟨er, el, ev_w, eq⟩ := v5 l j5_w hr
        subst er
        obtain ⟨y8, y7, yj⟩ := st5_w
        have y7' : h5 182 7 = (j5_w : Int) := y7
        refine ⟨fun _ => ?_, fun z => absurd y8 z⟩
        intro _ _
        have c6 : j32 (h5 188 96 + 1) = ((D.2.2.1.length + 1 : Nat) : Int) := by
          rw [m1_w 96 (by omega), c1_w, j32_id (by omega) (by omega)]
          omega
        rw [c6]
        have rd5 : ∀ q, q ≠ 96 → q ≠ 112 + 14 * D.2.2.1.length → q ≠ 113 + 14 * D.2.2.1.length → j_up (j_up (j_up h5 188 (112 + 14 * D.2.2.1.length) r3') 188 (113 + 14 * D.2.2.1.length) (l.length : Int)) 188 96 ((D.2.2.1.length + 1 : Nat) : Int) 188 q = h5 188 q := fun q z1 z2 z3 => by
          rw [up_ne (fun z => z1 z.2), up_ne (fun z => z3 z.2), up_ne (fun z => z2 z.2)]
        have rdo : ∀ o k, o ≠ 188 → j_up (j_up (j_up h5 188 (112 + 14 * D.2.2.1.length) r3') 188 (113 + 14 * D.2.2.1.length) (l.length : Int)) 188 96 ((D.2.2.1.length + 1 : Nat) : Int) o k = h5 o k := fun o k z => by
          rw [up_ne (fun y => z y.1), up_ne (fun y => z y.1), up_ne (fun y => z y.1)]
        refine hQ _ (Fr.tr F5 (Fr.tr (Fr.tr (Fr.arr rfl) (Fr.arr rfl)) (Fr.arr rfl))) ⟨fun q z => ?_, fun q _ => (rdo _ _ (by decide)).trans (m2_w q), fun q hq => (rdo _ _ (by decide)).trans ((m3_w q).trans (g1 q (by omega)))⟩ ⟨(rdo _ _ (by decide)).trans y8, (rdo _ _ (by decide)).trans y7', yj⟩ (fun D' j z => ?_)
        · rw [rd5 q (by omega) (by omega) (by omega)]
          exact m1_w q (by omega)
        · cases z
          refine RD.cls rd n4_w el (fun k => ?_) ?_ ?_ (fun k w z => ?_) up_eq (fun q z1 z2 => ?_) ((rdo _ _ (by decide)).trans m12) (fun q => (rdo _ _ (by decide)).trans (m2_w q))
          · rw [rdo _ _ (by decide), m3_w k, nm k]
          · rw [up_ne (fun z => by have := z.2; omega), up_ne (fun z => by have := z.2; omega), up_eq]
          · rw [up_ne (fun z => by have := z.2; omega), up_eq]
          · have zl := lt_of_some z
            rw [rd5 _ (by omega) (by omega) (by omega)]
            exact ev_w k w z
          · rw [rd5 q z1 (by omega) (by omega)]
            rcases z2 with z2 | z2
            · exact m1_w q z2
            · have z3 : 114 + 14 * D.2.2.1.length + l.length ≤ q := z2
              exact (eq q (by omega)).trans (k1_w q)
  · exact hQ.elim
theorem nx_ok {α : Type} {a : α} {j : Nat} : nx (.ok (a, j)) = .ok j := rfl
theorem nx_er {α : Type} {f : Int} : nx (.error f : XZ (α × Nat)) = .error f := rfl
theorem eB_er {α β : Type} {f : Int} {g : α → XZ β} : eB (.error f) g = .error f := rfl
theorem met_use {N : Nat} {h : XH} {A1 : XZ (Int × Nat)} {s2_w s4_w s6_w : Nat → XZ (Int × Nat)} {s3_w s5 : Nat → XZ Nat} {G : Int → Int → Int → Int → DD} (st : St N (nx (eB (eB (nx (eB (eB (nx (eB (nx A1) s2_w)) s3_w) s4_w)) s5) s6_w)) h) : (∃ f, St N (.error f) h ∧ (eB A1 fun a => eB (s2_w a.2) fun k => eB (s3_w k.2) fun j => eB (s4_w j) fun c => eB (s5 c.2) fun j2_w => eB (s6_w j2_w) fun s => (.ok (G a.1 k.1 c.1 s.1, s.2) : XZ (DD × Nat))) = .error f) ∨ (∃ v k c s j1 j2_w j4_w j6_w, St N (.ok j6_w) h ∧ (eB A1 fun a => eB (s2_w a.2) fun k => eB (s3_w k.2) fun j => eB (s4_w j) fun c => eB (s5 c.2) fun j2_w => eB (s6_w j2_w) fun s => (.ok (G a.1 k.1 c.1 s.1, s.2) : XZ (DD × Nat))) = .ok (G v k c s, j6_w) ∧ A1 = .ok (v, j1) ∧ eB (nx A1) s2_w = .ok (k, j2_w) ∧ eB (eB (nx (eB (nx A1) s2_w)) s3_w) s4_w = .ok (c, j4_w) ∧ eB (eB (nx (eB (eB (nx (eB (nx A1) s2_w)) s3_w) s4_w)) s5) s6_w = .ok (s, j6_w)) := by
  match A1, st with
  | .error f, st => exact Or.inl ⟨f, st, rfl⟩
  | .ok (v, j1), st =>
    simp only [nx_ok, eB_pu] at st ⊢
    match h2 : s2_w j1 with
    | .error f =>
      simp only [h2, nx_er, eB_er] at st ⊢
      exact Or.inl ⟨f, st, rfl⟩
    | .ok (k, j2_w) =>
      simp only [h2, nx_ok, eB_pu] at st ⊢
      match h3 : s3_w j2_w with
      | .error f =>
        simp only [h3, nx_er, eB_er] at st ⊢
        exact Or.inl ⟨f, st, rfl⟩
      | .ok j3_w =>
        simp only [h3, nx_ok, eB_pu] at st ⊢
        match h4 : s4_w j3_w with
        | .error f =>
          simp only [h4, nx_er, eB_er] at st ⊢
          exact Or.inl ⟨f, st, rfl⟩
        | .ok (c, j4_w) =>
          simp only [h4, nx_ok, eB_pu] at st ⊢
          match h5 : s5 j4_w with
          | .error f =>
            simp only [h5, nx_er, eB_er] at st ⊢
            exact Or.inl ⟨f, st, rfl⟩
          | .ok j5_w =>
            simp only [h5, nx_ok, eB_pu] at st ⊢
            match h6 : s6_w j5_w with
            | .error f =>
              simp only [h6, nx_er, eB_er] at st ⊢
              exact Or.inl ⟨f, st, rfl⟩
            | .ok (s, j6_w) =>
              simp only [h6, nx_ok, eB_pu] at st ⊢
              exact Or.inr ⟨v, k, c, s, j1, j2_w, j4_w, j6_w, st, rfl, rfl, rfl, rfl, rfl⟩
theorem m_213 : BodyOK CS6 CS6 213 := fun av h Q hQ => by
  rw [cs6_213] at hQ
  unfold k213 kLN at hQ
  split at hQ
  · rename_i t
    obtain ⟨rfl, N, i, D, tk, st, lt, rd, hQ⟩ := hQ
    obtain ⟨e8, e7_w, hi_w⟩ := id st
    obtain ⟨⟨⟨c1_w, c2, c3, l1, l2, l3⟩, r1_w, r2, r3⟩, -⟩ := id rd
    have len8 : (D.2.2.1.map (·.1)).length = D.2.2.1.length := List.length_map ..
    show pS CS6 bb_213 [182, 0, 0, 0, 0, 0] h _
    unfold bb_213
    simp only [qe_1, qe_3, qe_4, qe_5, qe_7, qe_72, qe_10, qe_102, qe_13, qe_14, qe_15, qe_16, qe_17, qe_18, qe_20, qe_22, qe_23, qe_21, qe_24, qe_25, qe_26, qe_27, qe_28, qe_30, qe_31, qe_32, qc_20, qc_22, qc_23, qc_21, qc_24, qc_25, qc_26, qc_27, qc_1, qc_3, qc_4, qc_7, qc_13, qc_28, qc_32, qs_1, qs_2, qs_3, qs_4, qs_5, qs_6, qs_9, qs_10, qs_11, qs_14, qs_15, qs_16, qs_27, qs_17, qs_18, qs_19, qs_20, qs_22, qs_23, qs_28, qs_25, qs_26, qs_7, qs_8, kc_1, kn_1, kc_2, kn_2, kc_3, kn_3, kc_4, kn_4, kc_5, kn_5, kc_6, kn_6, kc_7, kn_7, kc_8, kn_8, kc_9, kn_9, kc_10, kn_10, kc_11, kn_11, kc_12, kn_12, kc_13, kn_13, kc_14, kn_14, kc_15, kn_15, kc_16, kc_17, kc_18, kc_19, kc_20, kc_21, kc_22, kc_23, kc_30, kc_32, kc_40, kc_43, kc_45, kc_48, kc_52, kc_56, kc_57, kc_59, kc_60, kc_61, kc_63, kc_64, kc_72, kc_78, kc_97, kc_99, kc_122, kc_126, kc_128, kc_192, kc_200, kc_255, kc_999, kc_1000, kc_9999, kn_9999, kc_10000, kc_12345, kc_65536, kc_252645135, kc_858993459, kc_1103515245, kc_1431655765, kc_2147483647, kc_0, kc_24, kc_28, kc_37, kc_41, kc_42, kc_73, kc_91, kc_95, kc_96, kc_98, kc_100, kc_112, kc_125, kc_150, kc_162, kc_163, kc_168, kc_186, kc_190, kc_250, kc_355, kc_356, kc_404, kc_405, kc_429, kc_573, kc_1002, kc_1100, kc_1891, kc_2200, kc_4719, kc_4869, kc_4881, kc_5148, kc_19741, kc_25433, kc_320403, kc_628412, kc_629093, kc_660401, kc_679843, kc_918640, kc_979410, kc_1178088, kc_6232410, kc_24644941, kc_36238189, kc_38270444, kc_392531318, kc_425693491, kc_1342154595, kc_2147483648, kc_42328242873, kc_891704255789, kc_1722105685577, kc_1858726030364, ct_0, ct_1, ct_2, ct_3, ct_4, ct_5, cf_0, cf_1, cf_2, cf_3, cf_4, cf_5, w_ty6, w_ty7, m_sv, m_z0, m_hd, m_g0, m_gs, m_s0, m_ss, m_ap, m_an, forall_const, true_and, and_true, ne_eq, not_true_eq_false, not_false_eq_true, false_implies, true_implies, implies_true, eq_self, reduceCtorEq, Nat.reduceDiv, Nat.reduceMod, Int.reduceToNat, or_true, true_or, or_false, false_or, or_self, m_it, m_if, m_c1, m_01, m_02, m_03, m_04, m_10, m_12, m_13, m_14, m_20, m_21, m_23, m_24, m_30, m_31, m_32, m_34, m_40, m_41, m_42, m_43, Int.reduceLE, Int.reduceLT, Int.reduceGE, Int.reduceGT, Int.reduceNeg, Int.reduceAdd, Int.reduceSub, Int.reduceMul, Int.reduceEq, Int.reduceNe, Nat.reduceAdd, jun2, ro_0_0, ro_0_1, ro_0_2, ro_0_3, ro_0_4, ro_0_5, ro_0_6, ro_0_7, ro_0_8, ro_0_9, ro_0_10, ro_0_11, ro_0_12, ro_1_0, ro_1_1, ro_2_0, ro_4_0, ro_6_0, ro_6_1, ro_6_2, ro_6_3, ro_6_4, ro_6_5, ro_6_6, ro_6_7, ro_6_8, ro_8_0, ro_10_0, ro_12_0, ro_14_0, ro_16_0, ro_18_0, ro_20_0, ro_22_0, ro_22_1, ro_22_2, ro_23_0, ro_25_0, ro_27_0, ro_29_0, ro_29_1, ro_29_2, ro_29_3, ro_29_4, ro_29_5, ro_29_6, ro_29_7, ro_29_8, ro_31_0, ro_33_0, ro_35_0, ro_37_0, ro_39_0, ro_41_0, ro_43_0, ro_45_0, ro_45_1, ro_45_2, ro_46_0, ro_48_0, ro_50_0, ro_52_0, ro_52_1, ro_52_2, ro_52_3, ro_53_0, ro_55_0, ro_57_0, ro_59_0, ro_61_0, ro_61_1, ro_61_2, ro_61_3, ro_62_0, ro_64_0, ro_66_0, ro_68_0, ro_70_0, ro_70_1, ro_70_2, ro_70_3, ro_70_4, ro_70_5, ro_70_6, ro_70_7, ro_70_8, ro_70_9, ro_71_0, ro_73_0, ro_75_0, ro_77_0, ro_79_0, ro_81_0, ro_83_0, ro_85_0, ro_87_0, ro_89_0, ro_91_0, ro_91_1, ro_91_2, ro_91_3, ro_91_4, ro_91_5, ro_91_6, ro_91_7, ro_91_8, ro_91_9, ro_92_0, ro_94_0, ro_96_0, ro_98_0, ro_100_0, ro_102_0, ro_104_0, ro_106_0, ro_108_0, ro_110_0, ro_112_0, ro_112_1, ro_112_2, ro_112_3, ro_112_4, ro_112_5, ro_112_6, ro_112_7, ro_112_8, ro_112_9, ro_113_0, ro_115_0, ro_117_0, ro_119_0, ro_121_0, ro_123_0, ro_125_0, ro_127_0, ro_129_0, ro_131_0, ro_133_0, ro_133_1, ro_133_2, ro_133_3, ro_133_4, ro_133_5, ro_133_6, ro_133_7, ro_133_8, ro_133_9, ro_134_0, ro_136_0, ro_138_0, ro_140_0, ro_142_0, ro_144_0, ro_146_0, ro_148_0, ro_150_0, ro_152_0, ro_154_0, ro_155_0, ro_157_0, ro_157_1, ro_157_2, ro_157_3, ro_157_4, ro_157_5, ro_157_6, ro_157_7, ro_157_8, ro_157_9, ro_158_0, ro_160_0, ro_162_0, ro_164_0, ro_166_0, ro_168_0, ro_170_0, ro_172_0, ro_174_0, ro_176_0, ro_178_0, ro_180_0, ro_182_1, ro_182_4, ro_182_5, ro_182_6, ro_182_9, ro_182_10, ro_182_11, ro_182_13, ro_182_14, ro_182_15, ro_182_16, ro_182_17, ro_182_20, ro_182_21, ro_182_22, ro_182_23, ro_182_24, ro_182_26, ro_182_27, ro_182_28, lo_3, lo_5, lo_7, lo_9, lo_11, lo_13, lo_15, lo_17, lo_19, lo_21, lo_24, lo_26, lo_28, lo_30, lo_32, lo_34, lo_36, lo_38, lo_40, lo_42, lo_44, lo_47, lo_49, lo_51, lo_54, lo_56, lo_58, lo_60, lo_63, lo_65, lo_67, lo_69, lo_72, lo_74, lo_76, lo_78, lo_80, lo_82, lo_84, lo_86, lo_88, lo_90, lo_93, lo_95, lo_97, lo_99, lo_101, lo_103, lo_105, lo_107, lo_109, lo_111, lo_114, lo_116, lo_118, lo_120, lo_122, lo_124, lo_126, lo_128, lo_130, lo_132, lo_135, lo_137, lo_139, lo_141, lo_143, lo_145, lo_147, lo_149, lo_151, lo_153, lo_156, lo_159, lo_161, lo_163, lo_165, lo_167, lo_169, lo_171, lo_173, lo_175, lo_177, lo_179, lo_181, lo_183, lo_184, lo_185, lo_186, lo_187, lo_188, lo_189, lo_190, lo_191, lo_192, lo_193, lo_194, lo_195, lo_196, lo_197, lo_198, lo_199, lo_200, lo_201, lo_202, lo_203, jp_nn, jp_eq, jp_e1, Classical.not_not, ji0, ji1, ji2, cs6_54, kk_54, cs6_55, kk_55, cs6_68, kk_68, cs6_69, kk_69, cs6_70, kk_70, cs6_71, kk_71, cs6_72, kk_72, cs6_73, kk_73, cs6_74, kk_74, cs6_75, kk_75, cs6_186, kk_186, cs6_187, kk_187, cs6_188, kk_188, cs6_189, kk_189, cs6_191, kk_191, cs6_192, kk_192, cs6_193, kk_193, cs6_198, kk_198, cs6_207, kk_207, cs6_195, kk_195, cs6_196, kk_196, cs6_201, kk_201, cs6_203, kk_203, cs6_204, kk_204, cs6_194, kk_194, cs6_197, kk_197, cs6_200, kk_200, cs6_202, kk_202, cs6_205, kk_205, cs6_208, kk_208, cs6_209, kk_209, cs6_211, kk_211, cs6_216, kk_216, cs6_217, kk_217, cs6_218, kk_218, cs6_219, kk_219, cs6_220, kk_220, cs6_221, kk_221, cs6_210, kk_210, cs6_212, kk_212, cs6_213, kk_213, jl_0, jl_1, jl_2, jl_3, jl_4, jl_5, jl_6, jl_7, jl_8, jl_9, jl_10, jl_11, jl_12, jl_13, jl_14, jl_15, jl_16, jl_17, jl_18, jl_19, jl_20, jl_21, jl_22, jl_23, jl_24, jl_25, jl_26, jl_27, jl_28, jl_29, jl_30, jl_31, jl_32, jl_33, jl_34, jl_35, jl_36, jl_37, jl_38, jl_39, jl_40, jl_95, jl_96, jl_97, jl_98, jl_99, jl_100, jl_101, jl_102, jl_103, jl_104, jl_105, jl_106, jl_107, jl_108, jl_109, jl_110, jl_111, jl_112, jl_113, jl_114, jl_186, jl_1100, jr, ju, jpT, jpF, tnc, Nat.reduceEqDiff, reduceIte, and_false, false_and, not_true_eq_false, not_false_eq_true, or_false, gt_iff_lt, ge_iff_le, Int.lt_irrefl, Int.le_refl, c3]
    refine ⟨⟨by omega, by omega⟩, N, i, D, tk, st, lt, rd.1, fun h1 f1_w g1 st1_w nm1 => ?_⟩
    have F1_w : Fr ([7, 8, 12], [188, 189, 190]) h h1 := Fr.sub (by decide) f1_w
    have s8 : ∀ (w : List Nat × List Nat) (x y : XH), w.2.contains 188 = false → Fr w x y → ∀ q, y 188 q = x 188 q := fun w x y e f q => f 188 q (fun z => absurd z (by decide)) e
    have s0 : ∀ (w : List Nat × List Nat) (x y : XH), w.2.contains 190 = false → Fr w x y → ∀ q, y 190 q = x 190 q := fun w x y e f q => f 190 q (fun z => absurd z (by decide)) e
    have s9 : ∀ (w : List Nat × List Nat) (x y : XH), w.2.contains 189 = false → Fr w x y → ∀ q, y 189 q = x 189 q := fun w x y e f q => f 189 q (fun z => absurd z (by decide)) e
    have b1 : h1 188 96 = (D.2.2.1.length : Int) ∧ h1 188 97 = (D.2.2.2.1.length : Int) := ⟨(s8 _ _ _ rfl f1_w 96).trans c1_w, (s8 _ _ _ rfl f1_w 97).trans c2⟩
    refine ⟨N, _, tk.fr F1_w rfl rfl rfl, st1_w, fun r2' h2 f2_w st2_w v2 => ?_⟩
    have F2 : Fr ([7, 8, 12], [188, 189, 190]) h h2 := Fr.tr F1_w (Fr.sub (by decide) f2_w)
    refine ⟨N, _, tk.fr F2 rfl rfl rfl, st2_w, fun h3 f3_w st3_w => ?_⟩
    have F3 : Fr ([7, 8, 12], [188, 189, 190]) h h3 := Fr.tr F2 (Fr.sub (by decide) f3_w)
    have b3 : h3 188 96 = (D.2.2.1.length : Int) ∧ h3 188 97 = (D.2.2.2.1.length : Int) := ⟨(s8 _ _ _ rfl f3_w 96).trans ((s8 _ _ _ rfl f2_w 96).trans b1.1), (s8 _ _ _ rfl f3_w 97).trans ((s8 _ _ _ rfl f2_w 97).trans b1.2)⟩
    have n3_w : ∀ q, h3 190 q = h1 190 q := fun q => (s0 _ _ _ rfl f3_w q).trans (s0 _ _ _ rfl f2_w q)
    rw [b3.1]
    refine ⟨D.2.2.1.map (·.1), by rw [len8], by rw [len8]; omega, fun k v z => ?_, N, _, tk.fr F3 rfl rfl rfl, st3_w, fun r4' h4 f4_w st4_w v4_w => ?_⟩
    · have := lt_of_some z
      rw [len8] at this
      rw [n3_w, g1 _ (by omega)]
      exact r1_w k v z
    have F4 : Fr ([7, 8, 12], [188, 189, 190]) h h4 := Fr.tr F3 (Fr.sub (by decide) f4_w)
    refine ⟨N, _, tk.fr F4 rfl rfl rfl, st4_w, fun h5 f5_w st5_w => ?_⟩
    have F5 : Fr ([7, 8, 12], [188, 189, 190]) h h5 := Fr.tr F4 (Fr.sub (by decide) f5_w)
    have b5 : h5 188 97 = (D.2.2.2.1.length : Int) := (s8 _ _ _ rfl f5_w 97).trans ((s8 _ _ _ rfl f4_w 97).trans b3.2)
    have n5_w : ∀ q, h5 190 q = h1 190 q := fun q => (s0 _ _ _ rfl f5_w q).trans ((s0 _ _ _ rfl f4_w q).trans (n3_w q))
    rw [b5]
    refine ⟨D.2.2.2.1, rfl, by omega, fun k v z => ?_, N, _, tk.fr F5 rfl rfl rfl, st5_w, fun r6' h6 f6_w st6_w v6 => ?_⟩
    · have := lt_of_some z
      rw [n5_w, g1 _ (by omega)]
      exact r2 k v z
    have F6 : Fr ([7, 8, 12], [188, 189, 190]) h h6 := Fr.tr F5 (Fr.sub (by decide) f6_w)
    have rows : ∀ h', Fr ([7, 8, 12], [188, 189, 190]) h h' → h' 184 = h 184 ∧ h' 185 = h 185 ∧ h' 186 = h 186 ∧ h' 187 = h 187 := fun h' F => ⟨F.row rfl (by decide), F.row rfl (by decide), F.row rfl (by decide), F.row rfl (by decide)⟩
    obtain ⟨p14_w, p15, p16, p17⟩ := rows h1 F1_w
    obtain ⟨p24, p25_w, p26, p27⟩ := rows h2 F2
    obtain ⟨p34, p35_w, p36, p37⟩ := rows h3 F3
    obtain ⟨p44, p45, p46, p47⟩ := rows h4 F4
    obtain ⟨p54_w, p55, p56_w, p57_w⟩ := rows h5 F5
    rw [p14_w, p15, p16, p17, p24, p25_w, p26, p27, p34, p35_w, p36, p37, p44, p45, p46, p47, p54_w, p55, p56_w, p57_w] at st6_w v6
    rw [p14_w, p15, p16, p17, p24, p25_w, p26, p27, p34, p35_w, p36, p37] at v4_w
    rw [p14_w, p15, p16, p17] at v2
    have k1_w : ∀ q : Nat, h6 188 q = h 188 q := fun q => by
      rw [s8 _ _ _ rfl f6_w q, s8 _ _ _ rfl f5_w q, s8 _ _ _ rfl f4_w q, s8 _ _ _ rfl f3_w q, s8 _ _ _ rfl f2_w q, s8 _ _ _ rfl f1_w q]
    have k2 : ∀ q : Nat, h6 189 q = h 189 q := fun q => by
      rw [s9 _ _ _ rfl f6_w q, s9 _ _ _ rfl f5_w q, s9 _ _ _ rfl f4_w q, s9 _ _ _ rfl f3_w q, s9 _ _ _ rfl f2_w q, s9 _ _ _ rfl f1_w q]
    have k3 : ∀ q : Nat, h6 190 q = h1 190 q := fun q => (s0 _ _ _ rfl f6_w q).trans (n5_w q)
    have k12 : h6 182 12 = h 182 12 := by
      rw [f6_w 182 12 (fun _ => rfl) rfl, f5_w 182 12 (fun _ => rfl) rfl, f4_w 182 12 (fun _ => rfl) rfl, f3_w 182 12 (fun _ => rfl) rfl, f2_w 182 12 (fun _ => rfl) rfl, f1_w 182 12 (fun _ => rfl) rfl]
    have kf6 : KF h h6 := ⟨fun q _ => k1_w q, fun q _ => k2 q, fun q hq => (k3 q).trans (g1 q (by omega))⟩
    have e0 : sMeter (h 184) (h 185) (h 186) (h 187) D i = eB (sNm (h 184) (h 185) (h 186) (h 187) D (D.2.2.2.2.1.length : Int) 6 i) fun a => eB (sOne (h 184) (h 185) (h 186) (h 187) 13 4 a.2) fun k => eB (sWrd (h 184) (h 185) (h 186) (h 187) 2 k.2) fun j => eB (sTold (h 184) (h 185) (h 186) (h 187) (D.2.2.1.map (·.1)) j) fun c => eB (sWrd (h 184) (h 185) (h 186) (h 187) 7 c.2) fun j2_w => eB (sTold (h 184) (h 185) (h 186) (h 187) D.2.2.2.1 j2_w) fun s => .ok ((D.1, D.2.1, D.2.2.1, D.2.2.2.1, D.2.2.2.2.1 ++ [(a.1, k.1, c.1, s.1)], D.2.2.2.2.2), s.2) := by
      unfold sMeter sNm
      by_cases z : D.2.2.2.2.1.length = 6
      · rw [if_pos z, if_pos (by omega)]
        rfl
      · rw [if_neg z, if_neg (by omega)]
    rw [e0] at hQ
    rcases met_use (G := fun v k c s => (D.1, D.2.1, D.2.2.1, D.2.2.2.1, D.2.2.2.2.1 ++ [(v, k, c, s)], D.2.2.2.2.2)) st6_w with ⟨f, st7, e1_w⟩ | ⟨v, k, c, s, j1, j2_w, j4_w, j6_w, st7, e1_w, y1, y2, y4, y6⟩
    · have g2 : ¬ h6 182 8 = 0 := by have := st7.1; have := st7.2; omega
      refine ⟨fun z => absurd z g2, fun _ => ?_⟩
      rw [e1_w] at hQ
      exact hQ _ F6 kf6 st7 (fun _ _ z => by cases z)
    · have er2 := v2 k j2_w y2
      have er4 := v4_w c j4_w y4
      have er6 := v6 s j6_w y6
      subst er2 er4 er6
      have nm := nm1 v j1 y1
      have n6_w : D.2.2.2.2.1.length < 6 := by
        have : D.2.2.2.2.1.length ≠ 6 := fun z => by
          unfold sNm at y1
          rw [if_pos (by omega)] at y1
          cases y1
        omega
      obtain ⟨x8, x7, xj⟩ := id st7
      have ei : j32 (168 + j32 (3 * (D.2.2.2.2.1.length : Int))) = ((168 + 3 * D.2.2.2.2.1.length : Nat) : Int) := by
        rw [j32_id (x := 3 * (D.2.2.2.2.1.length : Int)) (by omega) (by omega), j32_id (by omega) (by omega)]
        omega
      have ei1 : j32 (((168 + 3 * D.2.2.2.2.1.length : Nat) : Int) + 1) = ((169 + 3 * D.2.2.2.2.1.length : Nat) : Int) := by
        rw [j32_id (by omega) (by omega)]
        omega
      have ei2 : j32 (((168 + 3 * D.2.2.2.2.1.length : Nat) : Int) + 2) = ((170 + 3 * D.2.2.2.2.1.length : Nat) : Int) := by
        rw [j32_id (by omega) (by omega)]
        omega
      have d0_w : ¬ 98 = 168 + 3 * D.2.2.2.2.1.length := by omega
      have d1_w : ¬ 98 = 169 + 3 * D.2.2.2.2.1.length := by omega
      have d2_w : ¬ 98 = 170 + 3 * D.2.2.2.2.1.length := by omega
      have c6 : j32 (h6 188 98 + 1) = ((D.2.2.2.2.1.length + 1 : Nat) : Int) := by
        rw [k1_w 98, c3, j32_id (by omega) (by omega)]
        omega
      rw [e1_w] at hQ
      simp only [qe_1, qe_3, qe_4, qe_5, qe_7, qe_72, qe_10, qe_102, qe_13, qe_14, qe_15, qe_16, qe_17, qe_18, qe_20, qe_22, qe_23, qe_21, qe_24, qe_25, qe_26, qe_27, qe_28, qe_30, qe_31, qe_32, qc_20, qc_22, qc_23, qc_21, qc_24, qc_25, qc_26, qc_27, qc_1, qc_3, qc_4, qc_7, qc_13, qc_28, qc_32, qs_1, qs_2, qs_3, qs_4, qs_5, qs_6, qs_9, qs_10, qs_11, qs_14, qs_15, qs_16, qs_27, qs_17, qs_18, qs_19, qs_20, qs_22, qs_23, qs_28, qs_25, qs_26, qs_7, qs_8, kc_1, kn_1, kc_2, kn_2, kc_3, kn_3, kc_4, kn_4, kc_5, kn_5, kc_6, kn_6, kc_7, kn_7, kc_8, kn_8, kc_9, kn_9, kc_10, kn_10, kc_11, kn_11, kc_12, kn_12, kc_13, kn_13, kc_14, kn_14, kc_15, kn_15, kc_16, kc_17, kc_18, kc_19, kc_20, kc_21, kc_22, kc_23, kc_30, kc_32, kc_40, kc_43, kc_45, kc_48, kc_52, kc_56, kc_57, kc_59, kc_60, kc_61, kc_63, kc_64, kc_72, kc_78, kc_97, kc_99, kc_122, kc_126, kc_128, kc_192, kc_200, kc_255, kc_999, kc_1000, kc_9999, kn_9999, kc_10000, kc_12345, kc_65536, kc_252645135, kc_858993459, kc_1103515245, kc_1431655765, kc_2147483647, kc_0, kc_24, kc_28, kc_37, kc_41, kc_42, kc_73, kc_91, kc_95, kc_96, kc_98, kc_100, kc_112, kc_125, kc_150, kc_162, kc_163, kc_168, kc_186, kc_190, kc_250, kc_355, kc_356, kc_404, kc_405, kc_429, kc_573, kc_1002, kc_1100, kc_1891, kc_2200, kc_4719, kc_4869, kc_4881, kc_5148, kc_19741, kc_25433, kc_320403, kc_628412, kc_629093, kc_660401, kc_679843, kc_918640, kc_979410, kc_1178088, kc_6232410, kc_24644941, kc_36238189, kc_38270444, kc_392531318, kc_425693491, kc_1342154595, kc_2147483648, kc_42328242873, kc_891704255789, kc_1722105685577, kc_1858726030364, ct_0, ct_1, ct_2, ct_3, ct_4, ct_5, cf_0, cf_1, cf_2, cf_3, cf_4, cf_5, w_ty6, w_ty7, m_sv, m_z0, m_hd, m_g0, m_gs, m_s0, m_ss, m_ap, m_an, forall_const, true_and, and_true, ne_eq, not_true_eq_false, not_false_eq_true, false_implies, true_implies, implies_true, eq_self, reduceCtorEq, Nat.reduceDiv, Nat.reduceMod, Int.reduceToNat, or_true, true_or, or_false, false_or, or_self, m_it, m_if, m_c1, m_01, m_02, m_03, m_04, m_10, m_12, m_13, m_14, m_20, m_21, m_23, m_24, m_30, m_31, m_32, m_34, m_40, m_41, m_42, m_43, Int.reduceLE, Int.reduceLT, Int.reduceGE, Int.reduceGT, Int.reduceNeg, Int.reduceAdd, Int.reduceSub, Int.reduceMul, Int.reduceEq, Int.reduceNe, Nat.reduceAdd, jun2, ro_0_0, ro_0_1, ro_0_2, ro_0_3, ro_0_4, ro_0_5, ro_0_6, ro_0_7, ro_0_8, ro_0_9, ro_0_10, ro_0_11, ro_0_12, ro_1_0, ro_1_1, ro_2_0, ro_4_0, ro_6_0, ro_6_1, ro_6_2, ro_6_3, ro_6_4, ro_6_5, ro_6_6, ro_6_7, ro_6_8, ro_8_0, ro_10_0, ro_12_0, ro_14_0, ro_16_0, ro_18_0, ro_20_0, ro_22_0, ro_22_1, ro_22_2, ro_23_0, ro_25_0, ro_27_0, ro_29_0, ro_29_1, ro_29_2, ro_29_3, ro_29_4, ro_29_5, ro_29_6, ro_29_7, ro_29_8, ro_31_0, ro_33_0, ro_35_0, ro_37_0, ro_39_0, ro_41_0, ro_43_0, ro_45_0, ro_45_1, ro_45_2, ro_46_0, ro_48_0, ro_50_0, ro_52_0, ro_52_1, ro_52_2, ro_52_3, ro_53_0, ro_55_0, ro_57_0, ro_59_0, ro_61_0, ro_61_1, ro_61_2, ro_61_3, ro_62_0, ro_64_0, ro_66_0, ro_68_0, ro_70_0, ro_70_1, ro_70_2, ro_70_3, ro_70_4, ro_70_5, ro_70_6, ro_70_7, ro_70_8, ro_70_9, ro_71_0, ro_73_0, ro_75_0, ro_77_0, ro_79_0, ro_81_0, ro_83_0, ro_85_0, ro_87_0, ro_89_0, ro_91_0, ro_91_1, ro_91_2, ro_91_3, ro_91_4, ro_91_5, ro_91_6, ro_91_7, ro_91_8, ro_91_9, ro_92_0, ro_94_0, ro_96_0, ro_98_0, ro_100_0, ro_102_0, ro_104_0, ro_106_0, ro_108_0, ro_110_0, ro_112_0, ro_112_1, ro_112_2, ro_112_3, ro_112_4, ro_112_5, ro_112_6, ro_112_7, ro_112_8, ro_112_9, ro_113_0, ro_115_0, ro_117_0, ro_119_0, ro_121_0, ro_123_0, ro_125_0, ro_127_0, ro_129_0, ro_131_0, ro_133_0, ro_133_1, ro_133_2, ro_133_3, ro_133_4, ro_133_5, ro_133_6, ro_133_7, ro_133_8, ro_133_9, ro_134_0, ro_136_0, ro_138_0, ro_140_0, ro_142_0, ro_144_0, ro_146_0, ro_148_0, ro_150_0, ro_152_0, ro_154_0, ro_155_0, ro_157_0, ro_157_1, ro_157_2, ro_157_3, ro_157_4, ro_157_5, ro_157_6, ro_157_7, ro_157_8, ro_157_9, ro_158_0, ro_160_0, ro_162_0, ro_164_0, ro_166_0, ro_168_0, ro_170_0, ro_172_0, ro_174_0, ro_176_0, ro_178_0, ro_180_0, ro_182_1, ro_182_4, ro_182_5, ro_182_6, ro_182_9, ro_182_10, ro_182_11, ro_182_13, ro_182_14, ro_182_15, ro_182_16, ro_182_17, ro_182_20, ro_182_21, ro_182_22, ro_182_23, ro_182_24, ro_182_26, ro_182_27, ro_182_28, lo_3, lo_5, lo_7, lo_9, lo_11, lo_13, lo_15, lo_17, lo_19, lo_21, lo_24, lo_26, lo_28, lo_30, lo_32, lo_34, lo_36, lo_38, lo_40, lo_42, lo_44, lo_47, lo_49, lo_51, lo_54, lo_56, lo_58, lo_60, lo_63, lo_65, lo_67, lo_69, lo_72, lo_74, lo_76, lo_78, lo_80, lo_82, lo_84, lo_86, lo_88, lo_90, lo_93, lo_95, lo_97, lo_99, lo_101, lo_103, lo_105, lo_107, lo_109, lo_111, lo_114, lo_116, lo_118, lo_120, lo_122, lo_124, lo_126, lo_128, lo_130, lo_132, lo_135, lo_137, lo_139, lo_141, lo_143, lo_145, lo_147, lo_149, lo_151, lo_153, lo_156, lo_159, lo_161, lo_163, lo_165, lo_167, lo_169, lo_171, lo_173, lo_175, lo_177, lo_179, lo_181, lo_183, lo_184, lo_185, lo_186, lo_187, lo_188, lo_189, lo_190, lo_191, lo_192, lo_193, lo_194, lo_195, lo_196, lo_197, lo_198, lo_199, lo_200, lo_201, lo_202, lo_203, jp_nn, jp_eq, jp_e1, Classical.not_not, ji0, ji1, ji2, cs6_54, kk_54, cs6_55, kk_55, cs6_68, kk_68, cs6_69, kk_69, cs6_70, kk_70, cs6_71, kk_71, cs6_72, kk_72, cs6_73, kk_73, cs6_74, kk_74, cs6_75, kk_75, cs6_186, kk_186, cs6_187, kk_187, cs6_188, kk_188, cs6_189, kk_189, cs6_191, kk_191, cs6_192, kk_192, cs6_193, kk_193, cs6_198, kk_198, cs6_207, kk_207, cs6_195, kk_195, cs6_196, kk_196, cs6_201, kk_201, cs6_203, kk_203, cs6_204, kk_204, cs6_194, kk_194, cs6_197, kk_197, cs6_200, kk_200, cs6_202, kk_202, cs6_205, kk_205, cs6_208, kk_208, cs6_209, kk_209, cs6_211, kk_211, cs6_216, kk_216, cs6_217, kk_217, cs6_218, kk_218, cs6_219, kk_219, cs6_220, kk_220, cs6_221, kk_221, cs6_210, kk_210, cs6_212, kk_212, cs6_213, kk_213, jl_0, jl_1, jl_2, jl_3, jl_4, jl_5, jl_6, jl_7, jl_8, jl_9, jl_10, jl_11, jl_12, jl_13, jl_14, jl_15, jl_16, jl_17, jl_18, jl_19, jl_20, jl_21, jl_22, jl_23, jl_24, jl_25, jl_26, jl_27, jl_28, jl_29, jl_30, jl_31, jl_32, jl_33, jl_34, jl_35, jl_36, jl_37, jl_38, jl_39, jl_40, jl_95, jl_96, jl_97, jl_98, jl_99, jl_100, jl_101, jl_102, jl_103, jl_104, jl_105, jl_106, jl_107, jl_108, jl_109, jl_110, jl_111, jl_112, jl_113, jl_114, jl_186, jl_1100, jr, ju, jpT, jpF, tnc, Nat.reduceEqDiff, reduceIte, and_false, false_and, not_true_eq_false, not_false_eq_true, or_false, gt_iff_lt, ge_iff_le, Int.lt_irrefl, Int.le_refl, x8, ei, ei1, ei2, d0_w, d1_w, d2_w, c6]
      intros
      have rd5 : ∀ q, q ≠ 98 → q ≠ 168 + 3 * D.2.2.2.2.1.length → q ≠ 169 + 3 * D.2.2.2.2.1.length → q ≠ 170 + 3 * D.2.2.2.2.1.length → j_up (j_up (j_up (j_up h6 188 (168 + 3 * D.2.2.2.2.1.length) r2') 188 (169 + 3 * D.2.2.2.2.1.length) r4') 188 (170 + 3 * D.2.2.2.2.1.length) r6') 188 98 ((D.2.2.2.2.1.length + 1 : Nat) : Int) 188 q = h6 188 q := fun q z1 z2 z3 z4 => by
        rw [up_ne (fun z => z1 z.2), up_ne (fun z => z4 z.2), up_ne (fun z => z3 z.2), up_ne (fun z => z2 z.2)]
      have rdo : ∀ o k, o ≠ 188 → j_up (j_up (j_up (j_up h6 188 (168 + 3 * D.2.2.2.2.1.length) r2') 188 (169 + 3 * D.2.2.2.2.1.length) r4') 188 (170 + 3 * D.2.2.2.2.1.length) r6') 188 98 ((D.2.2.2.2.1.length + 1 : Nat) : Int) o k = h6 o k := fun o k z => by
        rw [up_ne (fun y => z y.1), up_ne (fun y => z y.1), up_ne (fun y => z y.1), up_ne (fun y => z y.1)]
      refine hQ _ (Fr.tr F6 (Fr.tr (Fr.tr (Fr.tr (Fr.arr rfl) (Fr.arr rfl)) (Fr.arr rfl)) (Fr.arr rfl))) ⟨fun q z => ?_, fun q _ => (rdo _ _ (by decide)).trans (k2 q), fun q hq => (rdo _ _ (by decide)).trans ((k3 q).trans (g1 q (by omega)))⟩ ⟨(rdo _ _ (by decide)).trans x8, (rdo _ _ (by decide)).trans x7, xj⟩ (fun D' j z => ?_)
      · rw [rd5 q (by omega) (by omega) (by omega) (by omega)]
        exact k1_w q
      · cases z
        refine RD.met rd n6_w (fun k => ?_) ?_ ?_ ?_ up_eq (fun q z1 z2 => ?_) ((rdo _ _ (by decide)).trans k12) (fun q => (rdo _ _ (by decide)).trans (k2 q))
        · rw [rdo _ _ (by decide), k3 k, nm k]
        · rw [up_ne (fun z => by have := z.2; omega), up_ne (fun z => by have := z.2; omega), up_ne (fun z => by have := z.2; omega), up_eq]
        · rw [up_ne (fun z => by have := z.2; omega), up_ne (fun z => by have := z.2; omega), up_eq]
        · rw [up_ne (fun z => by have := z.2; omega), up_eq]
        · rw [rd5 q z1 (by omega) (by omega) (by omega)]
          exact k1_w q
  · exact hQ.elim

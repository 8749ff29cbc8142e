/-! ===== contracts: the reference's looks_w at a sign ===== -/
theorem jl_0 : j32 0 = 0 := id rfl
theorem jl_1 : j32 1 = 1 := id rfl
theorem jl_2 : j32 2 = 2 := id rfl
theorem jl_3 : j32 3 = 3 := id rfl
theorem jl_4 : j32 4 = 4 := id rfl
theorem jl_5 : j32 5 = 5 := id rfl
theorem jl_6 : j32 6 = 6 := id rfl
theorem jl_7 : j32 7 = 7 := id rfl
theorem jl_8 : j32 8 = 8 := id rfl
theorem jl_9 : j32 9 = 9 := id rfl
theorem jl_10 : j32 10 = 10 := id rfl
theorem jl_11 : j32 11 = 11 := id rfl
theorem jl_12 : j32 12 = 12 := id rfl
theorem jl_13 : j32 13 = 13 := id rfl
theorem jl_14 : j32 14 = 14 := id rfl
theorem jl_15 : j32 15 = 15 := id rfl
theorem jl_16 : j32 16 = 16 := id rfl
theorem jl_17 : j32 17 = 17 := id rfl
theorem jl_18 : j32 18 = 18 := id rfl
theorem jl_19 : j32 19 = 19 := id rfl
theorem jl_20 : j32 20 = 20 := id rfl
theorem jl_21 : j32 21 = 21 := id rfl
theorem jl_22 : j32 22 = 22 := id rfl
theorem jl_23 : j32 23 = 23 := id rfl
theorem jl_24 : j32 24 = 24 := id rfl
theorem jl_25 : j32 25 = 25 := id rfl
theorem jl_26 : j32 26 = 26 := id rfl
theorem jl_27 : j32 27 = 27 := id rfl
theorem jl_28 : j32 28 = 28 := id rfl
theorem jl_29 : j32 29 = 29 := id rfl
theorem jl_30 : j32 30 = 30 := id rfl
theorem jl_31 : j32 31 = 31 := id rfl
theorem jl_32 : j32 32 = 32 := id rfl
theorem jl_33 : j32 33 = 33 := id rfl
theorem jl_34 : j32 34 = 34 := id rfl
theorem jl_35 : j32 35 = 35 := id rfl
theorem jl_36 : j32 36 = 36 := id rfl
theorem jl_37 : j32 37 = 37 := id rfl
theorem jl_38 : j32 38 = 38 := id rfl
theorem jl_39 : j32 39 = 39 := id rfl
theorem jl_40 : j32 40 = 40 := id rfl
theorem jl_95 : j32 95 = 95 := id rfl
theorem jl_96 : j32 96 = 96 := id rfl
theorem jl_97 : j32 97 = 97 := id rfl
theorem jl_98 : j32 98 = 98 := id rfl
theorem jl_99 : j32 99 = 99 := id rfl
theorem jl_100 : j32 100 = 100 := id rfl
theorem jl_101 : j32 101 = 101 := id rfl
theorem jl_102 : j32 102 = 102 := id rfl
theorem jl_103 : j32 103 = 103 := id rfl
theorem jl_104 : j32 104 = 104 := id rfl
theorem jl_105 : j32 105 = 105 := id rfl
theorem jl_106 : j32 106 = 106 := id rfl
theorem jl_107 : j32 107 = 107 := id rfl
theorem jl_108 : j32 108 = 108 := id rfl
theorem jl_109 : j32 109 = 109 := id rfl
theorem jl_110 : j32 110 = 110 := id rfl
theorem jl_111 : j32 111 = 111 := id rfl
theorem jl_112 : j32 112 = 112 := id rfl
theorem jl_113 : j32 113 = 113 := id rfl
theorem jl_114 : j32 114 = 114 := id rfl
theorem jl_186 : j32 186 = 186 := id rfl
theorem jl_1100 : j32 1100 = 1100 := id rfl
theorem ji0 {x y : Int} : j_iop 0 x y = j32 (x + y) := id rfl
theorem ji1 {x y : Int} : j_iop 1 x y = j32 (x - y) := id rfl
theorem ji2 {x y : Int} : j_iop 2 x y = j32 (x * y) := id rfl
theorem jp_e1 {p : Prop} [Decidable p] : (jp p = 1) = p := propext ⟨fun a => Decidable.of_not_not fun b => absurd ((if_neg b).symm.trans a) (by decide), fun a => if_pos a⟩
def k195 : KT := fun av h Q => match av with
  | [x, c] => x = 182 ∧ Q 1 [jp (h 182 8 = 0 ∧ h 184 (h 182 7).toNat = 3 ∧ h 186 (h 182 7).toNat = c)] (j_up h 182 7 (j32 (h 182 7 + jp (h 182 8 = 0 ∧ h 184 (h 182 7).toNat = 3 ∧ h 186 (h 182 7).toNat = c))))
  | _ => False
def k196 : KT := fun av h Q => match av with
  | [x, w] => x = 182 ∧ Q 1 [jp (h 182 8 = 0 ∧ h 184 (h 182 7).toNat = 1 ∧ h 186 (h 182 7).toNat = h 187 w.toNat)] (j_up h 182 7 (j32 (h 182 7 + jp (h 182 8 = 0 ∧ h 184 (h 182 7).toNat = 1 ∧ h 186 (h 182 7).toNat = h 187 w.toNat))))
  | _ => False
def k201 : KT := fun av h Q => match av with
  | [x, a, n] => x = 182 ∧ (0 ≤ a ∧ a ≤ 1000 ∧ 0 ≤ n ∧ n ≤ 1000) ∧ Q 1 [if h 182 8 = 0 then wHere (h 184) (h 186) (h 187) a.toNat n.toNat (h 182 7).toNat else -1] h
  | _ => False
def k203 : KT := fun av h Q => match av with
  | [x] => x = 182 ∧ Q 1 [jp (h 182 8 = 0 ∧ isNm (h 184) (h 186) (h 187) (h 182 7).toNat)] h
  | _ => False
def k204 : KT := fun av h Q => match av with
  | [x, a, n] => x = 182 ∧ ∃ l : List Int, n = (l.length : Int) ∧ 0 ≤ a ∧ a ≤ 1000 ∧ l.length ≤ 1000 ∧ (∀ k v, l[k]? = some v → h 190 (a.toNat + k) = v) ∧ Q 1 [nmAt l (h 186 (h 182 7).toNat)] h
  | _ => False
section KK2
variable {h : XH} {Q : Nat → List Int → XH → Prop} {a n c w : Int}
theorem kk_195 : k195 [182, c] h Q = Q 1 [jp (h 182 8 = 0 ∧ h 184 (h 182 7).toNat = 3 ∧ h 186 (h 182 7).toNat = c)] (j_up h 182 7 (j32 (h 182 7 + jp (h 182 8 = 0 ∧ h 184 (h 182 7).toNat = 3 ∧ h 186 (h 182 7).toNat = c)))) := propext ⟨fun a => a.2, fun a => ⟨rfl, a⟩⟩
theorem kk_196 : k196 [182, w] h Q = Q 1 [jp (h 182 8 = 0 ∧ h 184 (h 182 7).toNat = 1 ∧ h 186 (h 182 7).toNat = h 187 w.toNat)] (j_up h 182 7 (j32 (h 182 7 + jp (h 182 8 = 0 ∧ h 184 (h 182 7).toNat = 1 ∧ h 186 (h 182 7).toNat = h 187 w.toNat)))) := propext ⟨fun a => a.2, fun a => ⟨rfl, a⟩⟩
theorem kk_201 : k201 [182, a, n] h Q = ((0 ≤ a ∧ a ≤ 1000 ∧ 0 ≤ n ∧ n ≤ 1000) ∧ Q 1 [if h 182 8 = 0 then wHere (h 184) (h 186) (h 187) a.toNat n.toNat (h 182 7).toNat else -1] h) := propext ⟨fun a => a.2, fun a => ⟨rfl, a⟩⟩
theorem kk_203 : k203 [182] h Q = Q 1 [jp (h 182 8 = 0 ∧ isNm (h 184) (h 186) (h 187) (h 182 7).toNat)] h := propext ⟨fun a => a.2, fun a => ⟨rfl, a⟩⟩
theorem kk_204 : k204 [182, a, n] h Q = ∃ l : List Int, n = (l.length : Int) ∧ 0 ≤ a ∧ a ≤ 1000 ∧ l.length ≤ 1000 ∧ (∀ k v, l[k]? = some v → h 190 (a.toNat + k) = v) ∧ Q 1 [nmAt l (h 186 (h 182 7).toNat)] h := propext ⟨fun a => a.2, fun a => ⟨rfl, a⟩⟩
end KK2
def CS2 : CSt := fun f => match f with
  | 195 => k195
  | 196 => k196
  | 201 => k201
  | 203 => k203
  | 204 => k204
  | _ => CS1 f
theorem cs2_54 {av : List Int} {h : XH} {Q : Nat → List Int → XH → Prop} : CS2 54 av h Q = k54 av h Q := id rfl
theorem cs2_55 {av : List Int} {h : XH} {Q : Nat → List Int → XH → Prop} : CS2 55 av h Q = k55 av h Q := id rfl
theorem cs2_68 {av : List Int} {h : XH} {Q : Nat → List Int → XH → Prop} : CS2 68 av h Q = k68 av h Q := id rfl
theorem cs2_69 {av : List Int} {h : XH} {Q : Nat → List Int → XH → Prop} : CS2 69 av h Q = k69 av h Q := id rfl
theorem cs2_70 {av : List Int} {h : XH} {Q : Nat → List Int → XH → Prop} : CS2 70 av h Q = k70 av h Q := id rfl
theorem cs2_71 {av : List Int} {h : XH} {Q : Nat → List Int → XH → Prop} : CS2 71 av h Q = k71 av h Q := id rfl
theorem cs2_72 {av : List Int} {h : XH} {Q : Nat → List Int → XH → Prop} : CS2 72 av h Q = k72 av h Q := id rfl
theorem cs2_73 {av : List Int} {h : XH} {Q : Nat → List Int → XH → Prop} : CS2 73 av h Q = k73 av h Q := id rfl
theorem cs2_74 {av : List Int} {h : XH} {Q : Nat → List Int → XH → Prop} : CS2 74 av h Q = k74 av h Q := id rfl
theorem cs2_75 {av : List Int} {h : XH} {Q : Nat → List Int → XH → Prop} : CS2 75 av h Q = k75 av h Q := id rfl
theorem cs2_186 {av : List Int} {h : XH} {Q : Nat → List Int → XH → Prop} : CS2 186 av h Q = k186 av h Q := id rfl
theorem cs2_187 {av : List Int} {h : XH} {Q : Nat → List Int → XH → Prop} : CS2 187 av h Q = k187 av h Q := id rfl
theorem cs2_188 {av : List Int} {h : XH} {Q : Nat → List Int → XH → Prop} : CS2 188 av h Q = k188 av h Q := id rfl
theorem cs2_189 {av : List Int} {h : XH} {Q : Nat → List Int → XH → Prop} : CS2 189 av h Q = k189 av h Q := id rfl
theorem cs2_191 {av : List Int} {h : XH} {Q : Nat → List Int → XH → Prop} : CS2 191 av h Q = k191 av h Q := id rfl
theorem cs2_192 {av : List Int} {h : XH} {Q : Nat → List Int → XH → Prop} : CS2 192 av h Q = k192 av h Q := id rfl
theorem cs2_193 {av : List Int} {h : XH} {Q : Nat → List Int → XH → Prop} : CS2 193 av h Q = k193 av h Q := id rfl
theorem cs2_198 {av : List Int} {h : XH} {Q : Nat → List Int → XH → Prop} : CS2 198 av h Q = k198 av h Q := id rfl
theorem cs2_207 {av : List Int} {h : XH} {Q : Nat → List Int → XH → Prop} : CS2 207 av h Q = k207 av h Q := id rfl
theorem cs2_195 {av : List Int} {h : XH} {Q : Nat → List Int → XH → Prop} : CS2 195 av h Q = k195 av h Q := id rfl
theorem cs2_196 {av : List Int} {h : XH} {Q : Nat → List Int → XH → Prop} : CS2 196 av h Q = k196 av h Q := id rfl
theorem cs2_201 {av : List Int} {h : XH} {Q : Nat → List Int → XH → Prop} : CS2 201 av h Q = k201 av h Q := id rfl
theorem cs2_203 {av : List Int} {h : XH} {Q : Nat → List Int → XH → Prop} : CS2 203 av h Q = k203 av h Q := id rfl
theorem cs2_204 {av : List Int} {h : XH} {Q : Nat → List Int → XH → Prop} : CS2 204 av h Q = k204 av h Q := id rfl
theorem lst_lt {p : Nat → Bool} : ∀ n, lst p n < (n : Int)
  | 0 => by
    show (-1 : Int) < 0
    omega
  | n + 1 => by
    unfold lst
    have := lst_lt (p := p) n
    split <;> omega
theorem lst_ge {p : Nat → Bool} : ∀ n, -1 ≤ lst p n
  | 0 => Int.le_refl _
  | n + 1 => by
    unfold lst
    have := lst_ge (p := p) n
    split <;> omega
theorem lst_no {p : Nat → Bool} (hp : ∀ k, p k = false) : ∀ n, lst p n = -1
  | 0 => rfl
  | n + 1 => by
    unfold lst
    rw [hp n]
    exact lst_no hp n
theorem m_195 : BodyOK CS2 CS2 195 := fun av h Q hQ => by
  rw [cs2_195] at hQ
  unfold k195 at hQ
  split at hQ
  · rename_i x c
    obtain ⟨rfl, hQ⟩ := hQ
    show pS CS2 bb_195 [182, c, 0] h _
    unfold bb_195
    simp only [qe_1, qe_3, qe_4, qe_5, qe_7, qe_72, qe_10, qe_102, qe_13, qe_14, qe_15, qe_16, qe_17, qe_18, qe_20, qe_22, qe_23, qe_21, qe_24, qe_25, qe_26, qe_27, qe_28, qe_30, qe_31, qe_32, qc_20, qc_22, qc_23, qc_21, qc_24, qc_25, qc_26, qc_27, qc_1, qc_3, qc_4, qc_7, qc_13, qc_28, qc_32, qs_1, qs_2, qs_3, qs_4, qs_5, qs_6, qs_9, qs_10, qs_11, qs_14, qs_15, qs_16, qs_27, qs_17, qs_18, qs_19, qs_20, qs_22, qs_23, qs_28, qs_25, qs_26, qs_7, qs_8, kc_1, kn_1, kc_2, kn_2, kc_3, kn_3, kc_4, kn_4, kc_5, kn_5, kc_6, kn_6, kc_7, kn_7, kc_8, kn_8, kc_9, kn_9, kc_10, kn_10, kc_11, kn_11, kc_12, kn_12, kc_13, kn_13, kc_14, kn_14, kc_15, kn_15, kc_16, kc_17, kc_18, kc_19, kc_20, kc_21, kc_22, kc_23, kc_30, kc_32, kc_40, kc_43, kc_45, kc_48, kc_52, kc_56, kc_57, kc_59, kc_60, kc_61, kc_63, kc_64, kc_72, kc_78, kc_97, kc_99, kc_122, kc_126, kc_128, kc_192, kc_200, kc_255, kc_999, kc_1000, kc_9999, kn_9999, kc_10000, kc_12345, kc_65536, kc_252645135, kc_858993459, kc_1103515245, kc_1431655765, kc_2147483647, kc_0, kc_24, kc_28, kc_37, kc_41, kc_42, kc_73, kc_91, kc_95, kc_96, kc_98, kc_100, kc_112, kc_125, kc_150, kc_162, kc_163, kc_168, kc_186, kc_190, kc_250, kc_355, kc_356, kc_404, kc_405, kc_429, kc_573, kc_1002, kc_1100, kc_1891, kc_2200, kc_4719, kc_4869, kc_4881, kc_5148, kc_19741, kc_25433, kc_320403, kc_628412, kc_629093, kc_660401, kc_679843, kc_918640, kc_979410, kc_1178088, kc_6232410, kc_24644941, kc_36238189, kc_38270444, kc_392531318, kc_425693491, kc_1342154595, kc_2147483648, kc_42328242873, kc_891704255789, kc_1722105685577, kc_1858726030364, ct_0, ct_1, ct_2, ct_3, ct_4, ct_5, cf_0, cf_1, cf_2, cf_3, cf_4, cf_5, w_ty6, w_ty7, m_sv, m_z0, m_hd, m_g0, m_gs, m_s0, m_ss, m_ap, m_an, forall_const, true_and, and_true, ne_eq, not_true_eq_false, not_false_eq_true, false_implies, true_implies, implies_true, eq_self, reduceCtorEq, Nat.reduceDiv, Nat.reduceMod, Int.reduceToNat, or_true, true_or, or_false, false_or, or_self, m_it, m_if, m_c1, m_01, m_02, m_03, m_04, m_10, m_12, m_13, m_14, m_20, m_21, m_23, m_24, m_30, m_31, m_32, m_34, m_40, m_41, m_42, m_43, Int.reduceLE, Int.reduceLT, Int.reduceGE, Int.reduceGT, Int.reduceNeg, Int.reduceAdd, Int.reduceSub, Int.reduceMul, Int.reduceEq, Int.reduceNe, Nat.reduceAdd, jun2, ro_0_0, ro_0_1, ro_0_2, ro_0_3, ro_0_4, ro_0_5, ro_0_6, ro_0_7, ro_0_8, ro_0_9, ro_0_10, ro_0_11, ro_0_12, ro_1_0, ro_1_1, ro_2_0, ro_4_0, ro_6_0, ro_6_1, ro_6_2, ro_6_3, ro_6_4, ro_6_5, ro_6_6, ro_6_7, ro_6_8, ro_8_0, ro_10_0, ro_12_0, ro_14_0, ro_16_0, ro_18_0, ro_20_0, ro_22_0, ro_22_1, ro_22_2, ro_23_0, ro_25_0, ro_27_0, ro_29_0, ro_29_1, ro_29_2, ro_29_3, ro_29_4, ro_29_5, ro_29_6, ro_29_7, ro_29_8, ro_31_0, ro_33_0, ro_35_0, ro_37_0, ro_39_0, ro_41_0, ro_43_0, ro_45_0, ro_45_1, ro_45_2, ro_46_0, ro_48_0, ro_50_0, ro_52_0, ro_52_1, ro_52_2, ro_52_3, ro_53_0, ro_55_0, ro_57_0, ro_59_0, ro_61_0, ro_61_1, ro_61_2, ro_61_3, ro_62_0, ro_64_0, ro_66_0, ro_68_0, ro_70_0, ro_70_1, ro_70_2, ro_70_3, ro_70_4, ro_70_5, ro_70_6, ro_70_7, ro_70_8, ro_70_9, ro_71_0, ro_73_0, ro_75_0, ro_77_0, ro_79_0, ro_81_0, ro_83_0, ro_85_0, ro_87_0, ro_89_0, ro_91_0, ro_91_1, ro_91_2, ro_91_3, ro_91_4, ro_91_5, ro_91_6, ro_91_7, ro_91_8, ro_91_9, ro_92_0, ro_94_0, ro_96_0, ro_98_0, ro_100_0, ro_102_0, ro_104_0, ro_106_0, ro_108_0, ro_110_0, ro_112_0, ro_112_1, ro_112_2, ro_112_3, ro_112_4, ro_112_5, ro_112_6, ro_112_7, ro_112_8, ro_112_9, ro_113_0, ro_115_0, ro_117_0, ro_119_0, ro_121_0, ro_123_0, ro_125_0, ro_127_0, ro_129_0, ro_131_0, ro_133_0, ro_133_1, ro_133_2, ro_133_3, ro_133_4, ro_133_5, ro_133_6, ro_133_7, ro_133_8, ro_133_9, ro_134_0, ro_136_0, ro_138_0, ro_140_0, ro_142_0, ro_144_0, ro_146_0, ro_148_0, ro_150_0, ro_152_0, ro_154_0, ro_155_0, ro_157_0, ro_157_1, ro_157_2, ro_157_3, ro_157_4, ro_157_5, ro_157_6, ro_157_7, ro_157_8, ro_157_9, ro_158_0, ro_160_0, ro_162_0, ro_164_0, ro_166_0, ro_168_0, ro_170_0, ro_172_0, ro_174_0, ro_176_0, ro_178_0, ro_180_0, ro_182_1, ro_182_4, ro_182_5, ro_182_6, ro_182_9, ro_182_10, ro_182_11, ro_182_13, ro_182_14, ro_182_15, ro_182_16, ro_182_17, ro_182_20, ro_182_21, ro_182_22, ro_182_23, ro_182_24, ro_182_26, ro_182_27, ro_182_28, lo_3, lo_5, lo_7, lo_9, lo_11, lo_13, lo_15, lo_17, lo_19, lo_21, lo_24, lo_26, lo_28, lo_30, lo_32, lo_34, lo_36, lo_38, lo_40, lo_42, lo_44, lo_47, lo_49, lo_51, lo_54, lo_56, lo_58, lo_60, lo_63, lo_65, lo_67, lo_69, lo_72, lo_74, lo_76, lo_78, lo_80, lo_82, lo_84, lo_86, lo_88, lo_90, lo_93, lo_95, lo_97, lo_99, lo_101, lo_103, lo_105, lo_107, lo_109, lo_111, lo_114, lo_116, lo_118, lo_120, lo_122, lo_124, lo_126, lo_128, lo_130, lo_132, lo_135, lo_137, lo_139, lo_141, lo_143, lo_145, lo_147, lo_149, lo_151, lo_153, lo_156, lo_159, lo_161, lo_163, lo_165, lo_167, lo_169, lo_171, lo_173, lo_175, lo_177, lo_179, lo_181, lo_183, lo_184, lo_185, lo_186, lo_187, lo_188, lo_189, lo_190, lo_191, lo_192, lo_193, lo_194, lo_195, lo_196, lo_197, lo_198, lo_199, lo_200, lo_201, lo_202, lo_203, jp_nn, jp_eq, jp_e1, Classical.not_not, ji0, ji1, ji2, cs2_54, kk_54, cs2_55, kk_55, cs2_68, kk_68, cs2_69, kk_69, cs2_70, kk_70, cs2_71, kk_71, cs2_72, kk_72, cs2_73, kk_73, cs2_74, kk_74, cs2_75, kk_75, cs2_186, kk_186, cs2_187, kk_187, cs2_188, kk_188, cs2_189, kk_189, cs2_191, kk_191, cs2_192, kk_192, cs2_193, kk_193, cs2_198, kk_198, cs2_207, kk_207, cs2_195, kk_195, cs2_196, kk_196, cs2_201, kk_201, cs2_203, kk_203, cs2_204, kk_204]
    by_cases z : h 182 8 = 0 ∧ h 184 (h 182 7).toNat = 3 ∧ h 186 (h 182 7).toNat = c
    · rw [jp_t z] at hQ ⊢
      exact ⟨fun _ _ => hQ, fun y => absurd z y⟩
    · rw [jp_f z] at hQ ⊢
      exact ⟨fun y => absurd y z, fun _ _ => hQ⟩
  · exact hQ.elim
theorem m_196 : BodyOK CS2 CS2 196 := fun av h Q hQ => by
  rw [cs2_196] at hQ
  unfold k196 at hQ
  split at hQ
  · rename_i x c
    obtain ⟨rfl, hQ⟩ := hQ
    show pS CS2 bb_196 [182, c, 0] h _
    unfold bb_196
    simp only [qe_1, qe_3, qe_4, qe_5, qe_7, qe_72, qe_10, qe_102, qe_13, qe_14, qe_15, qe_16, qe_17, qe_18, qe_20, qe_22, qe_23, qe_21, qe_24, qe_25, qe_26, qe_27, qe_28, qe_30, qe_31, qe_32, qc_20, qc_22, qc_23, qc_21, qc_24, qc_25, qc_26, qc_27, qc_1, qc_3, qc_4, qc_7, qc_13, qc_28, qc_32, qs_1, qs_2, qs_3, qs_4, qs_5, qs_6, qs_9, qs_10, qs_11, qs_14, qs_15, qs_16, qs_27, qs_17, qs_18, qs_19, qs_20, qs_22, qs_23, qs_28, qs_25, qs_26, qs_7, qs_8, kc_1, kn_1, kc_2, kn_2, kc_3, kn_3, kc_4, kn_4, kc_5, kn_5, kc_6, kn_6, kc_7, kn_7, kc_8, kn_8, kc_9, kn_9, kc_10, kn_10, kc_11, kn_11, kc_12, kn_12, kc_13, kn_13, kc_14, kn_14, kc_15, kn_15, kc_16, kc_17, kc_18, kc_19, kc_20, kc_21, kc_22, kc_23, kc_30, kc_32, kc_40, kc_43, kc_45, kc_48, kc_52, kc_56, kc_57, kc_59, kc_60, kc_61, kc_63, kc_64, kc_72, kc_78, kc_97, kc_99, kc_122, kc_126, kc_128, kc_192, kc_200, kc_255, kc_999, kc_1000, kc_9999, kn_9999, kc_10000, kc_12345, kc_65536, kc_252645135, kc_858993459, kc_1103515245, kc_1431655765, kc_2147483647, kc_0, kc_24, kc_28, kc_37, kc_41, kc_42, kc_73, kc_91, kc_95, kc_96, kc_98, kc_100, kc_112, kc_125, kc_150, kc_162, kc_163, kc_168, kc_186, kc_190, kc_250, kc_355, kc_356, kc_404, kc_405, kc_429, kc_573, kc_1002, kc_1100, kc_1891, kc_2200, kc_4719, kc_4869, kc_4881, kc_5148, kc_19741, kc_25433, kc_320403, kc_628412, kc_629093, kc_660401, kc_679843, kc_918640, kc_979410, kc_1178088, kc_6232410, kc_24644941, kc_36238189, kc_38270444, kc_392531318, kc_425693491, kc_1342154595, kc_2147483648, kc_42328242873, kc_891704255789, kc_1722105685577, kc_1858726030364, ct_0, ct_1, ct_2, ct_3, ct_4, ct_5, cf_0, cf_1, cf_2, cf_3, cf_4, cf_5, w_ty6, w_ty7, m_sv, m_z0, m_hd, m_g0, m_gs, m_s0, m_ss, m_ap, m_an, forall_const, true_and, and_true, ne_eq, not_true_eq_false, not_false_eq_true, false_implies, true_implies, implies_true, eq_self, reduceCtorEq, Nat.reduceDiv, Nat.reduceMod, Int.reduceToNat, or_true, true_or, or_false, false_or, or_self, m_it, m_if, m_c1, m_01, m_02, m_03, m_04, m_10, m_12, m_13, m_14, m_20, m_21, m_23, m_24, m_30, m_31, m_32, m_34, m_40, m_41, m_42, m_43, Int.reduceLE, Int.reduceLT, Int.reduceGE, Int.reduceGT, Int.reduceNeg, Int.reduceAdd, Int.reduceSub, Int.reduceMul, Int.reduceEq, Int.reduceNe, Nat.reduceAdd, jun2, ro_0_0, ro_0_1, ro_0_2, ro_0_3, ro_0_4, ro_0_5, ro_0_6, ro_0_7, ro_0_8, ro_0_9, ro_0_10, ro_0_11, ro_0_12, ro_1_0, ro_1_1, ro_2_0, ro_4_0, ro_6_0, ro_6_1, ro_6_2, ro_6_3, ro_6_4, ro_6_5, ro_6_6, ro_6_7, ro_6_8, ro_8_0, ro_10_0, ro_12_0, ro_14_0, ro_16_0, ro_18_0, ro_20_0, ro_22_0, ro_22_1, ro_22_2, ro_23_0, ro_25_0, ro_27_0, ro_29_0, ro_29_1, ro_29_2, ro_29_3, ro_29_4, ro_29_5, ro_29_6, ro_29_7, ro_29_8, ro_31_0, ro_33_0, ro_35_0, ro_37_0, ro_39_0, ro_41_0, ro_43_0, ro_45_0, ro_45_1, ro_45_2, ro_46_0, ro_48_0, ro_50_0, ro_52_0, ro_52_1, ro_52_2, ro_52_3, ro_53_0, ro_55_0, ro_57_0, ro_59_0, ro_61_0, ro_61_1, ro_61_2, ro_61_3, ro_62_0, ro_64_0, ro_66_0, ro_68_0, ro_70_0, ro_70_1, ro_70_2, ro_70_3, ro_70_4, ro_70_5, ro_70_6, ro_70_7, ro_70_8, ro_70_9, ro_71_0, ro_73_0, ro_75_0, ro_77_0, ro_79_0, ro_81_0, ro_83_0, ro_85_0, ro_87_0, ro_89_0, ro_91_0, ro_91_1, ro_91_2, ro_91_3, ro_91_4, ro_91_5, ro_91_6, ro_91_7, ro_91_8, ro_91_9, ro_92_0, ro_94_0, ro_96_0, ro_98_0, ro_100_0, ro_102_0, ro_104_0, ro_106_0, ro_108_0, ro_110_0, ro_112_0, ro_112_1, ro_112_2, ro_112_3, ro_112_4, ro_112_5, ro_112_6, ro_112_7, ro_112_8, ro_112_9, ro_113_0, ro_115_0, ro_117_0, ro_119_0, ro_121_0, ro_123_0, ro_125_0, ro_127_0, ro_129_0, ro_131_0, ro_133_0, ro_133_1, ro_133_2, ro_133_3, ro_133_4, ro_133_5, ro_133_6, ro_133_7, ro_133_8, ro_133_9, ro_134_0, ro_136_0, ro_138_0, ro_140_0, ro_142_0, ro_144_0, ro_146_0, ro_148_0, ro_150_0, ro_152_0, ro_154_0, ro_155_0, ro_157_0, ro_157_1, ro_157_2, ro_157_3, ro_157_4, ro_157_5, ro_157_6, ro_157_7, ro_157_8, ro_157_9, ro_158_0, ro_160_0, ro_162_0, ro_164_0, ro_166_0, ro_168_0, ro_170_0, ro_172_0, ro_174_0, ro_176_0, ro_178_0, ro_180_0, ro_182_1, ro_182_4, ro_182_5, ro_182_6, ro_182_9, ro_182_10, ro_182_11, ro_182_13, ro_182_14, ro_182_15, ro_182_16, ro_182_17, ro_182_20, ro_182_21, ro_182_22, ro_182_23, ro_182_24, ro_182_26, ro_182_27, ro_182_28, lo_3, lo_5, lo_7, lo_9, lo_11, lo_13, lo_15, lo_17, lo_19, lo_21, lo_24, lo_26, lo_28, lo_30, lo_32, lo_34, lo_36, lo_38, lo_40, lo_42, lo_44, lo_47, lo_49, lo_51, lo_54, lo_56, lo_58, lo_60, lo_63, lo_65, lo_67, lo_69, lo_72, lo_74, lo_76, lo_78, lo_80, lo_82, lo_84, lo_86, lo_88, lo_90, lo_93, lo_95, lo_97, lo_99, lo_101, lo_103, lo_105, lo_107, lo_109, lo_111, lo_114, lo_116, lo_118, lo_120, lo_122, lo_124, lo_126, lo_128, lo_130, lo_132, lo_135, lo_137, lo_139, lo_141, lo_143, lo_145, lo_147, lo_149, lo_151, lo_153, lo_156, lo_159, lo_161, lo_163, lo_165, lo_167, lo_169, lo_171, lo_173, lo_175, lo_177, lo_179, lo_181, lo_183, lo_184, lo_185, lo_186, lo_187, lo_188, lo_189, lo_190, lo_191, lo_192, lo_193, lo_194, lo_195, lo_196, lo_197, lo_198, lo_199, lo_200, lo_201, lo_202, lo_203, jp_nn, jp_eq, jp_e1, Classical.not_not, ji0, ji1, ji2, cs2_54, kk_54, cs2_55, kk_55, cs2_68, kk_68, cs2_69, kk_69, cs2_70, kk_70, cs2_71, kk_71, cs2_72, kk_72, cs2_73, kk_73, cs2_74, kk_74, cs2_75, kk_75, cs2_186, kk_186, cs2_187, kk_187, cs2_188, kk_188, cs2_189, kk_189, cs2_191, kk_191, cs2_192, kk_192, cs2_193, kk_193, cs2_198, kk_198, cs2_207, kk_207, cs2_195, kk_195, cs2_196, kk_196, cs2_201, kk_201, cs2_203, kk_203, cs2_204, kk_204]
    by_cases z : h 182 8 = 0 ∧ h 184 (h 182 7).toNat = 1 ∧ h 186 (h 182 7).toNat = h 187 c.toNat
    · rw [jp_t z] at hQ ⊢
      exact ⟨fun _ _ => hQ, fun y => absurd z y⟩
    · rw [jp_f z] at hQ ⊢
      exact ⟨fun y => absurd y z, fun _ _ => hQ⟩
  · exact hQ.elim
theorem m_201 : BodyOK CS2 CS2 201 := fun av h Q hQ => by
  rw [cs2_201] at hQ
  unfold k201 at hQ
  split at hQ
  · rename_i x a n
    obtain ⟨rfl, ⟨a0_w, a1_w, n0_w, n1_w⟩, hQ⟩ := hQ
    show pS CS2 bb_201 [182, a, n, 0, 0] h _
    unfold bb_201
    simp only [qe_1, qe_3, qe_4, qe_5, qe_7, qe_72, qe_10, qe_102, qe_13, qe_14, qe_15, qe_16, qe_17, qe_18, qe_20, qe_22, qe_23, qe_21, qe_24, qe_25, qe_26, qe_27, qe_28, qe_30, qe_31, qe_32, qc_20, qc_22, qc_23, qc_21, qc_24, qc_25, qc_26, qc_27, qc_1, qc_3, qc_4, qc_7, qc_13, qc_28, qc_32, qs_1, qs_2, qs_3, qs_4, qs_5, qs_6, qs_9, qs_10, qs_11, qs_14, qs_15, qs_16, qs_27, qs_17, qs_18, qs_19, qs_20, qs_22, qs_23, qs_28, qs_25, qs_26, qs_7, qs_8, kc_1, kn_1, kc_2, kn_2, kc_3, kn_3, kc_4, kn_4, kc_5, kn_5, kc_6, kn_6, kc_7, kn_7, kc_8, kn_8, kc_9, kn_9, kc_10, kn_10, kc_11, kn_11, kc_12, kn_12, kc_13, kn_13, kc_14, kn_14, kc_15, kn_15, kc_16, kc_17, kc_18, kc_19, kc_20, kc_21, kc_22, kc_23, kc_30, kc_32, kc_40, kc_43, kc_45, kc_48, kc_52, kc_56, kc_57, kc_59, kc_60, kc_61, kc_63, kc_64, kc_72, kc_78, kc_97, kc_99, kc_122, kc_126, kc_128, kc_192, kc_200, kc_255, kc_999, kc_1000, kc_9999, kn_9999, kc_10000, kc_12345, kc_65536, kc_252645135, kc_858993459, kc_1103515245, kc_1431655765, kc_2147483647, kc_0, kc_24, kc_28, kc_37, kc_41, kc_42, kc_73, kc_91, kc_95, kc_96, kc_98, kc_100, kc_112, kc_125, kc_150, kc_162, kc_163, kc_168, kc_186, kc_190, kc_250, kc_355, kc_356, kc_404, kc_405, kc_429, kc_573, kc_1002, kc_1100, kc_1891, kc_2200, kc_4719, kc_4869, kc_4881, kc_5148, kc_19741, kc_25433, kc_320403, kc_628412, kc_629093, kc_660401, kc_679843, kc_918640, kc_979410, kc_1178088, kc_6232410, kc_24644941, kc_36238189, kc_38270444, kc_392531318, kc_425693491, kc_1342154595, kc_2147483648, kc_42328242873, kc_891704255789, kc_1722105685577, kc_1858726030364, ct_0, ct_1, ct_2, ct_3, ct_4, ct_5, cf_0, cf_1, cf_2, cf_3, cf_4, cf_5, w_ty6, w_ty7, m_sv, m_z0, m_hd, m_g0, m_gs, m_s0, m_ss, m_ap, m_an, forall_const, true_and, and_true, ne_eq, not_true_eq_false, not_false_eq_true, false_implies, true_implies, implies_true, eq_self, reduceCtorEq, Nat.reduceDiv, Nat.reduceMod, Int.reduceToNat, or_true, true_or, or_false, false_or, or_self, m_it, m_if, m_c1, m_01, m_02, m_03, m_04, m_10, m_12, m_13, m_14, m_20, m_21, m_23, m_24, m_30, m_31, m_32, m_34, m_40, m_41, m_42, m_43, Int.reduceLE, Int.reduceLT, Int.reduceGE, Int.reduceGT, Int.reduceNeg, Int.reduceAdd, Int.reduceSub, Int.reduceMul, Int.reduceEq, Int.reduceNe, Nat.reduceAdd, jun2, ro_0_0, ro_0_1, ro_0_2, ro_0_3, ro_0_4, ro_0_5, ro_0_6, ro_0_7, ro_0_8, ro_0_9, ro_0_10, ro_0_11, ro_0_12, ro_1_0, ro_1_1, ro_2_0, ro_4_0, ro_6_0, ro_6_1, ro_6_2, ro_6_3, ro_6_4, ro_6_5, ro_6_6, ro_6_7, ro_6_8, ro_8_0, ro_10_0, ro_12_0, ro_14_0, ro_16_0, ro_18_0, ro_20_0, ro_22_0, ro_22_1, ro_22_2, ro_23_0, ro_25_0, ro_27_0, ro_29_0, ro_29_1, ro_29_2, ro_29_3, ro_29_4, ro_29_5, ro_29_6, ro_29_7, ro_29_8, ro_31_0, ro_33_0, ro_35_0, ro_37_0, ro_39_0, ro_41_0, ro_43_0, ro_45_0, ro_45_1, ro_45_2, ro_46_0, ro_48_0, ro_50_0, ro_52_0, ro_52_1, ro_52_2, ro_52_3, ro_53_0, ro_55_0, ro_57_0, ro_59_0, ro_61_0, ro_61_1, ro_61_2, ro_61_3, ro_62_0, ro_64_0, ro_66_0, ro_68_0, ro_70_0, ro_70_1, ro_70_2, ro_70_3, ro_70_4, ro_70_5, ro_70_6, ro_70_7, ro_70_8, ro_70_9, ro_71_0, ro_73_0, ro_75_0, ro_77_0, ro_79_0, ro_81_0, ro_83_0, ro_85_0, ro_87_0, ro_89_0, ro_91_0, ro_91_1, ro_91_2, ro_91_3, ro_91_4, ro_91_5, ro_91_6, ro_91_7, ro_91_8, ro_91_9, ro_92_0, ro_94_0, ro_96_0, ro_98_0, ro_100_0, ro_102_0, ro_104_0, ro_106_0, ro_108_0, ro_110_0, ro_112_0, ro_112_1, ro_112_2, ro_112_3, ro_112_4, ro_112_5, ro_112_6, ro_112_7, ro_112_8, ro_112_9, ro_113_0, ro_115_0, ro_117_0, ro_119_0, ro_121_0, ro_123_0, ro_125_0, ro_127_0, ro_129_0, ro_131_0, ro_133_0, ro_133_1, ro_133_2, ro_133_3, ro_133_4, ro_133_5, ro_133_6, ro_133_7, ro_133_8, ro_133_9, ro_134_0, ro_136_0, ro_138_0, ro_140_0, ro_142_0, ro_144_0, ro_146_0, ro_148_0, ro_150_0, ro_152_0, ro_154_0, ro_155_0, ro_157_0, ro_157_1, ro_157_2, ro_157_3, ro_157_4, ro_157_5, ro_157_6, ro_157_7, ro_157_8, ro_157_9, ro_158_0, ro_160_0, ro_162_0, ro_164_0, ro_166_0, ro_168_0, ro_170_0, ro_172_0, ro_174_0, ro_176_0, ro_178_0, ro_180_0, ro_182_1, ro_182_4, ro_182_5, ro_182_6, ro_182_9, ro_182_10, ro_182_11, ro_182_13, ro_182_14, ro_182_15, ro_182_16, ro_182_17, ro_182_20, ro_182_21, ro_182_22, ro_182_23, ro_182_24, ro_182_26, ro_182_27, ro_182_28, lo_3, lo_5, lo_7, lo_9, lo_11, lo_13, lo_15, lo_17, lo_19, lo_21, lo_24, lo_26, lo_28, lo_30, lo_32, lo_34, lo_36, lo_38, lo_40, lo_42, lo_44, lo_47, lo_49, lo_51, lo_54, lo_56, lo_58, lo_60, lo_63, lo_65, lo_67, lo_69, lo_72, lo_74, lo_76, lo_78, lo_80, lo_82, lo_84, lo_86, lo_88, lo_90, lo_93, lo_95, lo_97, lo_99, lo_101, lo_103, lo_105, lo_107, lo_109, lo_111, lo_114, lo_116, lo_118, lo_120, lo_122, lo_124, lo_126, lo_128, lo_130, lo_132, lo_135, lo_137, lo_139, lo_141, lo_143, lo_145, lo_147, lo_149, lo_151, lo_153, lo_156, lo_159, lo_161, lo_163, lo_165, lo_167, lo_169, lo_171, lo_173, lo_175, lo_177, lo_179, lo_181, lo_183, lo_184, lo_185, lo_186, lo_187, lo_188, lo_189, lo_190, lo_191, lo_192, lo_193, lo_194, lo_195, lo_196, lo_197, lo_198, lo_199, lo_200, lo_201, lo_202, lo_203, jp_nn, jp_eq, jp_e1, Classical.not_not, ji0, ji1, ji2, cs2_54, kk_54, cs2_55, kk_55, cs2_68, kk_68, cs2_69, kk_69, cs2_70, kk_70, cs2_71, kk_71, cs2_72, kk_72, cs2_73, kk_73, cs2_74, kk_74, cs2_75, kk_75, cs2_186, kk_186, cs2_187, kk_187, cs2_188, kk_188, cs2_189, kk_189, cs2_191, kk_191, cs2_192, kk_192, cs2_193, kk_193, cs2_198, kk_198, cs2_207, kk_207, cs2_195, kk_195, cs2_196, kk_196, cs2_201, kk_201, cs2_203, kk_203, cs2_204, kk_204]
    refine qp_lp (fun en h' => h' = h ∧ ∃ k : Nat, (k : Int) ≤ n ∧ en = [182, a, n, if h 182 8 = 0 then wHere (h 184) (h 186) (h 187) a.toNat k (h 182 7).toNat else -1, (k : Int)]) ⟨rfl, 0, by omega, by
      split <;> rfl⟩ ?_
    intro en h' ⟨e1_w, k, hk, e2_w⟩
    subst e1_w e2_w
    simp only [qe_1, qe_3, qe_4, qe_5, qe_7, qe_72, qe_10, qe_102, qe_13, qe_14, qe_15, qe_16, qe_17, qe_18, qe_20, qe_22, qe_23, qe_21, qe_24, qe_25, qe_26, qe_27, qe_28, qe_30, qe_31, qe_32, qc_20, qc_22, qc_23, qc_21, qc_24, qc_25, qc_26, qc_27, qc_1, qc_3, qc_4, qc_7, qc_13, qc_28, qc_32, qs_1, qs_2, qs_3, qs_4, qs_5, qs_6, qs_9, qs_10, qs_11, qs_14, qs_15, qs_16, qs_27, qs_17, qs_18, qs_19, qs_20, qs_22, qs_23, qs_28, qs_25, qs_26, qs_7, qs_8, kc_1, kn_1, kc_2, kn_2, kc_3, kn_3, kc_4, kn_4, kc_5, kn_5, kc_6, kn_6, kc_7, kn_7, kc_8, kn_8, kc_9, kn_9, kc_10, kn_10, kc_11, kn_11, kc_12, kn_12, kc_13, kn_13, kc_14, kn_14, kc_15, kn_15, kc_16, kc_17, kc_18, kc_19, kc_20, kc_21, kc_22, kc_23, kc_30, kc_32, kc_40, kc_43, kc_45, kc_48, kc_52, kc_56, kc_57, kc_59, kc_60, kc_61, kc_63, kc_64, kc_72, kc_78, kc_97, kc_99, kc_122, kc_126, kc_128, kc_192, kc_200, kc_255, kc_999, kc_1000, kc_9999, kn_9999, kc_10000, kc_12345, kc_65536, kc_252645135, kc_858993459, kc_1103515245, kc_1431655765, kc_2147483647, kc_0, kc_24, kc_28, kc_37, kc_41, kc_42, kc_73, kc_91, kc_95, kc_96, kc_98, kc_100, kc_112, kc_125, kc_150, kc_162, kc_163, kc_168, kc_186, kc_190, kc_250, kc_355, kc_356, kc_404, kc_405, kc_429, kc_573, kc_1002, kc_1100, kc_1891, kc_2200, kc_4719, kc_4869, kc_4881, kc_5148, kc_19741, kc_25433, kc_320403, kc_628412, kc_629093, kc_660401, kc_679843, kc_918640, kc_979410, kc_1178088, kc_6232410, kc_24644941, kc_36238189, kc_38270444, kc_392531318, kc_425693491, kc_1342154595, kc_2147483648, kc_42328242873, kc_891704255789, kc_1722105685577, kc_1858726030364, ct_0, ct_1, ct_2, ct_3, ct_4, ct_5, cf_0, cf_1, cf_2, cf_3, cf_4, cf_5, w_ty6, w_ty7, m_sv, m_z0, m_hd, m_g0, m_gs, m_s0, m_ss, m_ap, m_an, forall_const, true_and, and_true, ne_eq, not_true_eq_false, not_false_eq_true, false_implies, true_implies, implies_true, eq_self, reduceCtorEq, Nat.reduceDiv, Nat.reduceMod, Int.reduceToNat, or_true, true_or, or_false, false_or, or_self, m_it, m_if, m_c1, m_01, m_02, m_03, m_04, m_10, m_12, m_13, m_14, m_20, m_21, m_23, m_24, m_30, m_31, m_32, m_34, m_40, m_41, m_42, m_43, Int.reduceLE, Int.reduceLT, Int.reduceGE, Int.reduceGT, Int.reduceNeg, Int.reduceAdd, Int.reduceSub, Int.reduceMul, Int.reduceEq, Int.reduceNe, Nat.reduceAdd, jun2, ro_0_0, ro_0_1, ro_0_2, ro_0_3, ro_0_4, ro_0_5, ro_0_6, ro_0_7, ro_0_8, ro_0_9, ro_0_10, ro_0_11, ro_0_12, ro_1_0, ro_1_1, ro_2_0, ro_4_0, ro_6_0, ro_6_1, ro_6_2, ro_6_3, ro_6_4, ro_6_5, ro_6_6, ro_6_7, ro_6_8, ro_8_0, ro_10_0, ro_12_0, ro_14_0, ro_16_0, ro_18_0, ro_20_0, ro_22_0, ro_22_1, ro_22_2, ro_23_0, ro_25_0, ro_27_0, ro_29_0, ro_29_1, ro_29_2, ro_29_3, ro_29_4, ro_29_5, ro_29_6, ro_29_7, ro_29_8, ro_31_0, ro_33_0, ro_35_0, ro_37_0, ro_39_0, ro_41_0, ro_43_0, ro_45_0, ro_45_1, ro_45_2, ro_46_0, ro_48_0, ro_50_0, ro_52_0, ro_52_1, ro_52_2, ro_52_3, ro_53_0, ro_55_0, ro_57_0, ro_59_0, ro_61_0, ro_61_1, ro_61_2, ro_61_3, ro_62_0, ro_64_0, ro_66_0, ro_68_0, ro_70_0, ro_70_1, ro_70_2, ro_70_3, ro_70_4, ro_70_5, ro_70_6, ro_70_7, ro_70_8, ro_70_9, ro_71_0, ro_73_0, ro_75_0, ro_77_0, ro_79_0, ro_81_0, ro_83_0, ro_85_0, ro_87_0, ro_89_0, ro_91_0, ro_91_1, ro_91_2, ro_91_3, ro_91_4, ro_91_5, ro_91_6, ro_91_7, ro_91_8, ro_91_9, ro_92_0, ro_94_0, ro_96_0, ro_98_0, ro_100_0, ro_102_0, ro_104_0, ro_106_0, ro_108_0, ro_110_0, ro_112_0, ro_112_1, ro_112_2, ro_112_3, ro_112_4, ro_112_5, ro_112_6, ro_112_7, ro_112_8, ro_112_9, ro_113_0, ro_115_0, ro_117_0, ro_119_0, ro_121_0, ro_123_0, ro_125_0, ro_127_0, ro_129_0, ro_131_0, ro_133_0, ro_133_1, ro_133_2, ro_133_3, ro_133_4, ro_133_5, ro_133_6, ro_133_7, ro_133_8, ro_133_9, ro_134_0, ro_136_0, ro_138_0, ro_140_0, ro_142_0, ro_144_0, ro_146_0, ro_148_0, ro_150_0, ro_152_0, ro_154_0, ro_155_0, ro_157_0, ro_157_1, ro_157_2, ro_157_3, ro_157_4, ro_157_5, ro_157_6, ro_157_7, ro_157_8, ro_157_9, ro_158_0, ro_160_0, ro_162_0, ro_164_0, ro_166_0, ro_168_0, ro_170_0, ro_172_0, ro_174_0, ro_176_0, ro_178_0, ro_180_0, ro_182_1, ro_182_4, ro_182_5, ro_182_6, ro_182_9, ro_182_10, ro_182_11, ro_182_13, ro_182_14, ro_182_15, ro_182_16, ro_182_17, ro_182_20, ro_182_21, ro_182_22, ro_182_23, ro_182_24, ro_182_26, ro_182_27, ro_182_28, lo_3, lo_5, lo_7, lo_9, lo_11, lo_13, lo_15, lo_17, lo_19, lo_21, lo_24, lo_26, lo_28, lo_30, lo_32, lo_34, lo_36, lo_38, lo_40, lo_42, lo_44, lo_47, lo_49, lo_51, lo_54, lo_56, lo_58, lo_60, lo_63, lo_65, lo_67, lo_69, lo_72, lo_74, lo_76, lo_78, lo_80, lo_82, lo_84, lo_86, lo_88, lo_90, lo_93, lo_95, lo_97, lo_99, lo_101, lo_103, lo_105, lo_107, lo_109, lo_111, lo_114, lo_116, lo_118, lo_120, lo_122, lo_124, lo_126, lo_128, lo_130, lo_132, lo_135, lo_137, lo_139, lo_141, lo_143, lo_145, lo_147, lo_149, lo_151, lo_153, lo_156, lo_159, lo_161, lo_163, lo_165, lo_167, lo_169, lo_171, lo_173, lo_175, lo_177, lo_179, lo_181, lo_183, lo_184, lo_185, lo_186, lo_187, lo_188, lo_189, lo_190, lo_191, lo_192, lo_193, lo_194, lo_195, lo_196, lo_197, lo_198, lo_199, lo_200, lo_201, lo_202, lo_203, jp_nn, jp_eq, jp_e1, Classical.not_not, ji0, ji1, ji2, cs2_54, kk_54, cs2_55, kk_55, cs2_68, kk_68, cs2_69, kk_69, cs2_70, kk_70, cs2_71, kk_71, cs2_72, kk_72, cs2_73, kk_73, cs2_74, kk_74, cs2_75, kk_75, cs2_186, kk_186, cs2_187, kk_187, cs2_188, kk_188, cs2_189, kk_189, cs2_191, kk_191, cs2_192, kk_192, cs2_193, kk_193, cs2_198, kk_198, cs2_207, kk_207, cs2_195, kk_195, cs2_196, kk_196, cs2_201, kk_201, cs2_203, kk_203, cs2_204, kk_204]
    refine ⟨fun y => ?_, fun y => ?_⟩
    · rw [j32_id (x := a + (k : Int)) (by omega) (by omega), j32_id (x := (k : Int) + 1) (by omega) (by omega)]
      rw [show (a + (k : Int)).toNat = a.toNat + k by omega]
      have e : wHere (h' 184) (h' 186) (h' 187) a.toNat (k + 1) (h' 182 7).toNat = if sWd (h' 184) (h' 186) (h' 187) (a.toNat + k) (h' 182 7).toNat then (k : Int) else wHere (h' 184) (h' 186) (h' 187) a.toNat k (h' 182 7).toNat := by
        unfold wHere
        rw [lst]
        simp only [decide_eq_true_eq]
      by_cases z : h' 182 8 = 0
      · simp only [z, true_and, if_true] at *
        refine ⟨fun w => ⟨k + 1, by omega, ?_⟩, fun w => ⟨k + 1, by omega, ?_⟩⟩
        · rw [e, if_pos w]
          rfl
        · rw [e, if_neg w]
          rfl
      · simp only [z, false_and, if_false] at *
        refine ⟨fun w => w.elim, fun _ => ⟨k + 1, by omega, rfl⟩⟩
    · have : k = n.toNat := by omega
      subst this
      exact hQ
  · exact hQ.elim
theorem m_203 : BodyOK CS2 CS2 203 := fun av h Q hQ => by
  rw [cs2_203] at hQ
  unfold k203 at hQ
  split at hQ
  · rename_i x
    obtain ⟨rfl, hQ⟩ := hQ
    show pS CS2 bb_203 [182] h _
    unfold bb_203
    simp only [qe_1, qe_3, qe_4, qe_5, qe_7, qe_72, qe_10, qe_102, qe_13, qe_14, qe_15, qe_16, qe_17, qe_18, qe_20, qe_22, qe_23, qe_21, qe_24, qe_25, qe_26, qe_27, qe_28, qe_30, qe_31, qe_32, qc_20, qc_22, qc_23, qc_21, qc_24, qc_25, qc_26, qc_27, qc_1, qc_3, qc_4, qc_7, qc_13, qc_28, qc_32, qs_1, qs_2, qs_3, qs_4, qs_5, qs_6, qs_9, qs_10, qs_11, qs_14, qs_15, qs_16, qs_27, qs_17, qs_18, qs_19, qs_20, qs_22, qs_23, qs_28, qs_25, qs_26, qs_7, qs_8, kc_1, kn_1, kc_2, kn_2, kc_3, kn_3, kc_4, kn_4, kc_5, kn_5, kc_6, kn_6, kc_7, kn_7, kc_8, kn_8, kc_9, kn_9, kc_10, kn_10, kc_11, kn_11, kc_12, kn_12, kc_13, kn_13, kc_14, kn_14, kc_15, kn_15, kc_16, kc_17, kc_18, kc_19, kc_20, kc_21, kc_22, kc_23, kc_30, kc_32, kc_40, kc_43, kc_45, kc_48, kc_52, kc_56, kc_57, kc_59, kc_60, kc_61, kc_63, kc_64, kc_72, kc_78, kc_97, kc_99, kc_122, kc_126, kc_128, kc_192, kc_200, kc_255, kc_999, kc_1000, kc_9999, kn_9999, kc_10000, kc_12345, kc_65536, kc_252645135, kc_858993459, kc_1103515245, kc_1431655765, kc_2147483647, kc_0, kc_24, kc_28, kc_37, kc_41, kc_42, kc_73, kc_91, kc_95, kc_96, kc_98, kc_100, kc_112, kc_125, kc_150, kc_162, kc_163, kc_168, kc_186, kc_190, kc_250, kc_355, kc_356, kc_404, kc_405, kc_429, kc_573, kc_1002, kc_1100, kc_1891, kc_2200, kc_4719, kc_4869, kc_4881, kc_5148, kc_19741, kc_25433, kc_320403, kc_628412, kc_629093, kc_660401, kc_679843, kc_918640, kc_979410, kc_1178088, kc_6232410, kc_24644941, kc_36238189, kc_38270444, kc_392531318, kc_425693491, kc_1342154595, kc_2147483648, kc_42328242873, kc_891704255789, kc_1722105685577, kc_1858726030364, ct_0, ct_1, ct_2, ct_3, ct_4, ct_5, cf_0, cf_1, cf_2, cf_3, cf_4, cf_5, w_ty6, w_ty7, m_sv, m_z0, m_hd, m_g0, m_gs, m_s0, m_ss, m_ap, m_an, forall_const, true_and, and_true, ne_eq, not_true_eq_false, not_false_eq_true, false_implies, true_implies, implies_true, eq_self, reduceCtorEq, Nat.reduceDiv, Nat.reduceMod, Int.reduceToNat, or_true, true_or, or_false, false_or, or_self, m_it, m_if, m_c1, m_01, m_02, m_03, m_04, m_10, m_12, m_13, m_14, m_20, m_21, m_23, m_24, m_30, m_31, m_32, m_34, m_40, m_41, m_42, m_43, Int.reduceLE, Int.reduceLT, Int.reduceGE, Int.reduceGT, Int.reduceNeg, Int.reduceAdd, Int.reduceSub, Int.reduceMul, Int.reduceEq, Int.reduceNe, Nat.reduceAdd, jun2, ro_0_0, ro_0_1, ro_0_2, ro_0_3, ro_0_4, ro_0_5, ro_0_6, ro_0_7, ro_0_8, ro_0_9, ro_0_10, ro_0_11, ro_0_12, ro_1_0, ro_1_1, ro_2_0, ro_4_0, ro_6_0, ro_6_1, ro_6_2, ro_6_3, ro_6_4, ro_6_5, ro_6_6, ro_6_7, ro_6_8, ro_8_0, ro_10_0, ro_12_0, ro_14_0, ro_16_0, ro_18_0, ro_20_0, ro_22_0, ro_22_1, ro_22_2, ro_23_0, ro_25_0, ro_27_0, ro_29_0, ro_29_1, ro_29_2, ro_29_3, ro_29_4, ro_29_5, ro_29_6, ro_29_7, ro_29_8, ro_31_0, ro_33_0, ro_35_0, ro_37_0, ro_39_0, ro_41_0, ro_43_0, ro_45_0, ro_45_1, ro_45_2, ro_46_0, ro_48_0, ro_50_0, ro_52_0, ro_52_1, ro_52_2, ro_52_3, ro_53_0, ro_55_0, ro_57_0, ro_59_0, ro_61_0, ro_61_1, ro_61_2, ro_61_3, ro_62_0, ro_64_0, ro_66_0, ro_68_0, ro_70_0, ro_70_1, ro_70_2, ro_70_3, ro_70_4, ro_70_5, ro_70_6, ro_70_7, ro_70_8, ro_70_9, ro_71_0, ro_73_0, ro_75_0, ro_77_0, ro_79_0, ro_81_0, ro_83_0, ro_85_0, ro_87_0, ro_89_0, ro_91_0, ro_91_1, ro_91_2, ro_91_3, ro_91_4, ro_91_5, ro_91_6, ro_91_7, ro_91_8, ro_91_9, ro_92_0, ro_94_0, ro_96_0, ro_98_0, ro_100_0, ro_102_0, ro_104_0, ro_106_0, ro_108_0, ro_110_0, ro_112_0, ro_112_1, ro_112_2, ro_112_3, ro_112_4, ro_112_5, ro_112_6, ro_112_7, ro_112_8, ro_112_9, ro_113_0, ro_115_0, ro_117_0, ro_119_0, ro_121_0, ro_123_0, ro_125_0, ro_127_0, ro_129_0, ro_131_0, ro_133_0, ro_133_1, ro_133_2, ro_133_3, ro_133_4, ro_133_5, ro_133_6, ro_133_7, ro_133_8, ro_133_9, ro_134_0, ro_136_0, ro_138_0, ro_140_0, ro_142_0, ro_144_0, ro_146_0, ro_148_0, ro_150_0, ro_152_0, ro_154_0, ro_155_0, ro_157_0, ro_157_1, ro_157_2, ro_157_3, ro_157_4, ro_157_5, ro_157_6, ro_157_7, ro_157_8, ro_157_9, ro_158_0, ro_160_0, ro_162_0, ro_164_0, ro_166_0, ro_168_0, ro_170_0, ro_172_0, ro_174_0, ro_176_0, ro_178_0, ro_180_0, ro_182_1, ro_182_4, ro_182_5, ro_182_6, ro_182_9, ro_182_10, ro_182_11, ro_182_13, ro_182_14, ro_182_15, ro_182_16, ro_182_17, ro_182_20, ro_182_21, ro_182_22, ro_182_23, ro_182_24, ro_182_26, ro_182_27, ro_182_28, lo_3, lo_5, lo_7, lo_9, lo_11, lo_13, lo_15, lo_17, lo_19, lo_21, lo_24, lo_26, lo_28, lo_30, lo_32, lo_34, lo_36, lo_38, lo_40, lo_42, lo_44, lo_47, lo_49, lo_51, lo_54, lo_56, lo_58, lo_60, lo_63, lo_65, lo_67, lo_69, lo_72, lo_74, lo_76, lo_78, lo_80, lo_82, lo_84, lo_86, lo_88, lo_90, lo_93, lo_95, lo_97, lo_99, lo_101, lo_103, lo_105, lo_107, lo_109, lo_111, lo_114, lo_116, lo_118, lo_120, lo_122, lo_124, lo_126, lo_128, lo_130, lo_132, lo_135, lo_137, lo_139, lo_141, lo_143, lo_145, lo_147, lo_149, lo_151, lo_153, lo_156, lo_159, lo_161, lo_163, lo_165, lo_167, lo_169, lo_171, lo_173, lo_175, lo_177, lo_179, lo_181, lo_183, lo_184, lo_185, lo_186, lo_187, lo_188, lo_189, lo_190, lo_191, lo_192, lo_193, lo_194, lo_195, lo_196, lo_197, lo_198, lo_199, lo_200, lo_201, lo_202, lo_203, jp_nn, jp_eq, jp_e1, Classical.not_not, ji0, ji1, ji2, cs2_54, kk_54, cs2_55, kk_55, cs2_68, kk_68, cs2_69, kk_69, cs2_70, kk_70, cs2_71, kk_71, cs2_72, kk_72, cs2_73, kk_73, cs2_74, kk_74, cs2_75, kk_75, cs2_186, kk_186, cs2_187, kk_187, cs2_188, kk_188, cs2_189, kk_189, cs2_191, kk_191, cs2_192, kk_192, cs2_193, kk_193, cs2_198, kk_198, cs2_207, kk_207, cs2_195, kk_195, cs2_196, kk_196, cs2_201, kk_201, cs2_203, kk_203, cs2_204, kk_204]
    refine ⟨fun y => ?_, fun y => ?_⟩
    · intro _
      rw [if_pos y]
      refine ⟨fun y1 => ⟨fun y2 => ?_, fun y2 => ?_⟩, fun y1 => ?_⟩
      · rwa [jp_t ⟨y, y1, y2⟩] at hQ
      · rwa [jp_f (fun w => by have := w.2.2; omega)] at hQ
      · rwa [jp_f (fun w => y1 w.2.1)] at hQ
    · rwa [jp_f (fun w => y w.1)] at hQ
  · exact hQ.elim
theorem m_204 : BodyOK CS2 CS2 204 := fun av h Q hQ => by
  rw [cs2_204] at hQ
  unfold k204 at hQ
  split at hQ
  · rename_i x a n
    obtain ⟨rfl, l, rfl, a0_w, a1_w, n1_w, hl, hQ⟩ := hQ
    show pS CS2 bb_204 [182, a, (l.length : Int), 0, 0] h _
    unfold bb_204
    simp only [qe_1, qe_3, qe_4, qe_5, qe_7, qe_72, qe_10, qe_102, qe_13, qe_14, qe_15, qe_16, qe_17, qe_18, qe_20, qe_22, qe_23, qe_21, qe_24, qe_25, qe_26, qe_27, qe_28, qe_30, qe_31, qe_32, qc_20, qc_22, qc_23, qc_21, qc_24, qc_25, qc_26, qc_27, qc_1, qc_3, qc_4, qc_7, qc_13, qc_28, qc_32, qs_1, qs_2, qs_3, qs_4, qs_5, qs_6, qs_9, qs_10, qs_11, qs_14, qs_15, qs_16, qs_27, qs_17, qs_18, qs_19, qs_20, qs_22, qs_23, qs_28, qs_25, qs_26, qs_7, qs_8, kc_1, kn_1, kc_2, kn_2, kc_3, kn_3, kc_4, kn_4, kc_5, kn_5, kc_6, kn_6, kc_7, kn_7, kc_8, kn_8, kc_9, kn_9, kc_10, kn_10, kc_11, kn_11, kc_12, kn_12, kc_13, kn_13, kc_14, kn_14, kc_15, kn_15, kc_16, kc_17, kc_18, kc_19, kc_20, kc_21, kc_22, kc_23, kc_30, kc_32, kc_40, kc_43, kc_45, kc_48, kc_52, kc_56, kc_57, kc_59, kc_60, kc_61, kc_63, kc_64, kc_72, kc_78, kc_97, kc_99, kc_122, kc_126, kc_128, kc_192, kc_200, kc_255, kc_999, kc_1000, kc_9999, kn_9999, kc_10000, kc_12345, kc_65536, kc_252645135, kc_858993459, kc_1103515245, kc_1431655765, kc_2147483647, kc_0, kc_24, kc_28, kc_37, kc_41, kc_42, kc_73, kc_91, kc_95, kc_96, kc_98, kc_100, kc_112, kc_125, kc_150, kc_162, kc_163, kc_168, kc_186, kc_190, kc_250, kc_355, kc_356, kc_404, kc_405, kc_429, kc_573, kc_1002, kc_1100, kc_1891, kc_2200, kc_4719, kc_4869, kc_4881, kc_5148, kc_19741, kc_25433, kc_320403, kc_628412, kc_629093, kc_660401, kc_679843, kc_918640, kc_979410, kc_1178088, kc_6232410, kc_24644941, kc_36238189, kc_38270444, kc_392531318, kc_425693491, kc_1342154595, kc_2147483648, kc_42328242873, kc_891704255789, kc_1722105685577, kc_1858726030364, ct_0, ct_1, ct_2, ct_3, ct_4, ct_5, cf_0, cf_1, cf_2, cf_3, cf_4, cf_5, w_ty6, w_ty7, m_sv, m_z0, m_hd, m_g0, m_gs, m_s0, m_ss, m_ap, m_an, forall_const, true_and, and_true, ne_eq, not_true_eq_false, not_false_eq_true, false_implies, true_implies, implies_true, eq_self, reduceCtorEq, Nat.reduceDiv, Nat.reduceMod, Int.reduceToNat, or_true, true_or, or_false, false_or, or_self, m_it, m_if, m_c1, m_01, m_02, m_03, m_04, m_10, m_12, m_13, m_14, m_20, m_21, m_23, m_24, m_30, m_31, m_32, m_34, m_40, m_41, m_42, m_43, Int.reduceLE, Int.reduceLT, Int.reduceGE, Int.reduceGT, Int.reduceNeg, Int.reduceAdd, Int.reduceSub, Int.reduceMul, Int.reduceEq, Int.reduceNe, Nat.reduceAdd, jun2, ro_0_0, ro_0_1, ro_0_2, ro_0_3, ro_0_4, ro_0_5, ro_0_6, ro_0_7, ro_0_8, ro_0_9, ro_0_10, ro_0_11, ro_0_12, ro_1_0, ro_1_1, ro_2_0, ro_4_0, ro_6_0, ro_6_1, ro_6_2, ro_6_3, ro_6_4, ro_6_5, ro_6_6, ro_6_7, ro_6_8, ro_8_0, ro_10_0, ro_12_0, ro_14_0, ro_16_0, ro_18_0, ro_20_0, ro_22_0, ro_22_1, ro_22_2, ro_23_0, ro_25_0, ro_27_0, ro_29_0, ro_29_1, ro_29_2, ro_29_3, ro_29_4, ro_29_5, ro_29_6, ro_29_7, ro_29_8, ro_31_0, ro_33_0, ro_35_0, ro_37_0, ro_39_0, ro_41_0, ro_43_0, ro_45_0, ro_45_1, ro_45_2, ro_46_0, ro_48_0, ro_50_0, ro_52_0, ro_52_1, ro_52_2, ro_52_3, ro_53_0, ro_55_0, ro_57_0, ro_59_0, ro_61_0, ro_61_1, ro_61_2, ro_61_3, ro_62_0, ro_64_0, ro_66_0, ro_68_0, ro_70_0, ro_70_1, ro_70_2, ro_70_3, ro_70_4, ro_70_5, ro_70_6, ro_70_7, ro_70_8, ro_70_9, ro_71_0, ro_73_0, ro_75_0, ro_77_0, ro_79_0, ro_81_0, ro_83_0, ro_85_0, ro_87_0, ro_89_0, ro_91_0, ro_91_1, ro_91_2, ro_91_3, ro_91_4, ro_91_5, ro_91_6, ro_91_7, ro_91_8, ro_91_9, ro_92_0, ro_94_0, ro_96_0, ro_98_0, ro_100_0, ro_102_0, ro_104_0, ro_106_0, ro_108_0, ro_110_0, ro_112_0, ro_112_1, ro_112_2, ro_112_3, ro_112_4, ro_112_5, ro_112_6, ro_112_7, ro_112_8, ro_112_9, ro_113_0, ro_115_0, ro_117_0, ro_119_0, ro_121_0, ro_123_0, ro_125_0, ro_127_0, ro_129_0, ro_131_0, ro_133_0, ro_133_1, ro_133_2, ro_133_3, ro_133_4, ro_133_5, ro_133_6, ro_133_7, ro_133_8, ro_133_9, ro_134_0, ro_136_0, ro_138_0, ro_140_0, ro_142_0, ro_144_0, ro_146_0, ro_148_0, ro_150_0, ro_152_0, ro_154_0, ro_155_0, ro_157_0, ro_157_1, ro_157_2, ro_157_3, ro_157_4, ro_157_5, ro_157_6, ro_157_7, ro_157_8, ro_157_9, ro_158_0, ro_160_0, ro_162_0, ro_164_0, ro_166_0, ro_168_0, ro_170_0, ro_172_0, ro_174_0, ro_176_0, ro_178_0, ro_180_0, ro_182_1, ro_182_4, ro_182_5, ro_182_6, ro_182_9, ro_182_10, ro_182_11, ro_182_13, ro_182_14, ro_182_15, ro_182_16, ro_182_17, ro_182_20, ro_182_21, ro_182_22, ro_182_23, ro_182_24, ro_182_26, ro_182_27, ro_182_28, lo_3, lo_5, lo_7, lo_9, lo_11, lo_13, lo_15, lo_17, lo_19, lo_21, lo_24, lo_26, lo_28, lo_30, lo_32, lo_34, lo_36, lo_38, lo_40, lo_42, lo_44, lo_47, lo_49, lo_51, lo_54, lo_56, lo_58, lo_60, lo_63, lo_65, lo_67, lo_69, lo_72, lo_74, lo_76, lo_78, lo_80, lo_82, lo_84, lo_86, lo_88, lo_90, lo_93, lo_95, lo_97, lo_99, lo_101, lo_103, lo_105, lo_107, lo_109, lo_111, lo_114, lo_116, lo_118, lo_120, lo_122, lo_124, lo_126, lo_128, lo_130, lo_132, lo_135, lo_137, lo_139, lo_141, lo_143, lo_145, lo_147, lo_149, lo_151, lo_153, lo_156, lo_159, lo_161, lo_163, lo_165, lo_167, lo_169, lo_171, lo_173, lo_175, lo_177, lo_179, lo_181, lo_183, lo_184, lo_185, lo_186, lo_187, lo_188, lo_189, lo_190, lo_191, lo_192, lo_193, lo_194, lo_195, lo_196, lo_197, lo_198, lo_199, lo_200, lo_201, lo_202, lo_203, jp_nn, jp_eq, jp_e1, Classical.not_not, ji0, ji1, ji2, cs2_54, kk_54, cs2_55, kk_55, cs2_68, kk_68, cs2_69, kk_69, cs2_70, kk_70, cs2_71, kk_71, cs2_72, kk_72, cs2_73, kk_73, cs2_74, kk_74, cs2_75, kk_75, cs2_186, kk_186, cs2_187, kk_187, cs2_188, kk_188, cs2_189, kk_189, cs2_191, kk_191, cs2_192, kk_192, cs2_193, kk_193, cs2_198, kk_198, cs2_207, kk_207, cs2_195, kk_195, cs2_196, kk_196, cs2_201, kk_201, cs2_203, kk_203, cs2_204, kk_204]
    refine qp_lp (fun en h' => h' = h ∧ ∃ k : Nat, k ≤ l.length ∧ en = [182, a, (l.length : Int), lst (fun k => decide (l[k]? = some (h 186 (h 182 7).toNat))) k, (k : Int)]) ⟨rfl, 0, by omega, rfl⟩ ?_
    intro en h' ⟨e1_w, k, hk, e2_w⟩
    subst e1_w e2_w
    simp only [qe_1, qe_3, qe_4, qe_5, qe_7, qe_72, qe_10, qe_102, qe_13, qe_14, qe_15, qe_16, qe_17, qe_18, qe_20, qe_22, qe_23, qe_21, qe_24, qe_25, qe_26, qe_27, qe_28, qe_30, qe_31, qe_32, qc_20, qc_22, qc_23, qc_21, qc_24, qc_25, qc_26, qc_27, qc_1, qc_3, qc_4, qc_7, qc_13, qc_28, qc_32, qs_1, qs_2, qs_3, qs_4, qs_5, qs_6, qs_9, qs_10, qs_11, qs_14, qs_15, qs_16, qs_27, qs_17, qs_18, qs_19, qs_20, qs_22, qs_23, qs_28, qs_25, qs_26, qs_7, qs_8, kc_1, kn_1, kc_2, kn_2, kc_3, kn_3, kc_4, kn_4, kc_5, kn_5, kc_6, kn_6, kc_7, kn_7, kc_8, kn_8, kc_9, kn_9, kc_10, kn_10, kc_11, kn_11, kc_12, kn_12, kc_13, kn_13, kc_14, kn_14, kc_15, kn_15, kc_16, kc_17, kc_18, kc_19, kc_20, kc_21, kc_22, kc_23, kc_30, kc_32, kc_40, kc_43, kc_45, kc_48, kc_52, kc_56, kc_57, kc_59, kc_60, kc_61, kc_63, kc_64, kc_72, kc_78, kc_97, kc_99, kc_122, kc_126, kc_128, kc_192, kc_200, kc_255, kc_999, kc_1000, kc_9999, kn_9999, kc_10000, kc_12345, kc_65536, kc_252645135, kc_858993459, kc_1103515245, kc_1431655765, kc_2147483647, kc_0, kc_24, kc_28, kc_37, kc_41, kc_42, kc_73, kc_91, kc_95, kc_96, kc_98, kc_100, kc_112, kc_125, kc_150, kc_162, kc_163, kc_168, kc_186, kc_190, kc_250, kc_355, kc_356, kc_404, kc_405, kc_429, kc_573, kc_1002, kc_1100, kc_1891, kc_2200, kc_4719, kc_4869, kc_4881, kc_5148, kc_19741, kc_25433, kc_320403, kc_628412, kc_629093, kc_660401, kc_679843, kc_918640, kc_979410, kc_1178088, kc_6232410, kc_24644941, kc_36238189, kc_38270444, kc_392531318, kc_425693491, kc_1342154595, kc_2147483648, kc_42328242873, kc_891704255789, kc_1722105685577, kc_1858726030364, ct_0, ct_1, ct_2, ct_3, ct_4, ct_5, cf_0, cf_1, cf_2, cf_3, cf_4, cf_5, w_ty6, w_ty7, m_sv, m_z0, m_hd, m_g0, m_gs, m_s0, m_ss, m_ap, m_an, forall_const, true_and, and_true, ne_eq, not_true_eq_false, not_false_eq_true, false_implies, true_implies, implies_true, eq_self, reduceCtorEq, Nat.reduceDiv, Nat.reduceMod, Int.reduceToNat, or_true, true_or, or_false, false_or, or_self, m_it, m_if, m_c1, m_01, m_02, m_03, m_04, m_10, m_12, m_13, m_14, m_20, m_21, m_23, m_24, m_30, m_31, m_32, m_34, m_40, m_41, m_42, m_43, Int.reduceLE, Int.reduceLT, Int.reduceGE, Int.reduceGT, Int.reduceNeg, Int.reduceAdd, Int.reduceSub, Int.reduceMul, Int.reduceEq, Int.reduceNe, Nat.reduceAdd, jun2, ro_0_0, ro_0_1, ro_0_2, ro_0_3, ro_0_4, ro_0_5, ro_0_6, ro_0_7, ro_0_8, ro_0_9, ro_0_10, ro_0_11, ro_0_12, ro_1_0, ro_1_1, ro_2_0, ro_4_0, ro_6_0, ro_6_1, ro_6_2, ro_6_3, ro_6_4, ro_6_5, ro_6_6, ro_6_7, ro_6_8, ro_8_0, ro_10_0, ro_12_0, ro_14_0, ro_16_0, ro_18_0, ro_20_0, ro_22_0, ro_22_1, ro_22_2, ro_23_0, ro_25_0, ro_27_0, ro_29_0, ro_29_1, ro_29_2, ro_29_3, ro_29_4, ro_29_5, ro_29_6, ro_29_7, ro_29_8, ro_31_0, ro_33_0, ro_35_0, ro_37_0, ro_39_0, ro_41_0, ro_43_0, ro_45_0, ro_45_1, ro_45_2, ro_46_0, ro_48_0, ro_50_0, ro_52_0, ro_52_1, ro_52_2, ro_52_3, ro_53_0, ro_55_0, ro_57_0, ro_59_0, ro_61_0, ro_61_1, ro_61_2, ro_61_3, ro_62_0, ro_64_0, ro_66_0, ro_68_0, ro_70_0, ro_70_1, ro_70_2, ro_70_3, ro_70_4, ro_70_5, ro_70_6, ro_70_7, ro_70_8, ro_70_9, ro_71_0, ro_73_0, ro_75_0, ro_77_0, ro_79_0, ro_81_0, ro_83_0, ro_85_0, ro_87_0, ro_89_0, ro_91_0, ro_91_1, ro_91_2, ro_91_3, ro_91_4, ro_91_5, ro_91_6, ro_91_7, ro_91_8, ro_91_9, ro_92_0, ro_94_0, ro_96_0, ro_98_0, ro_100_0, ro_102_0, ro_104_0, ro_106_0, ro_108_0, ro_110_0, ro_112_0, ro_112_1, ro_112_2, ro_112_3, ro_112_4, ro_112_5, ro_112_6, ro_112_7, ro_112_8, ro_112_9, ro_113_0, ro_115_0, ro_117_0, ro_119_0, ro_121_0, ro_123_0, ro_125_0, ro_127_0, ro_129_0, ro_131_0, ro_133_0, ro_133_1, ro_133_2, ro_133_3, ro_133_4, ro_133_5, ro_133_6, ro_133_7, ro_133_8, ro_133_9, ro_134_0, ro_136_0, ro_138_0, ro_140_0, ro_142_0, ro_144_0, ro_146_0, ro_148_0, ro_150_0, ro_152_0, ro_154_0, ro_155_0, ro_157_0, ro_157_1, ro_157_2, ro_157_3, ro_157_4, ro_157_5, ro_157_6, ro_157_7, ro_157_8, ro_157_9, ro_158_0, ro_160_0, ro_162_0, ro_164_0, ro_166_0, ro_168_0, ro_170_0, ro_172_0, ro_174_0, ro_176_0, ro_178_0, ro_180_0, ro_182_1, ro_182_4, ro_182_5, ro_182_6, ro_182_9, ro_182_10, ro_182_11, ro_182_13, ro_182_14, ro_182_15, ro_182_16, ro_182_17, ro_182_20, ro_182_21, ro_182_22, ro_182_23, ro_182_24, ro_182_26, ro_182_27, ro_182_28, lo_3, lo_5, lo_7, lo_9, lo_11, lo_13, lo_15, lo_17, lo_19, lo_21, lo_24, lo_26, lo_28, lo_30, lo_32, lo_34, lo_36, lo_38, lo_40, lo_42, lo_44, lo_47, lo_49, lo_51, lo_54, lo_56, lo_58, lo_60, lo_63, lo_65, lo_67, lo_69, lo_72, lo_74, lo_76, lo_78, lo_80, lo_82, lo_84, lo_86, lo_88, lo_90, lo_93, lo_95, lo_97, lo_99, lo_101, lo_103, lo_105, lo_107, lo_109, lo_111, lo_114, lo_116, lo_118, lo_120, lo_122, lo_124, lo_126, lo_128, lo_130, lo_132, lo_135, lo_137, lo_139, lo_141, lo_143, lo_145, lo_147, lo_149, lo_151, lo_153, lo_156, lo_159, lo_161, lo_163, lo_165, lo_167, lo_169, lo_171, lo_173, lo_175, lo_177, lo_179, lo_181, lo_183, lo_184, lo_185, lo_186, lo_187, lo_188, lo_189, lo_190, lo_191, lo_192, lo_193, lo_194, lo_195, lo_196, lo_197, lo_198, lo_199, lo_200, lo_201, lo_202, lo_203, jp_nn, jp_eq, jp_e1, Classical.not_not, ji0, ji1, ji2, cs2_54, kk_54, cs2_55, kk_55, cs2_68, kk_68, cs2_69, kk_69, cs2_70, kk_70, cs2_71, kk_71, cs2_72, kk_72, cs2_73, kk_73, cs2_74, kk_74, cs2_75, kk_75, cs2_186, kk_186, cs2_187, kk_187, cs2_188, kk_188, cs2_189, kk_189, cs2_191, kk_191, cs2_192, kk_192, cs2_193, kk_193, cs2_198, kk_198, cs2_207, kk_207, cs2_195, kk_195, cs2_196, kk_196, cs2_201, kk_201, cs2_203, kk_203, cs2_204, kk_204]
    refine ⟨fun y => ?_, fun y => ?_⟩
    · rw [j32_id (x := a + (k : Int)) (by omega) (by omega), j32_id (x := (k : Int) + 1) (by omega) (by omega)]
      rw [show (a + (k : Int)).toNat = a.toNat + k by omega]
      have hk2 : k < l.length := by omega
      have hv := hl k l[k] (List.getElem?_eq_getElem hk2)
      rw [hv]
      have e : lst (fun k => decide (l[k]? = some (h' 186 (h' 182 7).toNat))) (k + 1) = if l[k] = h' 186 (h' 182 7).toNat then (k : Int) else lst (fun k => decide (l[k]? = some (h' 186 (h' 182 7).toNat))) k := by
        rw [lst]
        simp only [decide_eq_true_eq, List.getElem?_eq_getElem hk2, Option.some.injEq]
      intro _ _
      refine ⟨fun w => ⟨k + 1, by omega, ?_⟩, fun w => ⟨k + 1, by omega, ?_⟩⟩
      · rw [e, if_pos w]
        rfl
      · rw [e, if_neg w]
        rfl
    · have : k = l.length := by omega
      subst this
      exact hQ
  · exact hQ.elim
theorem snd_2 {xs : Nat → Int} {L K : Nat} : ∀ n, SndC CS2 (evF xs L g_ck K g_cW g_M n) := snd_all snd_1 (fun f av h Q hQ => by
  unfold CS2 at hQ
  split at hQ
  · exact Or.inr m_195
  · exact Or.inr m_196
  · exact Or.inr m_201
  · exact Or.inr m_203
  · exact Or.inr m_204
  · exact Or.inl hQ)

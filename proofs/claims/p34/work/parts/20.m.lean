section
/-! ===== contracts: what is_w tried in a book_w: swing, gains, bears, heaviest ===== -/
def supL (a : Nat → Int) (m : Nat) (u : Int) : Nat → Int := fun q => if 78 + 12 * m ≤ q ∧ q < 78 + 12 * m + 12 then u else a q
def okGn (D : DD) : List Int → Prop
  | [m, u] => (0 ≤ m ∧ m < (nM D : Int)) ∧ 0 ≤ u ∧ u < (nU D : Int)
  | _ => False
def vGn (D : DD) (a : Nat → Int) : List Int → Int
  | [m, u] => sumA D (supL a m.toNat u) u.toNat - sumA D a u.toNat
  | _ => 0
section BKS
variable {D : DD} {a b : Nat → Int} {m u k : Nat} {v : Int}
theorem sumA_b (w : WFD D) (ra : RGA D a) : -64800000 ≤ sumA D a u ∧ sumA D a u ≤ 64800000 := by
  have s12 := w.cn.2.2.2.1
  have B := sumN_b (f := fun s => shrA D a s u) (B := 5400000) (nS D) (fun k hk => shrA_b w ra hk)
  show -64800000 ≤ sumN (fun s => shrA D a s u) (nS D) ∧ sumN (fun s => shrA D a s u) (nS D) ≤ 64800000
  omega
theorem RGA.up (r : RGA D a) (hk : k < 78) (hv : -1 ≤ v ∧ v ≤ 9999) : RGA D (updF a k v) := ⟨fun q z => by
  by_cases y : q = k
  · rw [y, updF_at]
    exact hv
  · rw [updF_ne y]
    exact r.1 q z, fun q z1 z2 => by
  rw [updF_ne (by omega)]
  exact r.2.1 q z1 z2, fun q z1 z2 => by
  rw [updF_ne (by omega)]
  exact r.2.2 q z1 z2⟩
theorem RGA.su (r : RGA D a) (m6_w : nM D ≤ 6) (hm_w : m < nM D) (hv : 0 ≤ v ∧ v ≤ 3) : RGA D (supL a m v) := ⟨fun q z => by
  unfold supL
  rw [if_neg (by omega)]
  exact r.1 q z, fun q z1 z2 => by
  unfold supL
  split
  · exact hv
  · exact r.2.1 q z1 z2, fun q z1 z2 => by
  unfold supL
  rw [if_neg (by omega)]
  exact r.2.2 q z1 z2⟩
theorem supL_e (e : EqD D a b) : EqD D (supL a m v) (supL b m v) := fun q i => by
  unfold supL
  split
  · rfl
  · exact e q i
end BKS
/-- a question_w, by what it is_w asked_w with; what it answers_w -/
def kCLq (ok : DD → List Int → Prop) (v : DD → (Nat → Int) → List Int → Int) : KT := fun av h Q => av.head? = some 0 ∧ ∃ D : DD, SETP D h ∧ (¬ ok D av.tail → ∀ h', Q 4 [] h') ∧ (ok D av.tail → ∀ h', Q 1 [v D (cl 70 h) av.tail] h')
def kRL (ok : DD → List Int → Prop) (v : DD → (Nat → Int) → List Int → Int) : KT := fun av h Q => av.head? = some 182 ∧ ∃ D : DD, RSET D h ∧ (¬ ok D av.tail → ∀ h', h' 182 0 = 1 → Q 1 [0] h') ∧ (ok D av.tail → ∀ h', h' 182 0 = 0 → Q 1 [v D (bl 0 h) av.tail] h')
/-- a book_w is_w opened_w: what lies there_w is_w tried -/
def OPC (h h' : XH) : Prop := (∀ x k : Nat, ¬ (91 ≤ x ∧ x ≤ 111) → ¬ (x = 0 ∧ k = 15) → h' x k = h x k) ∧ ∀ q : Nat, q ≤ 162 → cl 91 h' q = cl 70 h q
def k37 : KT := fun av h Q => match av with
  | [o] => o = 0 ∧ ∀ h', OPC h h' → Q 1 [] h'
  | _ => False
def k38 : KT := fun av h Q => match av with
  | [o, u] => o = 0 ∧ ∃ (D : DD) (un : Nat), WFD D ∧ CDw 6 D h ∧ (0 < nC D → LWC D h) ∧ RGA D (cl 70 h) ∧ RGA D (cl 91 h) ∧ u = (un : Int) ∧ un < nU D ∧ ∀ h', Q 1 [sumA D (cl 91 h) un - sumA D (cl 70 h) un] h'
  | _ => False
def k34u : KT := fun av h Q => match av with
  | [o, m, u] => kCLq okGn vGn [o, m, u] h Q
  | _ => False
def k300c : KT := fun av h Q => match av with
  | [o, m, u] => kRL okGn vGn [o, m, u] h Q
  | _ => False
section KKR0
variable {h h' h1 h2 : XH} {Q : Nat → List Int → XH → Prop} {t m p v u : Int} {D : DD}
theorem kk_37 : k37 [0] h Q = ∀ h', OPC h h' → Q 1 [] h' := propext ⟨fun a => a.2, fun a => ⟨rfl, a⟩⟩
theorem kk_38 : k38 [0, u] h Q = ∃ (D : DD) (un : Nat), WFD D ∧ CDw 6 D h ∧ (0 < nC D → LWC D h) ∧ RGA D (cl 70 h) ∧ RGA D (cl 91 h) ∧ u = (un : Int) ∧ un < nU D ∧ ∀ h', Q 1 [sumA D (cl 91 h) un - sumA D (cl 70 h) un] h' := propext ⟨fun a => a.2, fun a => ⟨rfl, a⟩⟩
theorem kk_34u : k34u [t, m, u] h Q = kCLq okGn vGn [t, m, u] h Q := id rfl
theorem kk_300c : k300c [t, m, u] h Q = kRL okGn vGn [t, m, u] h Q := id rfl
theorem SETP.fr (r : SETP D h) (z : ∀ o k : Nat, (6 ≤ o ∧ o ≤ 24) ∨ (70 ≤ o ∧ o ≤ 90) → h' o k = h o k) : SETP D h' ∧ cl 70 h' = cl 70 h := by
  have e : cl 70 h' = cl 70 h := cl_eq (fun o k a b => z o k (Or.inr ⟨a, by omega⟩))
  refine ⟨⟨r.1, r.2.1.fr (fun o k a b => z o k (Or.inl ⟨a, b⟩)), fun y => (r.2.2.1 y).fr (z 22 3 (Or.inl ⟨by decide, by decide⟩)) (fun k => z 24 k (Or.inl ⟨by decide, by decide⟩)), ?_⟩, e⟩
  rw [e]
  exact r.2.2.2
theorem OPC.setp (o : OPC h h') (r : SETP D h) : SETP D h' ∧ cl 70 h' = cl 70 h := r.fr (fun x k a => o.1 x k (by omega) (by omega))
theorem OPC.eq (o : OPC h h') (r : SETP D h) : EqD D (cl 91 h') (cl 70 h) := EqD.of r.1.cn.2.2.1 r.1.cn.2.2.2.1 o.2
theorem RSET.fr2 (r : RSET D h) (z1 : ∀ k : Nat, h' 188 k = h 188 k) (z2 : ∀ k : Nat, h' 189 k = h 189 k) (z3 : ∀ k : Nat, h' 190 k = h 190 k) (z4 : ∀ q : Nat, q < 404 → h' 194 q = h 194 q) : RSET D h' ∧ EqD D (bl 0 h') (bl 0 h) := by
  have e : EqD D (bl 0 h') (bl 0 h) := EqD.of r.1.cn.2.2.1 r.1.cn.2.2.2.1 (fun q y => z4 (0 + q) (by omega))
  refine ⟨⟨r.1, r.2.1.fr3 (fun x k a => ?_), r.2.2.1.fr (fun x k a => ?_), RGA.cg e r.2.2.2⟩, e⟩
  · rcases a with rfl | rfl | rfl
    · exact z1 k
    · exact z2 k
    · exact z3 k
  · rcases a with rfl | rfl
    · exact z1 k
    · exact z2 k
theorem opn_eq {x : Int} (op_w : OPN (j_up h 182 0 x) h1) (q : Nat) (z : q < 404) : h1 194 (4719 + q) = bl 0 h q := (op_w.2.2 q z).trans ((up_ne (by omega)).trans (by
  show h 194 q = h 194 (0 + q)
  rw [Nat.zero_add]))
end KKR0
def CS74 : CSt := fun f => match f with
  | 37 => k37
  | 38 => k38
  | 300 => k300c
  | _ => CS73 f
theorem cs74_54 {av : List Int} {h : XH} {Q : Nat → List Int → XH → Prop} : CS74 54 av h Q = k54 av h Q := id rfl
theorem cs74_143 {av : List Int} {h : XH} {Q : Nat → List Int → XH → Prop} : CS74 143 av h Q = k143 av h Q := id rfl
theorem cs74_235 {av : List Int} {h : XH} {Q : Nat → List Int → XH → Prop} : CS74 235 av h Q = k235 av h Q := id rfl
theorem cs74_237 {av : List Int} {h : XH} {Q : Nat → List Int → XH → Prop} : CS74 237 av h Q = k237 av h Q := id rfl
theorem cs74_266 {av : List Int} {h : XH} {Q : Nat → List Int → XH → Prop} : CS74 266 av h Q = k266 av h Q := id rfl
theorem cs74_274 {av : List Int} {h : XH} {Q : Nat → List Int → XH → Prop} : CS74 274 av h Q = k274 av h Q := id rfl
theorem cs74_298 {av : List Int} {h : XH} {Q : Nat → List Int → XH → Prop} : CS74 298 av h Q = k298 av h Q := id rfl
theorem cs74_176 {av : List Int} {h : XH} {Q : Nat → List Int → XH → Prop} : CS74 176 av h Q = k176 av h Q := id rfl
theorem cs74_258 {av : List Int} {h : XH} {Q : Nat → List Int → XH → Prop} : CS74 258 av h Q = k258 av h Q := id rfl
theorem cs74_37 {av : List Int} {h : XH} {Q : Nat → List Int → XH → Prop} : CS74 37 av h Q = k37 av h Q := id rfl
theorem cs74_38 {av : List Int} {h : XH} {Q : Nat → List Int → XH → Prop} : CS74 38 av h Q = k38 av h Q := id rfl
theorem cs74_300 {av : List Int} {h : XH} {Q : Nat → List Int → XH → Prop} : CS74 300 av h Q = k300c av h Q := id rfl
theorem m_37 : BodyOK CS74 CS74 37 := fun av h Q hQ => by
  rw [cs74_37] at hQ
  unfold k37 at hQ
  split at hQ
  · rename_i o
    obtain ⟨rfl, hQ⟩ := hQ
    show pS CS74 bb_37 [0] h _
    unfold bb_37
    simp only [qe_1, qe_3, qe_4, qe_5, qe_7, qe_72, qe_10, qe_102, qe_13, qe_14, qe_15, qe_16, qe_17, qe_18, qe_20, qe_22, qe_23, qe_21, qe_24, qe_25, qe_26, qe_27, qe_28, qe_30, qe_31, qe_32, qc_20, qc_22, qc_23, qc_21, qc_24, qc_25, qc_26, qc_27, qc_1, qc_3, qc_4, qc_7, qc_13, qc_28, qc_32, qs_1, qs_2, qs_3, qs_4, qs_5, qs_6, qs_9, qs_10, qs_11, qs_14, qs_15, qs_16, qs_27, qs_17, qs_18, qs_19, qs_20, qs_22, qs_23, qs_28, qs_25, qs_26, qs_7, qs_8, kc_1, kn_1, kc_2, kn_2, kc_3, kn_3, kc_4, kn_4, kc_5, kn_5, kc_6, kn_6, kc_7, kn_7, kc_8, kn_8, kc_9, kn_9, kc_10, kn_10, kc_11, kn_11, kc_12, kn_12, kc_13, kn_13, kc_14, kn_14, kc_15, kn_15, kc_16, kc_17, kc_18, kc_19, kc_20, kc_21, kc_22, kc_23, kc_30, kc_32, kc_40, kc_43, kc_45, kc_48, kc_52, kc_56, kc_57, kc_59, kc_60, kc_61, kc_63, kc_64, kc_72, kc_78, kc_97, kc_99, kc_122, kc_126, kc_128, kc_192, kc_200, kc_255, kc_999, kc_1000, kc_9999, kn_9999, kc_10000, kc_12345, kc_65536, kc_252645135, kc_858993459, kc_1103515245, kc_1431655765, kc_2147483647, kc_0, kc_24, kc_28, kc_37, kc_41, kc_42, kc_73, kc_91, kc_95, kc_96, kc_98, kc_100, kc_112, kc_125, kc_150, kc_162, kc_163, kc_168, kc_186, kc_190, kc_250, kc_355, kc_356, kc_404, kc_405, kc_429, kc_573, kc_1002, kc_1100, kc_1891, kc_2200, kc_4719, kc_4869, kc_4881, kc_5148, kc_19741, kc_25433, kc_320403, kc_628412, kc_629093, kc_660401, kc_679843, kc_918640, kc_979410, kc_1178088, kc_6232410, kc_24644941, kc_36238189, kc_38270444, kc_392531318, kc_425693491, kc_1342154595, kc_2147483648, kc_42328242873, kc_891704255789, kc_1722105685577, kc_1858726030364, ct_0, ct_1, ct_2, ct_3, ct_4, ct_5, cf_0, cf_1, cf_2, cf_3, cf_4, cf_5, w_ty6, w_ty7, m_sv, m_z0, m_hd, m_g0, m_gs, m_s0, m_ss, m_ap, m_an, forall_const, true_and, and_true, ne_eq, not_true_eq_false, not_false_eq_true, false_implies, true_implies, implies_true, eq_self, reduceCtorEq, Nat.reduceDiv, Nat.reduceMod, Int.reduceToNat, or_true, true_or, or_false, false_or, or_self, m_it, m_if, m_c1, m_01, m_02, m_03, m_04, m_10, m_12, m_13, m_14, m_20, m_21, m_23, m_24, m_30, m_31, m_32, m_34, m_40, m_41, m_42, m_43, Int.reduceLE, Int.reduceLT, Int.reduceGE, Int.reduceGT, Int.reduceNeg, Int.reduceAdd, Int.reduceSub, Int.reduceMul, Int.reduceEq, Int.reduceNe, Nat.reduceAdd, jun2, ro_0_0, ro_0_1, ro_0_2, ro_0_3, ro_0_4, ro_0_5, ro_0_6, ro_0_7, ro_0_8, ro_0_9, ro_0_10, ro_0_11, ro_0_12, ro_1_0, ro_1_1, ro_2_0, ro_4_0, ro_6_0, ro_6_1, ro_6_2, ro_6_3, ro_6_4, ro_6_5, ro_6_6, ro_6_7, ro_6_8, ro_8_0, ro_10_0, ro_12_0, ro_14_0, ro_16_0, ro_18_0, ro_20_0, ro_22_0, ro_22_1, ro_22_2, ro_23_0, ro_25_0, ro_27_0, ro_29_0, ro_29_1, ro_29_2, ro_29_3, ro_29_4, ro_29_5, ro_29_6, ro_29_7, ro_29_8, ro_31_0, ro_33_0, ro_35_0, ro_37_0, ro_39_0, ro_41_0, ro_43_0, ro_45_0, ro_45_1, ro_45_2, ro_46_0, ro_48_0, ro_50_0, ro_52_0, ro_52_1, ro_52_2, ro_52_3, ro_53_0, ro_55_0, ro_57_0, ro_59_0, ro_61_0, ro_61_1, ro_61_2, ro_61_3, ro_62_0, ro_64_0, ro_66_0, ro_68_0, ro_70_0, ro_70_1, ro_70_2, ro_70_3, ro_70_4, ro_70_5, ro_70_6, ro_70_7, ro_70_8, ro_70_9, ro_71_0, ro_73_0, ro_75_0, ro_77_0, ro_79_0, ro_81_0, ro_83_0, ro_85_0, ro_87_0, ro_89_0, ro_91_0, ro_91_1, ro_91_2, ro_91_3, ro_91_4, ro_91_5, ro_91_6, ro_91_7, ro_91_8, ro_91_9, ro_92_0, ro_94_0, ro_96_0, ro_98_0, ro_100_0, ro_102_0, ro_104_0, ro_106_0, ro_108_0, ro_110_0, ro_112_0, ro_112_1, ro_112_2, ro_112_3, ro_112_4, ro_112_5, ro_112_6, ro_112_7, ro_112_8, ro_112_9, ro_113_0, ro_115_0, ro_117_0, ro_119_0, ro_121_0, ro_123_0, ro_125_0, ro_127_0, ro_129_0, ro_131_0, ro_133_0, ro_133_1, ro_133_2, ro_133_3, ro_133_4, ro_133_5, ro_133_6, ro_133_7, ro_133_8, ro_133_9, ro_134_0, ro_136_0, ro_138_0, ro_140_0, ro_142_0, ro_144_0, ro_146_0, ro_148_0, ro_150_0, ro_152_0, ro_154_0, ro_155_0, ro_157_0, ro_157_1, ro_157_2, ro_157_3, ro_157_4, ro_157_5, ro_157_6, ro_157_7, ro_157_8, ro_157_9, ro_158_0, ro_160_0, ro_162_0, ro_164_0, ro_166_0, ro_168_0, ro_170_0, ro_172_0, ro_174_0, ro_176_0, ro_178_0, ro_180_0, ro_182_1, ro_182_4, ro_182_5, ro_182_6, ro_182_9, ro_182_10, ro_182_11, ro_182_13, ro_182_14, ro_182_15, ro_182_16, ro_182_17, ro_182_20, ro_182_21, ro_182_22, ro_182_23, ro_182_24, ro_182_26, ro_182_27, ro_182_28, lo_3, lo_5, lo_7, lo_9, lo_11, lo_13, lo_15, lo_17, lo_19, lo_21, lo_24, lo_26, lo_28, lo_30, lo_32, lo_34, lo_36, lo_38, lo_40, lo_42, lo_44, lo_47, lo_49, lo_51, lo_54, lo_56, lo_58, lo_60, lo_63, lo_65, lo_67, lo_69, lo_72, lo_74, lo_76, lo_78, lo_80, lo_82, lo_84, lo_86, lo_88, lo_90, lo_93, lo_95, lo_97, lo_99, lo_101, lo_103, lo_105, lo_107, lo_109, lo_111, lo_114, lo_116, lo_118, lo_120, lo_122, lo_124, lo_126, lo_128, lo_130, lo_132, lo_135, lo_137, lo_139, lo_141, lo_143, lo_145, lo_147, lo_149, lo_151, lo_153, lo_156, lo_159, lo_161, lo_163, lo_165, lo_167, lo_169, lo_171, lo_173, lo_175, lo_177, lo_179, lo_181, lo_183, lo_184, lo_185, lo_186, lo_187, lo_188, lo_189, lo_190, lo_191, lo_192, lo_193, lo_194, lo_195, lo_196, lo_197, lo_198, lo_199, lo_200, lo_201, lo_202, lo_203, jp_nn, jp_eq, jp_e1, Classical.not_not, ji0, ji1, ji2, cs74_143, kk_143, jl_0, jl_1, jl_2, jl_3, jl_4, jl_5, jl_6, jl_7, jl_8, jl_9, jl_10, jl_11, jl_12, jl_13, jl_14, jl_15, jl_16, jl_17, jl_18, jl_19, jl_20, jl_21, jl_22, jl_23, jl_24, jl_25, jl_26, jl_27, jl_28, jl_29, jl_30, jl_31, jl_32, jl_33, jl_34, jl_35, jl_36, jl_37, jl_38, jl_39, jl_40, jl_95, jl_96, jl_97, jl_98, jl_99, jl_100, jl_101, jl_102, jl_103, jl_104, jl_105, jl_106, jl_107, jl_108, jl_109, jl_110, jl_111, jl_112, jl_113, jl_114, jl_186, jl_1100, jr, ju, jpT, jpF, tnc, Nat.reduceEqDiff, reduceIte, and_false, false_and, not_true_eq_false, not_false_eq_true, or_false, gt_iff_lt, ge_iff_le, Int.lt_irrefl, Int.le_refl]
    refine ⟨91, 70, ⟨rfl, rfl, Or.inl ⟨rfl, rfl⟩⟩, fun h' lc => hQ h' ⟨fun x k a b => (lc.1 x k a).trans (up_ne b), fun q z => ?_⟩⟩
    obtain ⟨-, l2, l4, l6, -, -, -, -, -, -, -, l10, -⟩ := lc
    by_cases y : q < 78
    · rw [cl_lo y, cl_lo y, l2 q y]
      exact up_ne (by omega)
    · by_cases y2 : q < 150
      · rw [cl_su (by omega) y2, cl_su (by omega) y2, l4 (q - 78) (by omega)]
        exact up_ne (by omega)
      · by_cases y3 : q < 162
        · rw [cl_fe (by omega) y3, cl_fe (by omega) y3, l6 (q - 150) (by omega)]
          exact up_ne (by omega)
        · have e1_w : cl 91 h' q = h' 91 10 := (if_neg y).trans ((if_neg y2).trans (if_neg y3))
          have e2_w : cl 70 h q = h 70 10 := (if_neg y).trans ((if_neg y2).trans (if_neg y3))
          rw [e1_w, e2_w, l10]
          exact up_ne (by omega)
  · exact hQ.elim
theorem m_38 : BodyOK CS74 CS74 38 := fun av h Q hQ => by
  rw [cs74_38] at hQ
  unfold k38 at hQ
  split at hQ
  · rename_i o u
    obtain ⟨rfl, D, un, w, cd, lw, ra, rb, rfl, hu, hQ⟩ := hQ
    obtain ⟨c4, u4_w, m6_w, s12, eD⟩ := w.cn
    have nst : ∀ p, p < 28 ∨ (29 ≤ p ∧ p ≤ 158) ∨ 178 ≤ p → ¬ stO p := fun p a z => by
      unfold stO smW at z
      omega
    show pS CS74 bb_38 [0, (un : Int)] h _
    unfold bb_38
    simp only [qe_1, qe_3, qe_4, qe_5, qe_7, qe_72, qe_10, qe_102, qe_13, qe_14, qe_15, qe_16, qe_17, qe_18, qe_20, qe_22, qe_23, qe_21, qe_24, qe_25, qe_26, qe_27, qe_28, qe_30, qe_31, qe_32, qc_20, qc_22, qc_23, qc_21, qc_24, qc_25, qc_26, qc_27, qc_1, qc_3, qc_4, qc_7, qc_13, qc_28, qc_32, qs_1, qs_2, qs_3, qs_4, qs_5, qs_6, qs_9, qs_10, qs_11, qs_14, qs_15, qs_16, qs_27, qs_17, qs_18, qs_19, qs_20, qs_22, qs_23, qs_28, qs_25, qs_26, qs_7, qs_8, kc_1, kn_1, kc_2, kn_2, kc_3, kn_3, kc_4, kn_4, kc_5, kn_5, kc_6, kn_6, kc_7, kn_7, kc_8, kn_8, kc_9, kn_9, kc_10, kn_10, kc_11, kn_11, kc_12, kn_12, kc_13, kn_13, kc_14, kn_14, kc_15, kn_15, kc_16, kc_17, kc_18, kc_19, kc_20, kc_21, kc_22, kc_23, kc_30, kc_32, kc_40, kc_43, kc_45, kc_48, kc_52, kc_56, kc_57, kc_59, kc_60, kc_61, kc_63, kc_64, kc_72, kc_78, kc_97, kc_99, kc_122, kc_126, kc_128, kc_192, kc_200, kc_255, kc_999, kc_1000, kc_9999, kn_9999, kc_10000, kc_12345, kc_65536, kc_252645135, kc_858993459, kc_1103515245, kc_1431655765, kc_2147483647, kc_0, kc_24, kc_28, kc_37, kc_41, kc_42, kc_73, kc_91, kc_95, kc_96, kc_98, kc_100, kc_112, kc_125, kc_150, kc_162, kc_163, kc_168, kc_186, kc_190, kc_250, kc_355, kc_356, kc_404, kc_405, kc_429, kc_573, kc_1002, kc_1100, kc_1891, kc_2200, kc_4719, kc_4869, kc_4881, kc_5148, kc_19741, kc_25433, kc_320403, kc_628412, kc_629093, kc_660401, kc_679843, kc_918640, kc_979410, kc_1178088, kc_6232410, kc_24644941, kc_36238189, kc_38270444, kc_392531318, kc_425693491, kc_1342154595, kc_2147483648, kc_42328242873, kc_891704255789, kc_1722105685577, kc_1858726030364, ct_0, ct_1, ct_2, ct_3, ct_4, ct_5, cf_0, cf_1, cf_2, cf_3, cf_4, cf_5, w_ty6, w_ty7, m_sv, m_z0, m_hd, m_g0, m_gs, m_s0, m_ss, m_ap, m_an, forall_const, true_and, and_true, ne_eq, not_true_eq_false, not_false_eq_true, false_implies, true_implies, implies_true, eq_self, reduceCtorEq, Nat.reduceDiv, Nat.reduceMod, Int.reduceToNat, or_true, true_or, or_false, false_or, or_self, m_it, m_if, m_c1, m_01, m_02, m_03, m_04, m_10, m_12, m_13, m_14, m_20, m_21, m_23, m_24, m_30, m_31, m_32, m_34, m_40, m_41, m_42, m_43, Int.reduceLE, Int.reduceLT, Int.reduceGE, Int.reduceGT, Int.reduceNeg, Int.reduceAdd, Int.reduceSub, Int.reduceMul, Int.reduceEq, Int.reduceNe, Nat.reduceAdd, jun2, ro_0_0, ro_0_1, ro_0_2, ro_0_3, ro_0_4, ro_0_5, ro_0_6, ro_0_7, ro_0_8, ro_0_9, ro_0_10, ro_0_11, ro_0_12, ro_1_0, ro_1_1, ro_2_0, ro_4_0, ro_6_0, ro_6_1, ro_6_2, ro_6_3, ro_6_4, ro_6_5, ro_6_6, ro_6_7, ro_6_8, ro_8_0, ro_10_0, ro_12_0, ro_14_0, ro_16_0, ro_18_0, ro_20_0, ro_22_0, ro_22_1, ro_22_2, ro_23_0, ro_25_0, ro_27_0, ro_29_0, ro_29_1, ro_29_2, ro_29_3, ro_29_4, ro_29_5, ro_29_6, ro_29_7, ro_29_8, ro_31_0, ro_33_0, ro_35_0, ro_37_0, ro_39_0, ro_41_0, ro_43_0, ro_45_0, ro_45_1, ro_45_2, ro_46_0, ro_48_0, ro_50_0, ro_52_0, ro_52_1, ro_52_2, ro_52_3, ro_53_0, ro_55_0, ro_57_0, ro_59_0, ro_61_0, ro_61_1, ro_61_2, ro_61_3, ro_62_0, ro_64_0, ro_66_0, ro_68_0, ro_70_0, ro_70_1, ro_70_2, ro_70_3, ro_70_4, ro_70_5, ro_70_6, ro_70_7, ro_70_8, ro_70_9, ro_71_0, ro_73_0, ro_75_0, ro_77_0, ro_79_0, ro_81_0, ro_83_0, ro_85_0, ro_87_0, ro_89_0, ro_91_0, ro_91_1, ro_91_2, ro_91_3, ro_91_4, ro_91_5, ro_91_6, ro_91_7, ro_91_8, ro_91_9, ro_92_0, ro_94_0, ro_96_0, ro_98_0, ro_100_0, ro_102_0, ro_104_0, ro_106_0, ro_108_0, ro_110_0, ro_112_0, ro_112_1, ro_112_2, ro_112_3, ro_112_4, ro_112_5, ro_112_6, ro_112_7, ro_112_8, ro_112_9, ro_113_0, ro_115_0, ro_117_0, ro_119_0, ro_121_0, ro_123_0, ro_125_0, ro_127_0, ro_129_0, ro_131_0, ro_133_0, ro_133_1, ro_133_2, ro_133_3, ro_133_4, ro_133_5, ro_133_6, ro_133_7, ro_133_8, ro_133_9, ro_134_0, ro_136_0, ro_138_0, ro_140_0, ro_142_0, ro_144_0, ro_146_0, ro_148_0, ro_150_0, ro_152_0, ro_154_0, ro_155_0, ro_157_0, ro_157_1, ro_157_2, ro_157_3, ro_157_4, ro_157_5, ro_157_6, ro_157_7, ro_157_8, ro_157_9, ro_158_0, ro_160_0, ro_162_0, ro_164_0, ro_166_0, ro_168_0, ro_170_0, ro_172_0, ro_174_0, ro_176_0, ro_178_0, ro_180_0, ro_182_1, ro_182_4, ro_182_5, ro_182_6, ro_182_9, ro_182_10, ro_182_11, ro_182_13, ro_182_14, ro_182_15, ro_182_16, ro_182_17, ro_182_20, ro_182_21, ro_182_22, ro_182_23, ro_182_24, ro_182_26, ro_182_27, ro_182_28, lo_3, lo_5, lo_7, lo_9, lo_11, lo_13, lo_15, lo_17, lo_19, lo_21, lo_24, lo_26, lo_28, lo_30, lo_32, lo_34, lo_36, lo_38, lo_40, lo_42, lo_44, lo_47, lo_49, lo_51, lo_54, lo_56, lo_58, lo_60, lo_63, lo_65, lo_67, lo_69, lo_72, lo_74, lo_76, lo_78, lo_80, lo_82, lo_84, lo_86, lo_88, lo_90, lo_93, lo_95, lo_97, lo_99, lo_101, lo_103, lo_105, lo_107, lo_109, lo_111, lo_114, lo_116, lo_118, lo_120, lo_122, lo_124, lo_126, lo_128, lo_130, lo_132, lo_135, lo_137, lo_139, lo_141, lo_143, lo_145, lo_147, lo_149, lo_151, lo_153, lo_156, lo_159, lo_161, lo_163, lo_165, lo_167, lo_169, lo_171, lo_173, lo_175, lo_177, lo_179, lo_181, lo_183, lo_184, lo_185, lo_186, lo_187, lo_188, lo_189, lo_190, lo_191, lo_192, lo_193, lo_194, lo_195, lo_196, lo_197, lo_198, lo_199, lo_200, lo_201, lo_202, lo_203, jp_nn, jp_eq, jp_e1, Classical.not_not, ji0, ji1, ji2, cs74_54, kk_54, cs74_176, kk_176, jl_0, jl_1, jl_2, jl_3, jl_4, jl_5, jl_6, jl_7, jl_8, jl_9, jl_10, jl_11, jl_12, jl_13, jl_14, jl_15, jl_16, jl_17, jl_18, jl_19, jl_20, jl_21, jl_22, jl_23, jl_24, jl_25, jl_26, jl_27, jl_28, jl_29, jl_30, jl_31, jl_32, jl_33, jl_34, jl_35, jl_36, jl_37, jl_38, jl_39, jl_40, jl_95, jl_96, jl_97, jl_98, jl_99, jl_100, jl_101, jl_102, jl_103, jl_104, jl_105, jl_106, jl_107, jl_108, jl_109, jl_110, jl_111, jl_112, jl_113, jl_114, jl_186, jl_1100, jr, ju, jpT, jpF, tnc, Nat.reduceEqDiff, reduceIte, and_false, false_and, not_true_eq_false, not_false_eq_true, or_false, gt_iff_lt, ge_iff_le, Int.lt_irrefl, Int.le_refl]
    refine ⟨D, 70, 178, Or.inl ⟨rfl, rfl⟩, rfl, rfl, w, cd, lw, ra, fun h1 f1_w g1 => ?_⟩
    have f1_w : ∀ x k : Nat, ¬ stO x → ¬ (x = 157 ∧ k = 10) → x ≠ 179 → h1 x k = h x k := f1_w
    have g1 : ∀ u, u < nU D → h1 179 u = sumA D (cl 70 h) u := g1
    have q1_w : ∀ x k : Nat, x < 28 ∨ (29 ≤ x ∧ x ≤ 156) → h1 x k = h x k := fun x k a => f1_w x k (nst x (by omega)) (by omega) (by omega)
    have e91 : cl 91 h1 = cl 91 h := cl_eq (fun o k a b => q1_w o k (Or.inr ⟨by omega, by omega⟩))
    refine ⟨D, 91, 180, Or.inr ⟨rfl, rfl⟩, rfl, rfl, w, cd.fr (fun o k a b => q1_w o k (Or.inl (by omega))), fun y => (lw y).fr (q1_w 22 3 (Or.inl (by decide))) (fun k => q1_w 24 k (Or.inl (by decide))), by rw [e91]; exact rb, fun h2 f2_w g2 => ?_⟩
    have f2_w : ∀ x k : Nat, ¬ stO x → ¬ (x = 157 ∧ k = 10) → x ≠ 181 → h2 x k = h1 x k := f2_w
    have g2 : ∀ u, u < nU D → h2 181 u = sumA D (cl 91 h1) u := g2
    have r2 : rg h2 180 (un : Int) = sumA D (cl 91 h) un := (rg_in (o := 180) (c := 181) (n := 4) ro_180_0 lo_181 (by omega)).trans ((g2 un hu).trans (by rw [e91]))
    have r1_w : rg h2 178 (un : Int) = sumA D (cl 70 h) un := (rg_in (o := 178) (c := 179) (n := 4) ro_178_0 lo_179 (by omega)).trans ((f2_w 179 un (nst 179 (by omega)) (by omega) (by decide)).trans (g1 un hu))
    have B1 := sumA_b (u := un) w ra
    have B2 := sumA_b (u := un) w rb
    have e3_w : j32 (sumA D (cl 91 h) un - sumA D (cl 70 h) un) = sumA D (cl 91 h) un - sumA D (cl 70 h) un := j32_id (by omega) (by omega)
    simp only [qe_1, qe_3, qe_4, qe_5, qe_7, qe_72, qe_10, qe_102, qe_13, qe_14, qe_15, qe_16, qe_17, qe_18, qe_20, qe_22, qe_23, qe_21, qe_24, qe_25, qe_26, qe_27, qe_28, qe_30, qe_31, qe_32, qc_20, qc_22, qc_23, qc_21, qc_24, qc_25, qc_26, qc_27, qc_1, qc_3, qc_4, qc_7, qc_13, qc_28, qc_32, qs_1, qs_2, qs_3, qs_4, qs_5, qs_6, qs_9, qs_10, qs_11, qs_14, qs_15, qs_16, qs_27, qs_17, qs_18, qs_19, qs_20, qs_22, qs_23, qs_28, qs_25, qs_26, qs_7, qs_8, kc_1, kn_1, kc_2, kn_2, kc_3, kn_3, kc_4, kn_4, kc_5, kn_5, kc_6, kn_6, kc_7, kn_7, kc_8, kn_8, kc_9, kn_9, kc_10, kn_10, kc_11, kn_11, kc_12, kn_12, kc_13, kn_13, kc_14, kn_14, kc_15, kn_15, kc_16, kc_17, kc_18, kc_19, kc_20, kc_21, kc_22, kc_23, kc_30, kc_32, kc_40, kc_43, kc_45, kc_48, kc_52, kc_56, kc_57, kc_59, kc_60, kc_61, kc_63, kc_64, kc_72, kc_78, kc_97, kc_99, kc_122, kc_126, kc_128, kc_192, kc_200, kc_255, kc_999, kc_1000, kc_9999, kn_9999, kc_10000, kc_12345, kc_65536, kc_252645135, kc_858993459, kc_1103515245, kc_1431655765, kc_2147483647, kc_0, kc_24, kc_28, kc_37, kc_41, kc_42, kc_73, kc_91, kc_95, kc_96, kc_98, kc_100, kc_112, kc_125, kc_150, kc_162, kc_163, kc_168, kc_186, kc_190, kc_250, kc_355, kc_356, kc_404, kc_405, kc_429, kc_573, kc_1002, kc_1100, kc_1891, kc_2200, kc_4719, kc_4869, kc_4881, kc_5148, kc_19741, kc_25433, kc_320403, kc_628412, kc_629093, kc_660401, kc_679843, kc_918640, kc_979410, kc_1178088, kc_6232410, kc_24644941, kc_36238189, kc_38270444, kc_392531318, kc_425693491, kc_1342154595, kc_2147483648, kc_42328242873, kc_891704255789, kc_1722105685577, kc_1858726030364, ct_0, ct_1, ct_2, ct_3, ct_4, ct_5, cf_0, cf_1, cf_2, cf_3, cf_4, cf_5, w_ty6, w_ty7, m_sv, m_z0, m_hd, m_g0, m_gs, m_s0, m_ss, m_ap, m_an, forall_const, true_and, and_true, ne_eq, not_true_eq_false, not_false_eq_true, false_implies, true_implies, implies_true, eq_self, reduceCtorEq, Nat.reduceDiv, Nat.reduceMod, Int.reduceToNat, or_true, true_or, or_false, false_or, or_self, m_it, m_if, m_c1, m_01, m_02, m_03, m_04, m_10, m_12, m_13, m_14, m_20, m_21, m_23, m_24, m_30, m_31, m_32, m_34, m_40, m_41, m_42, m_43, Int.reduceLE, Int.reduceLT, Int.reduceGE, Int.reduceGT, Int.reduceNeg, Int.reduceAdd, Int.reduceSub, Int.reduceMul, Int.reduceEq, Int.reduceNe, Nat.reduceAdd, jun2, ro_0_0, ro_0_1, ro_0_2, ro_0_3, ro_0_4, ro_0_5, ro_0_6, ro_0_7, ro_0_8, ro_0_9, ro_0_10, ro_0_11, ro_0_12, ro_1_0, ro_1_1, ro_2_0, ro_4_0, ro_6_0, ro_6_1, ro_6_2, ro_6_3, ro_6_4, ro_6_5, ro_6_6, ro_6_7, ro_6_8, ro_8_0, ro_10_0, ro_12_0, ro_14_0, ro_16_0, ro_18_0, ro_20_0, ro_22_0, ro_22_1, ro_22_2, ro_23_0, ro_25_0, ro_27_0, ro_29_0, ro_29_1, ro_29_2, ro_29_3, ro_29_4, ro_29_5, ro_29_6, ro_29_7, ro_29_8, ro_31_0, ro_33_0, ro_35_0, ro_37_0, ro_39_0, ro_41_0, ro_43_0, ro_45_0, ro_45_1, ro_45_2, ro_46_0, ro_48_0, ro_50_0, ro_52_0, ro_52_1, ro_52_2, ro_52_3, ro_53_0, ro_55_0, ro_57_0, ro_59_0, ro_61_0, ro_61_1, ro_61_2, ro_61_3, ro_62_0, ro_64_0, ro_66_0, ro_68_0, ro_70_0, ro_70_1, ro_70_2, ro_70_3, ro_70_4, ro_70_5, ro_70_6, ro_70_7, ro_70_8, ro_70_9, ro_71_0, ro_73_0, ro_75_0, ro_77_0, ro_79_0, ro_81_0, ro_83_0, ro_85_0, ro_87_0, ro_89_0, ro_91_0, ro_91_1, ro_91_2, ro_91_3, ro_91_4, ro_91_5, ro_91_6, ro_91_7, ro_91_8, ro_91_9, ro_92_0, ro_94_0, ro_96_0, ro_98_0, ro_100_0, ro_102_0, ro_104_0, ro_106_0, ro_108_0, ro_110_0, ro_112_0, ro_112_1, ro_112_2, ro_112_3, ro_112_4, ro_112_5, ro_112_6, ro_112_7, ro_112_8, ro_112_9, ro_113_0, ro_115_0, ro_117_0, ro_119_0, ro_121_0, ro_123_0, ro_125_0, ro_127_0, ro_129_0, ro_131_0, ro_133_0, ro_133_1, ro_133_2, ro_133_3, ro_133_4, ro_133_5, ro_133_6, ro_133_7, ro_133_8, ro_133_9, ro_134_0, ro_136_0, ro_138_0, ro_140_0, ro_142_0, ro_144_0, ro_146_0, ro_148_0, ro_150_0, ro_152_0, ro_154_0, ro_155_0, ro_157_0, ro_157_1, ro_157_2, ro_157_3, ro_157_4, ro_157_5, ro_157_6, ro_157_7, ro_157_8, ro_157_9, ro_158_0, ro_160_0, ro_162_0, ro_164_0, ro_166_0, ro_168_0, ro_170_0, ro_172_0, ro_174_0, ro_176_0, ro_178_0, ro_180_0, ro_182_1, ro_182_4, ro_182_5, ro_182_6, ro_182_9, ro_182_10, ro_182_11, ro_182_13, ro_182_14, ro_182_15, ro_182_16, ro_182_17, ro_182_20, ro_182_21, ro_182_22, ro_182_23, ro_182_24, ro_182_26, ro_182_27, ro_182_28, lo_3, lo_5, lo_7, lo_9, lo_11, lo_13, lo_15, lo_17, lo_19, lo_21, lo_24, lo_26, lo_28, lo_30, lo_32, lo_34, lo_36, lo_38, lo_40, lo_42, lo_44, lo_47, lo_49, lo_51, lo_54, lo_56, lo_58, lo_60, lo_63, lo_65, lo_67, lo_69, lo_72, lo_74, lo_76, lo_78, lo_80, lo_82, lo_84, lo_86, lo_88, lo_90, lo_93, lo_95, lo_97, lo_99, lo_101, lo_103, lo_105, lo_107, lo_109, lo_111, lo_114, lo_116, lo_118, lo_120, lo_122, lo_124, lo_126, lo_128, lo_130, lo_132, lo_135, lo_137, lo_139, lo_141, lo_143, lo_145, lo_147, lo_149, lo_151, lo_153, lo_156, lo_159, lo_161, lo_163, lo_165, lo_167, lo_169, lo_171, lo_173, lo_175, lo_177, lo_179, lo_181, lo_183, lo_184, lo_185, lo_186, lo_187, lo_188, lo_189, lo_190, lo_191, lo_192, lo_193, lo_194, lo_195, lo_196, lo_197, lo_198, lo_199, lo_200, lo_201, lo_202, lo_203, jp_nn, jp_eq, jp_e1, Classical.not_not, ji0, ji1, ji2, cs74_54, kk_54, cs74_176, kk_176, jl_0, jl_1, jl_2, jl_3, jl_4, jl_5, jl_6, jl_7, jl_8, jl_9, jl_10, jl_11, jl_12, jl_13, jl_14, jl_15, jl_16, jl_17, jl_18, jl_19, jl_20, jl_21, jl_22, jl_23, jl_24, jl_25, jl_26, jl_27, jl_28, jl_29, jl_30, jl_31, jl_32, jl_33, jl_34, jl_35, jl_36, jl_37, jl_38, jl_39, jl_40, jl_95, jl_96, jl_97, jl_98, jl_99, jl_100, jl_101, jl_102, jl_103, jl_104, jl_105, jl_106, jl_107, jl_108, jl_109, jl_110, jl_111, jl_112, jl_113, jl_114, jl_186, jl_1100, jr, ju, jpT, jpF, tnc, Nat.reduceEqDiff, reduceIte, and_false, false_and, not_true_eq_false, not_false_eq_true, or_false, gt_iff_lt, ge_iff_le, Int.lt_irrefl, Int.le_refl, r1_w, r2, e3_w]
    exact hQ h2
  · exact hQ.elim
theorem m_300c : BodyOK CS74 CS74 300 := fun av h Q hQ => by
  rw [cs74_300] at hQ
  unfold k300c at hQ
  split at hQ
  · rename_i t m s
    obtain ⟨ht, D, rs, q1_w, q2_w⟩ := hQ
    have ht : t = 182 := Option.some.inj ht
    subst ht
    obtain ⟨w, rf, lw, ra⟩ := id rs
    obtain ⟨c4, u4_w, m6_w, s12, eD⟩ := w.cn
    have q1_w : ¬ okGn D [m, s] → ∀ h', h' 182 0 = 1 → Q 1 [0] h' := q1_w
    have q2_w : okGn D [m, s] → ∀ h', h' 182 0 = 0 → Q 1 [vGn D (bl 0 h) [m, s]] h' := q2_w
    have z2 : h 188 2 = (nU D : Int) := rf.ix.1.2.1
    have z3 : h 188 3 = (nM D : Int) := rf.ix.1.2.2.1
    show pS CS74 bb_300 [182, m, s] h _
    unfold bb_300
    by_cases y : 0 ≤ m ∧ m < (nM D : Int)
    · by_cases ys : 0 ≤ s ∧ s < (nU D : Int)
      · simp only [qe_1, qe_3, qe_4, qe_5, qe_7, qe_72, qe_10, qe_102, qe_13, qe_14, qe_15, qe_16, qe_17, qe_18, qe_20, qe_22, qe_23, qe_21, qe_24, qe_25, qe_26, qe_27, qe_28, qe_30, qe_31, qe_32, qc_20, qc_22, qc_23, qc_21, qc_24, qc_25, qc_26, qc_27, qc_1, qc_3, qc_4, qc_7, qc_13, qc_28, qc_32, qs_1, qs_2, qs_3, qs_4, qs_5, qs_6, qs_9, qs_10, qs_11, qs_14, qs_15, qs_16, qs_27, qs_17, qs_18, qs_19, qs_20, qs_22, qs_23, qs_28, qs_25, qs_26, qs_7, qs_8, kc_1, kn_1, kc_2, kn_2, kc_3, kn_3, kc_4, kn_4, kc_5, kn_5, kc_6, kn_6, kc_7, kn_7, kc_8, kn_8, kc_9, kn_9, kc_10, kn_10, kc_11, kn_11, kc_12, kn_12, kc_13, kn_13, kc_14, kn_14, kc_15, kn_15, kc_16, kc_17, kc_18, kc_19, kc_20, kc_21, kc_22, kc_23, kc_30, kc_32, kc_40, kc_43, kc_45, kc_48, kc_52, kc_56, kc_57, kc_59, kc_60, kc_61, kc_63, kc_64, kc_72, kc_78, kc_97, kc_99, kc_122, kc_126, kc_128, kc_192, kc_200, kc_255, kc_999, kc_1000, kc_9999, kn_9999, kc_10000, kc_12345, kc_65536, kc_252645135, kc_858993459, kc_1103515245, kc_1431655765, kc_2147483647, kc_0, kc_24, kc_28, kc_37, kc_41, kc_42, kc_73, kc_91, kc_95, kc_96, kc_98, kc_100, kc_112, kc_125, kc_150, kc_162, kc_163, kc_168, kc_186, kc_190, kc_250, kc_355, kc_356, kc_404, kc_405, kc_429, kc_573, kc_1002, kc_1100, kc_1891, kc_2200, kc_4719, kc_4869, kc_4881, kc_5148, kc_19741, kc_25433, kc_320403, kc_628412, kc_629093, kc_660401, kc_679843, kc_918640, kc_979410, kc_1178088, kc_6232410, kc_24644941, kc_36238189, kc_38270444, kc_392531318, kc_425693491, kc_1342154595, kc_2147483648, kc_42328242873, kc_891704255789, kc_1722105685577, kc_1858726030364, ct_0, ct_1, ct_2, ct_3, ct_4, ct_5, cf_0, cf_1, cf_2, cf_3, cf_4, cf_5, w_ty6, w_ty7, m_sv, m_z0, m_hd, m_g0, m_gs, m_s0, m_ss, m_ap, m_an, forall_const, true_and, and_true, ne_eq, not_true_eq_false, not_false_eq_true, false_implies, true_implies, implies_true, eq_self, reduceCtorEq, Nat.reduceDiv, Nat.reduceMod, Int.reduceToNat, or_true, true_or, or_false, false_or, or_self, m_it, m_if, m_c1, m_01, m_02, m_03, m_04, m_10, m_12, m_13, m_14, m_20, m_21, m_23, m_24, m_30, m_31, m_32, m_34, m_40, m_41, m_42, m_43, Int.reduceLE, Int.reduceLT, Int.reduceGE, Int.reduceGT, Int.reduceNeg, Int.reduceAdd, Int.reduceSub, Int.reduceMul, Int.reduceEq, Int.reduceNe, Nat.reduceAdd, jun2, ro_0_0, ro_0_1, ro_0_2, ro_0_3, ro_0_4, ro_0_5, ro_0_6, ro_0_7, ro_0_8, ro_0_9, ro_0_10, ro_0_11, ro_0_12, ro_1_0, ro_1_1, ro_2_0, ro_4_0, ro_6_0, ro_6_1, ro_6_2, ro_6_3, ro_6_4, ro_6_5, ro_6_6, ro_6_7, ro_6_8, ro_8_0, ro_10_0, ro_12_0, ro_14_0, ro_16_0, ro_18_0, ro_20_0, ro_22_0, ro_22_1, ro_22_2, ro_23_0, ro_25_0, ro_27_0, ro_29_0, ro_29_1, ro_29_2, ro_29_3, ro_29_4, ro_29_5, ro_29_6, ro_29_7, ro_29_8, ro_31_0, ro_33_0, ro_35_0, ro_37_0, ro_39_0, ro_41_0, ro_43_0, ro_45_0, ro_45_1, ro_45_2, ro_46_0, ro_48_0, ro_50_0, ro_52_0, ro_52_1, ro_52_2, ro_52_3, ro_53_0, ro_55_0, ro_57_0, ro_59_0, ro_61_0, ro_61_1, ro_61_2, ro_61_3, ro_62_0, ro_64_0, ro_66_0, ro_68_0, ro_70_0, ro_70_1, ro_70_2, ro_70_3, ro_70_4, ro_70_5, ro_70_6, ro_70_7, ro_70_8, ro_70_9, ro_71_0, ro_73_0, ro_75_0, ro_77_0, ro_79_0, ro_81_0, ro_83_0, ro_85_0, ro_87_0, ro_89_0, ro_91_0, ro_91_1, ro_91_2, ro_91_3, ro_91_4, ro_91_5, ro_91_6, ro_91_7, ro_91_8, ro_91_9, ro_92_0, ro_94_0, ro_96_0, ro_98_0, ro_100_0, ro_102_0, ro_104_0, ro_106_0, ro_108_0, ro_110_0, ro_112_0, ro_112_1, ro_112_2, ro_112_3, ro_112_4, ro_112_5, ro_112_6, ro_112_7, ro_112_8, ro_112_9, ro_113_0, ro_115_0, ro_117_0, ro_119_0, ro_121_0, ro_123_0, ro_125_0, ro_127_0, ro_129_0, ro_131_0, ro_133_0, ro_133_1, ro_133_2, ro_133_3, ro_133_4, ro_133_5, ro_133_6, ro_133_7, ro_133_8, ro_133_9, ro_134_0, ro_136_0, ro_138_0, ro_140_0, ro_142_0, ro_144_0, ro_146_0, ro_148_0, ro_150_0, ro_152_0, ro_154_0, ro_155_0, ro_157_0, ro_157_1, ro_157_2, ro_157_3, ro_157_4, ro_157_5, ro_157_6, ro_157_7, ro_157_8, ro_157_9, ro_158_0, ro_160_0, ro_162_0, ro_164_0, ro_166_0, ro_168_0, ro_170_0, ro_172_0, ro_174_0, ro_176_0, ro_178_0, ro_180_0, ro_182_1, ro_182_4, ro_182_5, ro_182_6, ro_182_9, ro_182_10, ro_182_11, ro_182_13, ro_182_14, ro_182_15, ro_182_16, ro_182_17, ro_182_20, ro_182_21, ro_182_22, ro_182_23, ro_182_24, ro_182_26, ro_182_27, ro_182_28, lo_3, lo_5, lo_7, lo_9, lo_11, lo_13, lo_15, lo_17, lo_19, lo_21, lo_24, lo_26, lo_28, lo_30, lo_32, lo_34, lo_36, lo_38, lo_40, lo_42, lo_44, lo_47, lo_49, lo_51, lo_54, lo_56, lo_58, lo_60, lo_63, lo_65, lo_67, lo_69, lo_72, lo_74, lo_76, lo_78, lo_80, lo_82, lo_84, lo_86, lo_88, lo_90, lo_93, lo_95, lo_97, lo_99, lo_101, lo_103, lo_105, lo_107, lo_109, lo_111, lo_114, lo_116, lo_118, lo_120, lo_122, lo_124, lo_126, lo_128, lo_130, lo_132, lo_135, lo_137, lo_139, lo_141, lo_143, lo_145, lo_147, lo_149, lo_151, lo_153, lo_156, lo_159, lo_161, lo_163, lo_165, lo_167, lo_169, lo_171, lo_173, lo_175, lo_177, lo_179, lo_181, lo_183, lo_184, lo_185, lo_186, lo_187, lo_188, lo_189, lo_190, lo_191, lo_192, lo_193, lo_194, lo_195, lo_196, lo_197, lo_198, lo_199, lo_200, lo_201, lo_202, lo_203, jp_nn, jp_eq, jp_e1, Classical.not_not, ji0, ji1, ji2, cs74_235, kk_235, cs74_237, kk_237, cs74_266, kk_266, cs74_274, kk_274, cs74_298, kk_298, cs74_258, kk_258, jl_0, jl_1, jl_2, jl_3, jl_4, jl_5, jl_6, jl_7, jl_8, jl_9, jl_10, jl_11, jl_12, jl_13, jl_14, jl_15, jl_16, jl_17, jl_18, jl_19, jl_20, jl_21, jl_22, jl_23, jl_24, jl_25, jl_26, jl_27, jl_28, jl_29, jl_30, jl_31, jl_32, jl_33, jl_34, jl_35, jl_36, jl_37, jl_38, jl_39, jl_40, jl_95, jl_96, jl_97, jl_98, jl_99, jl_100, jl_101, jl_102, jl_103, jl_104, jl_105, jl_106, jl_107, jl_108, jl_109, jl_110, jl_111, jl_112, jl_113, jl_114, jl_186, jl_1100, jr, ju, jpT, jpF, tnc, Nat.reduceEqDiff, reduceIte, and_false, false_and, not_true_eq_false, not_false_eq_true, or_false, gt_iff_lt, ge_iff_le, Int.lt_irrefl, Int.le_refl, z2, z3, y, ys, and_self]
        intro h1 op_w
        have op_w : OPN (j_up h 182 0 0) h1 := op_w
        have hm_w : m.toNat < nM D := by omega
        refine ⟨4719, m.toNat, 0, rfl, by decide, by omega, by omega, rfl, by decide, fun H2_w g1 g2 => ?_⟩
        have fr2 : ∀ x k : Nat, x ≠ 194 → x ≠ 182 → H2_w x k = h x k := fun x k a b => (g1 x k a).trans ((op_w.1 x k (by omega) (by omega)).trans (up_ne (by omega)))
        have lo2 : ∀ q : Nat, q < 4719 → H2_w 194 q = h 194 q := fun q z => by
          rw [g2 q, if_neg (by omega)]
          exact (op_w.1 194 q (by omega) (by omega)).trans (up_ne (by omega))
        have eT : EqD D (bl 4719 H2_w) (supL (bl 0 h) m.toNat s) := EqD.of m6_w s12 (fun q z => by
          show H2_w 194 (4719 + q) = supL (bl 0 h) m.toNat s q
          unfold supL
          rw [g2 (4719 + q)]
          by_cases yq : 78 + 12 * m.toNat ≤ q ∧ q < 78 + 12 * m.toNat + 12
          · rw [if_pos (by omega), if_pos yq]
          · rw [if_neg (by omega), if_neg yq]
            exact opn_eq op_w q (by omega))
        have rT := RGA.cg eT (ra.su m6_w hm_w (by omega))
        obtain ⟨⟨-, rf2, lw2, ra2⟩, e02⟩ := rs.fr2 (h' := H2_w) (fun k => fr2 188 k (by decide) (by decide)) (fun k => fr2 189 k (by decide) (by decide)) (fun k => fr2 190 k (by decide) (by decide)) (fun q z => lo2 q (by omega))
        have v2 : H2_w 182 0 = 0 := (g1 182 0 (by decide)).trans ((op_w.1 182 0 (by omega) (by omega)).trans up_eq)
        refine ⟨D, 4719, s.toNat, w, rf2, lw2, rfl, by decide, by omega, rT, fun h3 f3_w => ?_⟩
        have nwk : ∀ p, p = 182 ∨ p = 188 ∨ p = 189 ∨ p = 190 ∨ p = 194 → ¬ wkW p := fun p a z => by
          unfold wkW at z
          omega
        obtain ⟨⟨-, rf3, lw3, ra3⟩, e03⟩ := (show RSET D H2_w from ⟨w, rf2, lw2, ra2⟩).fr2 (h' := h3) (fun k => f3_w 188 k (nwk _ (by omega)) (by omega)) (fun k => f3_w 189 k (nwk _ (by omega)) (by omega)) (fun k => f3_w 190 k (nwk _ (by omega)) (by omega)) (fun q z => f3_w 194 q (nwk _ (by omega)) (by omega))
        refine ⟨D, 0, s.toNat, w, rf3, lw3, rfl, by decide, by omega, ra3, fun h4 f4_w => ?_⟩
        have E1_w : sumA D (bl 4719 H2_w) s.toNat = sumA D (supL (bl 0 h) m.toNat s) s.toNat := sumA_cg w eT
        have E2 : sumA D (bl 0 h3) s.toNat = sumA D (bl 0 h) s.toNat := sumA_cg w (e03.tr e02)
        have B1 := sumA_b (u := s.toNat) w (ra.su m6_w hm_w (v := s) (by omega))
        have B2 := sumA_b (u := s.toNat) w ra
        have e3_w : j32 (sumA D (supL (bl 0 h) m.toNat s) s.toNat - sumA D (bl 0 h) s.toNat) = vGn D (bl 0 h) [m, s] := j32_id (by omega) (by omega)
        rw [E1_w, E2]
        simp only [qe_1, qe_3, qe_4, qe_5, qe_7, qe_72, qe_10, qe_102, qe_13, qe_14, qe_15, qe_16, qe_17, qe_18, qe_20, qe_22, qe_23, qe_21, qe_24, qe_25, qe_26, qe_27, qe_28, qe_30, qe_31, qe_32, qc_20, qc_22, qc_23, qc_21, qc_24, qc_25, qc_26, qc_27, qc_1, qc_3, qc_4, qc_7, qc_13, qc_28, qc_32, qs_1, qs_2, qs_3, qs_4, qs_5, qs_6, qs_9, qs_10, qs_11, qs_14, qs_15, qs_16, qs_27, qs_17, qs_18, qs_19, qs_20, qs_22, qs_23, qs_28, qs_25, qs_26, qs_7, qs_8, kc_1, kn_1, kc_2, kn_2, kc_3, kn_3, kc_4, kn_4, kc_5, kn_5, kc_6, kn_6, kc_7, kn_7, kc_8, kn_8, kc_9, kn_9, kc_10, kn_10, kc_11, kn_11, kc_12, kn_12, kc_13, kn_13, kc_14, kn_14, kc_15, kn_15, kc_16, kc_17, kc_18, kc_19, kc_20, kc_21, kc_22, kc_23, kc_30, kc_32, kc_40, kc_43, kc_45, kc_48, kc_52, kc_56, kc_57, kc_59, kc_60, kc_61, kc_63, kc_64, kc_72, kc_78, kc_97, kc_99, kc_122, kc_126, kc_128, kc_192, kc_200, kc_255, kc_999, kc_1000, kc_9999, kn_9999, kc_10000, kc_12345, kc_65536, kc_252645135, kc_858993459, kc_1103515245, kc_1431655765, kc_2147483647, kc_0, kc_24, kc_28, kc_37, kc_41, kc_42, kc_73, kc_91, kc_95, kc_96, kc_98, kc_100, kc_112, kc_125, kc_150, kc_162, kc_163, kc_168, kc_186, kc_190, kc_250, kc_355, kc_356, kc_404, kc_405, kc_429, kc_573, kc_1002, kc_1100, kc_1891, kc_2200, kc_4719, kc_4869, kc_4881, kc_5148, kc_19741, kc_25433, kc_320403, kc_628412, kc_629093, kc_660401, kc_679843, kc_918640, kc_979410, kc_1178088, kc_6232410, kc_24644941, kc_36238189, kc_38270444, kc_392531318, kc_425693491, kc_1342154595, kc_2147483648, kc_42328242873, kc_891704255789, kc_1722105685577, kc_1858726030364, ct_0, ct_1, ct_2, ct_3, ct_4, ct_5, cf_0, cf_1, cf_2, cf_3, cf_4, cf_5, w_ty6, w_ty7, m_sv, m_z0, m_hd, m_g0, m_gs, m_s0, m_ss, m_ap, m_an, forall_const, true_and, and_true, ne_eq, not_true_eq_false, not_false_eq_true, false_implies, true_implies, implies_true, eq_self, reduceCtorEq, Nat.reduceDiv, Nat.reduceMod, Int.reduceToNat, or_true, true_or, or_false, false_or, or_self, m_it, m_if, m_c1, m_01, m_02, m_03, m_04, m_10, m_12, m_13, m_14, m_20, m_21, m_23, m_24, m_30, m_31, m_32, m_34, m_40, m_41, m_42, m_43, Int.reduceLE, Int.reduceLT, Int.reduceGE, Int.reduceGT, Int.reduceNeg, Int.reduceAdd, Int.reduceSub, Int.reduceMul, Int.reduceEq, Int.reduceNe, Nat.reduceAdd, jun2, ro_0_0, ro_0_1, ro_0_2, ro_0_3, ro_0_4, ro_0_5, ro_0_6, ro_0_7, ro_0_8, ro_0_9, ro_0_10, ro_0_11, ro_0_12, ro_1_0, ro_1_1, ro_2_0, ro_4_0, ro_6_0, ro_6_1, ro_6_2, ro_6_3, ro_6_4, ro_6_5, ro_6_6, ro_6_7, ro_6_8, ro_8_0, ro_10_0, ro_12_0, ro_14_0, ro_16_0, ro_18_0, ro_20_0, ro_22_0, ro_22_1, ro_22_2, ro_23_0, ro_25_0, ro_27_0, ro_29_0, ro_29_1, ro_29_2, ro_29_3, ro_29_4, ro_29_5, ro_29_6, ro_29_7, ro_29_8, ro_31_0, ro_33_0, ro_35_0, ro_37_0, ro_39_0, ro_41_0, ro_43_0, ro_45_0, ro_45_1, ro_45_2, ro_46_0, ro_48_0, ro_50_0, ro_52_0, ro_52_1, ro_52_2, ro_52_3, ro_53_0, ro_55_0, ro_57_0, ro_59_0, ro_61_0, ro_61_1, ro_61_2, ro_61_3, ro_62_0, ro_64_0, ro_66_0, ro_68_0, ro_70_0, ro_70_1, ro_70_2, ro_70_3, ro_70_4, ro_70_5, ro_70_6, ro_70_7, ro_70_8, ro_70_9, ro_71_0, ro_73_0, ro_75_0, ro_77_0, ro_79_0, ro_81_0, ro_83_0, ro_85_0, ro_87_0, ro_89_0, ro_91_0, ro_91_1, ro_91_2, ro_91_3, ro_91_4, ro_91_5, ro_91_6, ro_91_7, ro_91_8, ro_91_9, ro_92_0, ro_94_0, ro_96_0, ro_98_0, ro_100_0, ro_102_0, ro_104_0, ro_106_0, ro_108_0, ro_110_0, ro_112_0, ro_112_1, ro_112_2, ro_112_3, ro_112_4, ro_112_5, ro_112_6, ro_112_7, ro_112_8, ro_112_9, ro_113_0, ro_115_0, ro_117_0, ro_119_0, ro_121_0, ro_123_0, ro_125_0, ro_127_0, ro_129_0, ro_131_0, ro_133_0, ro_133_1, ro_133_2, ro_133_3, ro_133_4, ro_133_5, ro_133_6, ro_133_7, ro_133_8, ro_133_9, ro_134_0, ro_136_0, ro_138_0, ro_140_0, ro_142_0, ro_144_0, ro_146_0, ro_148_0, ro_150_0, ro_152_0, ro_154_0, ro_155_0, ro_157_0, ro_157_1, ro_157_2, ro_157_3, ro_157_4, ro_157_5, ro_157_6, ro_157_7, ro_157_8, ro_157_9, ro_158_0, ro_160_0, ro_162_0, ro_164_0, ro_166_0, ro_168_0, ro_170_0, ro_172_0, ro_174_0, ro_176_0, ro_178_0, ro_180_0, ro_182_1, ro_182_4, ro_182_5, ro_182_6, ro_182_9, ro_182_10, ro_182_11, ro_182_13, ro_182_14, ro_182_15, ro_182_16, ro_182_17, ro_182_20, ro_182_21, ro_182_22, ro_182_23, ro_182_24, ro_182_26, ro_182_27, ro_182_28, lo_3, lo_5, lo_7, lo_9, lo_11, lo_13, lo_15, lo_17, lo_19, lo_21, lo_24, lo_26, lo_28, lo_30, lo_32, lo_34, lo_36, lo_38, lo_40, lo_42, lo_44, lo_47, lo_49, lo_51, lo_54, lo_56, lo_58, lo_60, lo_63, lo_65, lo_67, lo_69, lo_72, lo_74, lo_76, lo_78, lo_80, lo_82, lo_84, lo_86, lo_88, lo_90, lo_93, lo_95, lo_97, lo_99, lo_101, lo_103, lo_105, lo_107, lo_109, lo_111, lo_114, lo_116, lo_118, lo_120, lo_122, lo_124, lo_126, lo_128, lo_130, lo_132, lo_135, lo_137, lo_139, lo_141, lo_143, lo_145, lo_147, lo_149, lo_151, lo_153, lo_156, lo_159, lo_161, lo_163, lo_165, lo_167, lo_169, lo_171, lo_173, lo_175, lo_177, lo_179, lo_181, lo_183, lo_184, lo_185, lo_186, lo_187, lo_188, lo_189, lo_190, lo_191, lo_192, lo_193, lo_194, lo_195, lo_196, lo_197, lo_198, lo_199, lo_200, lo_201, lo_202, lo_203, jp_nn, jp_eq, jp_e1, Classical.not_not, ji0, ji1, ji2, cs74_235, kk_235, cs74_237, kk_237, cs74_266, kk_266, cs74_274, kk_274, cs74_298, kk_298, cs74_258, kk_258, jl_0, jl_1, jl_2, jl_3, jl_4, jl_5, jl_6, jl_7, jl_8, jl_9, jl_10, jl_11, jl_12, jl_13, jl_14, jl_15, jl_16, jl_17, jl_18, jl_19, jl_20, jl_21, jl_22, jl_23, jl_24, jl_25, jl_26, jl_27, jl_28, jl_29, jl_30, jl_31, jl_32, jl_33, jl_34, jl_35, jl_36, jl_37, jl_38, jl_39, jl_40, jl_95, jl_96, jl_97, jl_98, jl_99, jl_100, jl_101, jl_102, jl_103, jl_104, jl_105, jl_106, jl_107, jl_108, jl_109, jl_110, jl_111, jl_112, jl_113, jl_114, jl_186, jl_1100, jr, ju, jpT, jpF, tnc, Nat.reduceEqDiff, reduceIte, and_false, false_and, not_true_eq_false, not_false_eq_true, or_false, gt_iff_lt, ge_iff_le, Int.lt_irrefl, Int.le_refl, e3_w]
        exact q2_w ⟨⟨y.1, y.2⟩, ys.1, ys.2⟩ h4 ((f4_w 182 0 (nwk _ (by omega)) (by omega)).trans ((f3_w 182 0 (nwk _ (by omega)) (by omega)).trans v2))
      · simp only [qe_1, qe_3, qe_4, qe_5, qe_7, qe_72, qe_10, qe_102, qe_13, qe_14, qe_15, qe_16, qe_17, qe_18, qe_20, qe_22, qe_23, qe_21, qe_24, qe_25, qe_26, qe_27, qe_28, qe_30, qe_31, qe_32, qc_20, qc_22, qc_23, qc_21, qc_24, qc_25, qc_26, qc_27, qc_1, qc_3, qc_4, qc_7, qc_13, qc_28, qc_32, qs_1, qs_2, qs_3, qs_4, qs_5, qs_6, qs_9, qs_10, qs_11, qs_14, qs_15, qs_16, qs_27, qs_17, qs_18, qs_19, qs_20, qs_22, qs_23, qs_28, qs_25, qs_26, qs_7, qs_8, kc_1, kn_1, kc_2, kn_2, kc_3, kn_3, kc_4, kn_4, kc_5, kn_5, kc_6, kn_6, kc_7, kn_7, kc_8, kn_8, kc_9, kn_9, kc_10, kn_10, kc_11, kn_11, kc_12, kn_12, kc_13, kn_13, kc_14, kn_14, kc_15, kn_15, kc_16, kc_17, kc_18, kc_19, kc_20, kc_21, kc_22, kc_23, kc_30, kc_32, kc_40, kc_43, kc_45, kc_48, kc_52, kc_56, kc_57, kc_59, kc_60, kc_61, kc_63, kc_64, kc_72, kc_78, kc_97, kc_99, kc_122, kc_126, kc_128, kc_192, kc_200, kc_255, kc_999, kc_1000, kc_9999, kn_9999, kc_10000, kc_12345, kc_65536, kc_252645135, kc_858993459, kc_1103515245, kc_1431655765, kc_2147483647, kc_0, kc_24, kc_28, kc_37, kc_41, kc_42, kc_73, kc_91, kc_95, kc_96, kc_98, kc_100, kc_112, kc_125, kc_150, kc_162, kc_163, kc_168, kc_186, kc_190, kc_250, kc_355, kc_356, kc_404, kc_405, kc_429, kc_573, kc_1002, kc_1100, kc_1891, kc_2200, kc_4719, kc_4869, kc_4881, kc_5148, kc_19741, kc_25433, kc_320403, kc_628412, kc_629093, kc_660401, kc_679843, kc_918640, kc_979410, kc_1178088, kc_6232410, kc_24644941, kc_36238189, kc_38270444, kc_392531318, kc_425693491, kc_1342154595, kc_2147483648, kc_42328242873, kc_891704255789, kc_1722105685577, kc_1858726030364, ct_0, ct_1, ct_2, ct_3, ct_4, ct_5, cf_0, cf_1, cf_2, cf_3, cf_4, cf_5, w_ty6, w_ty7, m_sv, m_z0, m_hd, m_g0, m_gs, m_s0, m_ss, m_ap, m_an, forall_const, true_and, and_true, ne_eq, not_true_eq_false, not_false_eq_true, false_implies, true_implies, implies_true, eq_self, reduceCtorEq, Nat.reduceDiv, Nat.reduceMod, Int.reduceToNat, or_true, true_or, or_false, false_or, or_self, m_it, m_if, m_c1, m_01, m_02, m_03, m_04, m_10, m_12, m_13, m_14, m_20, m_21, m_23, m_24, m_30, m_31, m_32, m_34, m_40, m_41, m_42, m_43, Int.reduceLE, Int.reduceLT, Int.reduceGE, Int.reduceGT, Int.reduceNeg, Int.reduceAdd, Int.reduceSub, Int.reduceMul, Int.reduceEq, Int.reduceNe, Nat.reduceAdd, jun2, ro_0_0, ro_0_1, ro_0_2, ro_0_3, ro_0_4, ro_0_5, ro_0_6, ro_0_7, ro_0_8, ro_0_9, ro_0_10, ro_0_11, ro_0_12, ro_1_0, ro_1_1, ro_2_0, ro_4_0, ro_6_0, ro_6_1, ro_6_2, ro_6_3, ro_6_4, ro_6_5, ro_6_6, ro_6_7, ro_6_8, ro_8_0, ro_10_0, ro_12_0, ro_14_0, ro_16_0, ro_18_0, ro_20_0, ro_22_0, ro_22_1, ro_22_2, ro_23_0, ro_25_0, ro_27_0, ro_29_0, ro_29_1, ro_29_2, ro_29_3, ro_29_4, ro_29_5, ro_29_6, ro_29_7, ro_29_8, ro_31_0, ro_33_0, ro_35_0, ro_37_0, ro_39_0, ro_41_0, ro_43_0, ro_45_0, ro_45_1, ro_45_2, ro_46_0, ro_48_0, ro_50_0, ro_52_0, ro_52_1, ro_52_2, ro_52_3, ro_53_0, ro_55_0, ro_57_0, ro_59_0, ro_61_0, ro_61_1, ro_61_2, ro_61_3, ro_62_0, ro_64_0, ro_66_0, ro_68_0, ro_70_0, ro_70_1, ro_70_2, ro_70_3, ro_70_4, ro_70_5, ro_70_6, ro_70_7, ro_70_8, ro_70_9, ro_71_0, ro_73_0, ro_75_0, ro_77_0, ro_79_0, ro_81_0, ro_83_0, ro_85_0, ro_87_0, ro_89_0, ro_91_0, ro_91_1, ro_91_2, ro_91_3, ro_91_4, ro_91_5, ro_91_6, ro_91_7, ro_91_8, ro_91_9, ro_92_0, ro_94_0, ro_96_0, ro_98_0, ro_100_0, ro_102_0, ro_104_0, ro_106_0, ro_108_0, ro_110_0, ro_112_0, ro_112_1, ro_112_2, ro_112_3, ro_112_4, ro_112_5, ro_112_6, ro_112_7, ro_112_8, ro_112_9, ro_113_0, ro_115_0, ro_117_0, ro_119_0, ro_121_0, ro_123_0, ro_125_0, ro_127_0, ro_129_0, ro_131_0, ro_133_0, ro_133_1, ro_133_2, ro_133_3, ro_133_4, ro_133_5, ro_133_6, ro_133_7, ro_133_8, ro_133_9, ro_134_0, ro_136_0, ro_138_0, ro_140_0, ro_142_0, ro_144_0, ro_146_0, ro_148_0, ro_150_0, ro_152_0, ro_154_0, ro_155_0, ro_157_0, ro_157_1, ro_157_2, ro_157_3, ro_157_4, ro_157_5, ro_157_6, ro_157_7, ro_157_8, ro_157_9, ro_158_0, ro_160_0, ro_162_0, ro_164_0, ro_166_0, ro_168_0, ro_170_0, ro_172_0, ro_174_0, ro_176_0, ro_178_0, ro_180_0, ro_182_1, ro_182_4, ro_182_5, ro_182_6, ro_182_9, ro_182_10, ro_182_11, ro_182_13, ro_182_14, ro_182_15, ro_182_16, ro_182_17, ro_182_20, ro_182_21, ro_182_22, ro_182_23, ro_182_24, ro_182_26, ro_182_27, ro_182_28, lo_3, lo_5, lo_7, lo_9, lo_11, lo_13, lo_15, lo_17, lo_19, lo_21, lo_24, lo_26, lo_28, lo_30, lo_32, lo_34, lo_36, lo_38, lo_40, lo_42, lo_44, lo_47, lo_49, lo_51, lo_54, lo_56, lo_58, lo_60, lo_63, lo_65, lo_67, lo_69, lo_72, lo_74, lo_76, lo_78, lo_80, lo_82, lo_84, lo_86, lo_88, lo_90, lo_93, lo_95, lo_97, lo_99, lo_101, lo_103, lo_105, lo_107, lo_109, lo_111, lo_114, lo_116, lo_118, lo_120, lo_122, lo_124, lo_126, lo_128, lo_130, lo_132, lo_135, lo_137, lo_139, lo_141, lo_143, lo_145, lo_147, lo_149, lo_151, lo_153, lo_156, lo_159, lo_161, lo_163, lo_165, lo_167, lo_169, lo_171, lo_173, lo_175, lo_177, lo_179, lo_181, lo_183, lo_184, lo_185, lo_186, lo_187, lo_188, lo_189, lo_190, lo_191, lo_192, lo_193, lo_194, lo_195, lo_196, lo_197, lo_198, lo_199, lo_200, lo_201, lo_202, lo_203, jp_nn, jp_eq, jp_e1, Classical.not_not, ji0, ji1, ji2, cs74_235, kk_235, cs74_237, kk_237, cs74_266, kk_266, cs74_274, kk_274, cs74_298, kk_298, cs74_258, kk_258, jl_0, jl_1, jl_2, jl_3, jl_4, jl_5, jl_6, jl_7, jl_8, jl_9, jl_10, jl_11, jl_12, jl_13, jl_14, jl_15, jl_16, jl_17, jl_18, jl_19, jl_20, jl_21, jl_22, jl_23, jl_24, jl_25, jl_26, jl_27, jl_28, jl_29, jl_30, jl_31, jl_32, jl_33, jl_34, jl_35, jl_36, jl_37, jl_38, jl_39, jl_40, jl_95, jl_96, jl_97, jl_98, jl_99, jl_100, jl_101, jl_102, jl_103, jl_104, jl_105, jl_106, jl_107, jl_108, jl_109, jl_110, jl_111, jl_112, jl_113, jl_114, jl_186, jl_1100, jr, ju, jpT, jpF, tnc, Nat.reduceEqDiff, reduceIte, and_false, false_and, not_true_eq_false, not_false_eq_true, or_false, gt_iff_lt, ge_iff_le, Int.lt_irrefl, Int.le_refl, z2, z3, y, ys, and_self]
        exact q1_w (fun z => ys ⟨z.2.1, z.2.2⟩) _ up_eq
    · simp only [qe_1, qe_3, qe_4, qe_5, qe_7, qe_72, qe_10, qe_102, qe_13, qe_14, qe_15, qe_16, qe_17, qe_18, qe_20, qe_22, qe_23, qe_21, qe_24, qe_25, qe_26, qe_27, qe_28, qe_30, qe_31, qe_32, qc_20, qc_22, qc_23, qc_21, qc_24, qc_25, qc_26, qc_27, qc_1, qc_3, qc_4, qc_7, qc_13, qc_28, qc_32, qs_1, qs_2, qs_3, qs_4, qs_5, qs_6, qs_9, qs_10, qs_11, qs_14, qs_15, qs_16, qs_27, qs_17, qs_18, qs_19, qs_20, qs_22, qs_23, qs_28, qs_25, qs_26, qs_7, qs_8, kc_1, kn_1, kc_2, kn_2, kc_3, kn_3, kc_4, kn_4, kc_5, kn_5, kc_6, kn_6, kc_7, kn_7, kc_8, kn_8, kc_9, kn_9, kc_10, kn_10, kc_11, kn_11, kc_12, kn_12, kc_13, kn_13, kc_14, kn_14, kc_15, kn_15, kc_16, kc_17, kc_18, kc_19, kc_20, kc_21, kc_22, kc_23, kc_30, kc_32, kc_40, kc_43, kc_45, kc_48, kc_52, kc_56, kc_57, kc_59, kc_60, kc_61, kc_63, kc_64, kc_72, kc_78, kc_97, kc_99, kc_122, kc_126, kc_128, kc_192, kc_200, kc_255, kc_999, kc_1000, kc_9999, kn_9999, kc_10000, kc_12345, kc_65536, kc_252645135, kc_858993459, kc_1103515245, kc_1431655765, kc_2147483647, kc_0, kc_24, kc_28, kc_37, kc_41, kc_42, kc_73, kc_91, kc_95, kc_96, kc_98, kc_100, kc_112, kc_125, kc_150, kc_162, kc_163, kc_168, kc_186, kc_190, kc_250, kc_355, kc_356, kc_404, kc_405, kc_429, kc_573, kc_1002, kc_1100, kc_1891, kc_2200, kc_4719, kc_4869, kc_4881, kc_5148, kc_19741, kc_25433, kc_320403, kc_628412, kc_629093, kc_660401, kc_679843, kc_918640, kc_979410, kc_1178088, kc_6232410, kc_24644941, kc_36238189, kc_38270444, kc_392531318, kc_425693491, kc_1342154595, kc_2147483648, kc_42328242873, kc_891704255789, kc_1722105685577, kc_1858726030364, ct_0, ct_1, ct_2, ct_3, ct_4, ct_5, cf_0, cf_1, cf_2, cf_3, cf_4, cf_5, w_ty6, w_ty7, m_sv, m_z0, m_hd, m_g0, m_gs, m_s0, m_ss, m_ap, m_an, forall_const, true_and, and_true, ne_eq, not_true_eq_false, not_false_eq_true, false_implies, true_implies, implies_true, eq_self, reduceCtorEq, Nat.reduceDiv, Nat.reduceMod, Int.reduceToNat, or_true, true_or, or_false, false_or, or_self, m_it, m_if, m_c1, m_01, m_02, m_03, m_04, m_10, m_12, m_13, m_14, m_20, m_21, m_23, m_24, m_30, m_31, m_32, m_34, m_40, m_41, m_42, m_43, Int.reduceLE, Int.reduceLT, Int.reduceGE, Int.reduceGT, Int.reduceNeg, Int.reduceAdd, Int.reduceSub, Int.reduceMul, Int.reduceEq, Int.reduceNe, Nat.reduceAdd, jun2, ro_0_0, ro_0_1, ro_0_2, ro_0_3, ro_0_4, ro_0_5, ro_0_6, ro_0_7, ro_0_8, ro_0_9, ro_0_10, ro_0_11, ro_0_12, ro_1_0, ro_1_1, ro_2_0, ro_4_0, ro_6_0, ro_6_1, ro_6_2, ro_6_3, ro_6_4, ro_6_5, ro_6_6, ro_6_7, ro_6_8, ro_8_0, ro_10_0, ro_12_0, ro_14_0, ro_16_0, ro_18_0, ro_20_0, ro_22_0, ro_22_1, ro_22_2, ro_23_0, ro_25_0, ro_27_0, ro_29_0, ro_29_1, ro_29_2, ro_29_3, ro_29_4, ro_29_5, ro_29_6, ro_29_7, ro_29_8, ro_31_0, ro_33_0, ro_35_0, ro_37_0, ro_39_0, ro_41_0, ro_43_0, ro_45_0, ro_45_1, ro_45_2, ro_46_0, ro_48_0, ro_50_0, ro_52_0, ro_52_1, ro_52_2, ro_52_3, ro_53_0, ro_55_0, ro_57_0, ro_59_0, ro_61_0, ro_61_1, ro_61_2, ro_61_3, ro_62_0, ro_64_0, ro_66_0, ro_68_0, ro_70_0, ro_70_1, ro_70_2, ro_70_3, ro_70_4, ro_70_5, ro_70_6, ro_70_7, ro_70_8, ro_70_9, ro_71_0, ro_73_0, ro_75_0, ro_77_0, ro_79_0, ro_81_0, ro_83_0, ro_85_0, ro_87_0, ro_89_0, ro_91_0, ro_91_1, ro_91_2, ro_91_3, ro_91_4, ro_91_5, ro_91_6, ro_91_7, ro_91_8, ro_91_9, ro_92_0, ro_94_0, ro_96_0, ro_98_0, ro_100_0, ro_102_0, ro_104_0, ro_106_0, ro_108_0, ro_110_0, ro_112_0, ro_112_1, ro_112_2, ro_112_3, ro_112_4, ro_112_5, ro_112_6, ro_112_7, ro_112_8, ro_112_9, ro_113_0, ro_115_0, ro_117_0, ro_119_0, ro_121_0, ro_123_0, ro_125_0, ro_127_0, ro_129_0, ro_131_0, ro_133_0, ro_133_1, ro_133_2, ro_133_3, ro_133_4, ro_133_5, ro_133_6, ro_133_7, ro_133_8, ro_133_9, ro_134_0, ro_136_0, ro_138_0, ro_140_0, ro_142_0, ro_144_0, ro_146_0, ro_148_0, ro_150_0, ro_152_0, ro_154_0, ro_155_0, ro_157_0, ro_157_1, ro_157_2, ro_157_3, ro_157_4, ro_157_5, ro_157_6, ro_157_7, ro_157_8, ro_157_9, ro_158_0, ro_160_0, ro_162_0, ro_164_0, ro_166_0, ro_168_0, ro_170_0, ro_172_0, ro_174_0, ro_176_0, ro_178_0, ro_180_0, ro_182_1, ro_182_4, ro_182_5, ro_182_6, ro_182_9, ro_182_10, ro_182_11, ro_182_13, ro_182_14, ro_182_15, ro_182_16, ro_182_17, ro_182_20, ro_182_21, ro_182_22, ro_182_23, ro_182_24, ro_182_26, ro_182_27, ro_182_28, lo_3, lo_5, lo_7, lo_9, lo_11, lo_13, lo_15, lo_17, lo_19, lo_21, lo_24, lo_26, lo_28, lo_30, lo_32, lo_34, lo_36, lo_38, lo_40, lo_42, lo_44, lo_47, lo_49, lo_51, lo_54, lo_56, lo_58, lo_60, lo_63, lo_65, lo_67, lo_69, lo_72, lo_74, lo_76, lo_78, lo_80, lo_82, lo_84, lo_86, lo_88, lo_90, lo_93, lo_95, lo_97, lo_99, lo_101, lo_103, lo_105, lo_107, lo_109, lo_111, lo_114, lo_116, lo_118, lo_120, lo_122, lo_124, lo_126, lo_128, lo_130, lo_132, lo_135, lo_137, lo_139, lo_141, lo_143, lo_145, lo_147, lo_149, lo_151, lo_153, lo_156, lo_159, lo_161, lo_163, lo_165, lo_167, lo_169, lo_171, lo_173, lo_175, lo_177, lo_179, lo_181, lo_183, lo_184, lo_185, lo_186, lo_187, lo_188, lo_189, lo_190, lo_191, lo_192, lo_193, lo_194, lo_195, lo_196, lo_197, lo_198, lo_199, lo_200, lo_201, lo_202, lo_203, jp_nn, jp_eq, jp_e1, Classical.not_not, ji0, ji1, ji2, cs74_235, kk_235, cs74_237, kk_237, cs74_266, kk_266, cs74_274, kk_274, cs74_298, kk_298, cs74_258, kk_258, jl_0, jl_1, jl_2, jl_3, jl_4, jl_5, jl_6, jl_7, jl_8, jl_9, jl_10, jl_11, jl_12, jl_13, jl_14, jl_15, jl_16, jl_17, jl_18, jl_19, jl_20, jl_21, jl_22, jl_23, jl_24, jl_25, jl_26, jl_27, jl_28, jl_29, jl_30, jl_31, jl_32, jl_33, jl_34, jl_35, jl_36, jl_37, jl_38, jl_39, jl_40, jl_95, jl_96, jl_97, jl_98, jl_99, jl_100, jl_101, jl_102, jl_103, jl_104, jl_105, jl_106, jl_107, jl_108, jl_109, jl_110, jl_111, jl_112, jl_113, jl_114, jl_186, jl_1100, jr, ju, jpT, jpF, tnc, Nat.reduceEqDiff, reduceIte, and_false, false_and, not_true_eq_false, not_false_eq_true, or_false, gt_iff_lt, ge_iff_le, Int.lt_irrefl, Int.le_refl, z3, y]
      exact q1_w (fun z => y ⟨z.1.1, z.1.2⟩) _ up_eq
  · exact hQ.elim
theorem snd_74 {xs : Nat → Int} {L K : Nat} : ∀ n, SndC CS74 (evF xs L g_ck K g_cW g_M n) := snd_all snd_73 (fun f av h Q hQ => by
  unfold CS74 at hQ
  split at hQ
  · exact Or.inr m_37
  · exact Or.inr m_38
  · exact Or.inr m_300c
  · exact Or.inl hQ)
def CS75 : CSt := fun f => match f with
  | 34 => k34u
  | _ => CS74 f
theorem cs75_156 {av : List Int} {h : XH} {Q : Nat → List Int → XH → Prop} : CS75 156 av h Q = k156 av h Q := id rfl
theorem cs75_109 {av : List Int} {h : XH} {Q : Nat → List Int → XH → Prop} : CS75 109 av h Q = k109 av h Q := id rfl
theorem cs75_110 {av : List Int} {h : XH} {Q : Nat → List Int → XH → Prop} : CS75 110 av h Q = k110 av h Q := id rfl
theorem cs75_37 {av : List Int} {h : XH} {Q : Nat → List Int → XH → Prop} : CS75 37 av h Q = k37 av h Q := id rfl
theorem cs75_38 {av : List Int} {h : XH} {Q : Nat → List Int → XH → Prop} : CS75 38 av h Q = k38 av h Q := id rfl
theorem cs75_34 {av : List Int} {h : XH} {Q : Nat → List Int → XH → Prop} : CS75 34 av h Q = k34u av h Q := id rfl
theorem m_34u : BodyOK CS75 CS75 34 := fun av h Q hQ => by
  rw [cs75_34] at hQ
  unfold k34u at hQ
  split at hQ
  · rename_i t m s
    obtain ⟨ht, D, sp_w, q1_w, q2_w⟩ := hQ
    have ht : t = 0 := Option.some.inj ht
    subst ht
    obtain ⟨w, cd, lw, ra⟩ := id sp_w
    obtain ⟨c4, u4_w, m6_w, s12, eD⟩ := w.cn
    have q1_w : ¬ okGn D [m, s] → ∀ h', Q 4 [] h' := q1_w
    have q2_w : okGn D [m, s] → ∀ h', Q 1 [vGn D (cl 70 h) [m, s]] h' := q2_w
    have z11 : h 6 11 = (nU D : Int) := cd.1.1.2.1
    have z12 : h 6 12 = (nM D : Int) := cd.1.1.2.2.1
    show pS CS75 bb_34 [0, m, s] h _
    unfold bb_34
    by_cases y : 0 ≤ m ∧ m < (nM D : Int)
    · by_cases ys : 0 ≤ s ∧ s < (nU D : Int)
      · simp only [qe_1, qe_3, qe_4, qe_5, qe_7, qe_72, qe_10, qe_102, qe_13, qe_14, qe_15, qe_16, qe_17, qe_18, qe_20, qe_22, qe_23, qe_21, qe_24, qe_25, qe_26, qe_27, qe_28, qe_30, qe_31, qe_32, qc_20, qc_22, qc_23, qc_21, qc_24, qc_25, qc_26, qc_27, qc_1, qc_3, qc_4, qc_7, qc_13, qc_28, qc_32, qs_1, qs_2, qs_3, qs_4, qs_5, qs_6, qs_9, qs_10, qs_11, qs_14, qs_15, qs_16, qs_27, qs_17, qs_18, qs_19, qs_20, qs_22, qs_23, qs_28, qs_25, qs_26, qs_7, qs_8, kc_1, kn_1, kc_2, kn_2, kc_3, kn_3, kc_4, kn_4, kc_5, kn_5, kc_6, kn_6, kc_7, kn_7, kc_8, kn_8, kc_9, kn_9, kc_10, kn_10, kc_11, kn_11, kc_12, kn_12, kc_13, kn_13, kc_14, kn_14, kc_15, kn_15, kc_16, kc_17, kc_18, kc_19, kc_20, kc_21, kc_22, kc_23, kc_30, kc_32, kc_40, kc_43, kc_45, kc_48, kc_52, kc_56, kc_57, kc_59, kc_60, kc_61, kc_63, kc_64, kc_72, kc_78, kc_97, kc_99, kc_122, kc_126, kc_128, kc_192, kc_200, kc_255, kc_999, kc_1000, kc_9999, kn_9999, kc_10000, kc_12345, kc_65536, kc_252645135, kc_858993459, kc_1103515245, kc_1431655765, kc_2147483647, kc_0, kc_24, kc_28, kc_37, kc_41, kc_42, kc_73, kc_91, kc_95, kc_96, kc_98, kc_100, kc_112, kc_125, kc_150, kc_162, kc_163, kc_168, kc_186, kc_190, kc_250, kc_355, kc_356, kc_404, kc_405, kc_429, kc_573, kc_1002, kc_1100, kc_1891, kc_2200, kc_4719, kc_4869, kc_4881, kc_5148, kc_19741, kc_25433, kc_320403, kc_628412, kc_629093, kc_660401, kc_679843, kc_918640, kc_979410, kc_1178088, kc_6232410, kc_24644941, kc_36238189, kc_38270444, kc_392531318, kc_425693491, kc_1342154595, kc_2147483648, kc_42328242873, kc_891704255789, kc_1722105685577, kc_1858726030364, ct_0, ct_1, ct_2, ct_3, ct_4, ct_5, cf_0, cf_1, cf_2, cf_3, cf_4, cf_5, w_ty6, w_ty7, m_sv, m_z0, m_hd, m_g0, m_gs, m_s0, m_ss, m_ap, m_an, forall_const, true_and, and_true, ne_eq, not_true_eq_false, not_false_eq_true, false_implies, true_implies, implies_true, eq_self, reduceCtorEq, Nat.reduceDiv, Nat.reduceMod, Int.reduceToNat, or_true, true_or, or_false, false_or, or_self, m_it, m_if, m_c1, m_01, m_02, m_03, m_04, m_10, m_12, m_13, m_14, m_20, m_21, m_23, m_24, m_30, m_31, m_32, m_34, m_40, m_41, m_42, m_43, Int.reduceLE, Int.reduceLT, Int.reduceGE, Int.reduceGT, Int.reduceNeg, Int.reduceAdd, Int.reduceSub, Int.reduceMul, Int.reduceEq, Int.reduceNe, Nat.reduceAdd, jun2, ro_0_0, ro_0_1, ro_0_2, ro_0_3, ro_0_4, ro_0_5, ro_0_6, ro_0_7, ro_0_8, ro_0_9, ro_0_10, ro_0_11, ro_0_12, ro_1_0, ro_1_1, ro_2_0, ro_4_0, ro_6_0, ro_6_1, ro_6_2, ro_6_3, ro_6_4, ro_6_5, ro_6_6, ro_6_7, ro_6_8, ro_8_0, ro_10_0, ro_12_0, ro_14_0, ro_16_0, ro_18_0, ro_20_0, ro_22_0, ro_22_1, ro_22_2, ro_23_0, ro_25_0, ro_27_0, ro_29_0, ro_29_1, ro_29_2, ro_29_3, ro_29_4, ro_29_5, ro_29_6, ro_29_7, ro_29_8, ro_31_0, ro_33_0, ro_35_0, ro_37_0, ro_39_0, ro_41_0, ro_43_0, ro_45_0, ro_45_1, ro_45_2, ro_46_0, ro_48_0, ro_50_0, ro_52_0, ro_52_1, ro_52_2, ro_52_3, ro_53_0, ro_55_0, ro_57_0, ro_59_0, ro_61_0, ro_61_1, ro_61_2, ro_61_3, ro_62_0, ro_64_0, ro_66_0, ro_68_0, ro_70_0, ro_70_1, ro_70_2, ro_70_3, ro_70_4, ro_70_5, ro_70_6, ro_70_7, ro_70_8, ro_70_9, ro_71_0, ro_73_0, ro_75_0, ro_77_0, ro_79_0, ro_81_0, ro_83_0, ro_85_0, ro_87_0, ro_89_0, ro_91_0, ro_91_1, ro_91_2, ro_91_3, ro_91_4, ro_91_5, ro_91_6, ro_91_7, ro_91_8, ro_91_9, ro_92_0, ro_94_0, ro_96_0, ro_98_0, ro_100_0, ro_102_0, ro_104_0, ro_106_0, ro_108_0, ro_110_0, ro_112_0, ro_112_1, ro_112_2, ro_112_3, ro_112_4, ro_112_5, ro_112_6, ro_112_7, ro_112_8, ro_112_9, ro_113_0, ro_115_0, ro_117_0, ro_119_0, ro_121_0, ro_123_0, ro_125_0, ro_127_0, ro_129_0, ro_131_0, ro_133_0, ro_133_1, ro_133_2, ro_133_3, ro_133_4, ro_133_5, ro_133_6, ro_133_7, ro_133_8, ro_133_9, ro_134_0, ro_136_0, ro_138_0, ro_140_0, ro_142_0, ro_144_0, ro_146_0, ro_148_0, ro_150_0, ro_152_0, ro_154_0, ro_155_0, ro_157_0, ro_157_1, ro_157_2, ro_157_3, ro_157_4, ro_157_5, ro_157_6, ro_157_7, ro_157_8, ro_157_9, ro_158_0, ro_160_0, ro_162_0, ro_164_0, ro_166_0, ro_168_0, ro_170_0, ro_172_0, ro_174_0, ro_176_0, ro_178_0, ro_180_0, ro_182_1, ro_182_4, ro_182_5, ro_182_6, ro_182_9, ro_182_10, ro_182_11, ro_182_13, ro_182_14, ro_182_15, ro_182_16, ro_182_17, ro_182_20, ro_182_21, ro_182_22, ro_182_23, ro_182_24, ro_182_26, ro_182_27, ro_182_28, lo_3, lo_5, lo_7, lo_9, lo_11, lo_13, lo_15, lo_17, lo_19, lo_21, lo_24, lo_26, lo_28, lo_30, lo_32, lo_34, lo_36, lo_38, lo_40, lo_42, lo_44, lo_47, lo_49, lo_51, lo_54, lo_56, lo_58, lo_60, lo_63, lo_65, lo_67, lo_69, lo_72, lo_74, lo_76, lo_78, lo_80, lo_82, lo_84, lo_86, lo_88, lo_90, lo_93, lo_95, lo_97, lo_99, lo_101, lo_103, lo_105, lo_107, lo_109, lo_111, lo_114, lo_116, lo_118, lo_120, lo_122, lo_124, lo_126, lo_128, lo_130, lo_132, lo_135, lo_137, lo_139, lo_141, lo_143, lo_145, lo_147, lo_149, lo_151, lo_153, lo_156, lo_159, lo_161, lo_163, lo_165, lo_167, lo_169, lo_171, lo_173, lo_175, lo_177, lo_179, lo_181, lo_183, lo_184, lo_185, lo_186, lo_187, lo_188, lo_189, lo_190, lo_191, lo_192, lo_193, lo_194, lo_195, lo_196, lo_197, lo_198, lo_199, lo_200, lo_201, lo_202, lo_203, jp_nn, jp_eq, jp_e1, Classical.not_not, ji0, ji1, ji2, cs75_156, kk_156, cs75_109, kk_109, cs75_110, kk_110, cs75_37, kk_37, cs75_38, kk_38, jl_0, jl_1, jl_2, jl_3, jl_4, jl_5, jl_6, jl_7, jl_8, jl_9, jl_10, jl_11, jl_12, jl_13, jl_14, jl_15, jl_16, jl_17, jl_18, jl_19, jl_20, jl_21, jl_22, jl_23, jl_24, jl_25, jl_26, jl_27, jl_28, jl_29, jl_30, jl_31, jl_32, jl_33, jl_34, jl_35, jl_36, jl_37, jl_38, jl_39, jl_40, jl_95, jl_96, jl_97, jl_98, jl_99, jl_100, jl_101, jl_102, jl_103, jl_104, jl_105, jl_106, jl_107, jl_108, jl_109, jl_110, jl_111, jl_112, jl_113, jl_114, jl_186, jl_1100, jr, ju, jpT, jpF, tnc, Nat.reduceEqDiff, reduceIte, and_false, false_and, not_true_eq_false, not_false_eq_true, or_false, gt_iff_lt, ge_iff_le, Int.lt_irrefl, Int.le_refl, z11, z12, y, ys, and_self]
        intro h1 op_w
        obtain ⟨sp1, e1_w⟩ := op_w.setp sp_w
        have hm_w : m.toNat < nM D := by omega
        refine ⟨91, m.toNat, 0, Or.inr rfl, rfl, by omega, by omega, rfl, by decide, fun h2 g1 g2 => ?_⟩
        have g1 : ∀ x k : Nat, x ≠ 95 → h2 x k = h1 x k := g1
        have g2 : ∀ k : Nat, h2 95 k = if 12 * m.toNat + 0 ≤ k ∧ k < 12 * m.toNat + 12 then s else h1 95 k := g2
        obtain ⟨⟨-, cd2, lw2, ra2⟩, e2_w⟩ := sp1.fr (h' := h2) (fun o k a => g1 o k (by omega))
        have eT : EqD D (cl 91 h2) (supL (cl 70 h) m.toNat s) := EqD.of m6_w s12 (fun q z => by
          have o := op_w.2 q z
          unfold supL
          by_cases y1 : q < 78
          · rw [if_neg (by omega), ← o, cl_lo y1, cl_lo y1]
            exact g1 _ _ (by decide)
          · by_cases y2 : q < 150
            · rw [cl_su (by omega) y2] at o ⊢
              rw [show h2 (91 + 4) (q - 78) = h2 95 (q - 78) from rfl, g2 (q - 78)]
              by_cases yq : 78 + 12 * m.toNat ≤ q ∧ q < 78 + 12 * m.toNat + 12
              · rw [if_pos (by omega), if_pos yq]
              · rw [if_neg (by omega), if_neg yq]
                exact o
            · rw [if_neg (by omega), ← o]
              unfold cl
              rw [if_neg y1, if_neg y1, if_neg y2, if_neg y2, g1 (91 + 6) _ (by decide), g1 91 10 (by decide)])
        have rT := RGA.cg eT (ra.su m6_w hm_w (by omega))
        have eV : sumA D (cl 91 h2) s.toNat - sumA D (cl 70 h2) s.toNat = vGn D (cl 70 h) [m, s] := by
          rw [sumA_cg w eT, e2_w, e1_w]
          rfl
        refine ⟨D, s.toNat, w, cd2, lw2, ra2, rT, by omega, by omega, fun h3 => ?_⟩
        rw [eV]
        exact q2_w ⟨⟨y.1, y.2⟩, ys.1, ys.2⟩ h3
      · simp only [qe_1, qe_3, qe_4, qe_5, qe_7, qe_72, qe_10, qe_102, qe_13, qe_14, qe_15, qe_16, qe_17, qe_18, qe_20, qe_22, qe_23, qe_21, qe_24, qe_25, qe_26, qe_27, qe_28, qe_30, qe_31, qe_32, qc_20, qc_22, qc_23, qc_21, qc_24, qc_25, qc_26, qc_27, qc_1, qc_3, qc_4, qc_7, qc_13, qc_28, qc_32, qs_1, qs_2, qs_3, qs_4, qs_5, qs_6, qs_9, qs_10, qs_11, qs_14, qs_15, qs_16, qs_27, qs_17, qs_18, qs_19, qs_20, qs_22, qs_23, qs_28, qs_25, qs_26, qs_7, qs_8, kc_1, kn_1, kc_2, kn_2, kc_3, kn_3, kc_4, kn_4, kc_5, kn_5, kc_6, kn_6, kc_7, kn_7, kc_8, kn_8, kc_9, kn_9, kc_10, kn_10, kc_11, kn_11, kc_12, kn_12, kc_13, kn_13, kc_14, kn_14, kc_15, kn_15, kc_16, kc_17, kc_18, kc_19, kc_20, kc_21, kc_22, kc_23, kc_30, kc_32, kc_40, kc_43, kc_45, kc_48, kc_52, kc_56, kc_57, kc_59, kc_60, kc_61, kc_63, kc_64, kc_72, kc_78, kc_97, kc_99, kc_122, kc_126, kc_128, kc_192, kc_200, kc_255, kc_999, kc_1000, kc_9999, kn_9999, kc_10000, kc_12345, kc_65536, kc_252645135, kc_858993459, kc_1103515245, kc_1431655765, kc_2147483647, kc_0, kc_24, kc_28, kc_37, kc_41, kc_42, kc_73, kc_91, kc_95, kc_96, kc_98, kc_100, kc_112, kc_125, kc_150, kc_162, kc_163, kc_168, kc_186, kc_190, kc_250, kc_355, kc_356, kc_404, kc_405, kc_429, kc_573, kc_1002, kc_1100, kc_1891, kc_2200, kc_4719, kc_4869, kc_4881, kc_5148, kc_19741, kc_25433, kc_320403, kc_628412, kc_629093, kc_660401, kc_679843, kc_918640, kc_979410, kc_1178088, kc_6232410, kc_24644941, kc_36238189, kc_38270444, kc_392531318, kc_425693491, kc_1342154595, kc_2147483648, kc_42328242873, kc_891704255789, kc_1722105685577, kc_1858726030364, ct_0, ct_1, ct_2, ct_3, ct_4, ct_5, cf_0, cf_1, cf_2, cf_3, cf_4, cf_5, w_ty6, w_ty7, m_sv, m_z0, m_hd, m_g0, m_gs, m_s0, m_ss, m_ap, m_an, forall_const, true_and, and_true, ne_eq, not_true_eq_false, not_false_eq_true, false_implies, true_implies, implies_true, eq_self, reduceCtorEq, Nat.reduceDiv, Nat.reduceMod, Int.reduceToNat, or_true, true_or, or_false, false_or, or_self, m_it, m_if, m_c1, m_01, m_02, m_03, m_04, m_10, m_12, m_13, m_14, m_20, m_21, m_23, m_24, m_30, m_31, m_32, m_34, m_40, m_41, m_42, m_43, Int.reduceLE, Int.reduceLT, Int.reduceGE, Int.reduceGT, Int.reduceNeg, Int.reduceAdd, Int.reduceSub, Int.reduceMul, Int.reduceEq, Int.reduceNe, Nat.reduceAdd, jun2, ro_0_0, ro_0_1, ro_0_2, ro_0_3, ro_0_4, ro_0_5, ro_0_6, ro_0_7, ro_0_8, ro_0_9, ro_0_10, ro_0_11, ro_0_12, ro_1_0, ro_1_1, ro_2_0, ro_4_0, ro_6_0, ro_6_1, ro_6_2, ro_6_3, ro_6_4, ro_6_5, ro_6_6, ro_6_7, ro_6_8, ro_8_0, ro_10_0, ro_12_0, ro_14_0, ro_16_0, ro_18_0, ro_20_0, ro_22_0, ro_22_1, ro_22_2, ro_23_0, ro_25_0, ro_27_0, ro_29_0, ro_29_1, ro_29_2, ro_29_3, ro_29_4, ro_29_5, ro_29_6, ro_29_7, ro_29_8, ro_31_0, ro_33_0, ro_35_0, ro_37_0, ro_39_0, ro_41_0, ro_43_0, ro_45_0, ro_45_1, ro_45_2, ro_46_0, ro_48_0, ro_50_0, ro_52_0, ro_52_1, ro_52_2, ro_52_3, ro_53_0, ro_55_0, ro_57_0, ro_59_0, ro_61_0, ro_61_1, ro_61_2, ro_61_3, ro_62_0, ro_64_0, ro_66_0, ro_68_0, ro_70_0, ro_70_1, ro_70_2, ro_70_3, ro_70_4, ro_70_5, ro_70_6, ro_70_7, ro_70_8, ro_70_9, ro_71_0, ro_73_0, ro_75_0, ro_77_0, ro_79_0, ro_81_0, ro_83_0, ro_85_0, ro_87_0, ro_89_0, ro_91_0, ro_91_1, ro_91_2, ro_91_3, ro_91_4, ro_91_5, ro_91_6, ro_91_7, ro_91_8, ro_91_9, ro_92_0, ro_94_0, ro_96_0, ro_98_0, ro_100_0, ro_102_0, ro_104_0, ro_106_0, ro_108_0, ro_110_0, ro_112_0, ro_112_1, ro_112_2, ro_112_3, ro_112_4, ro_112_5, ro_112_6, ro_112_7, ro_112_8, ro_112_9, ro_113_0, ro_115_0, ro_117_0, ro_119_0, ro_121_0, ro_123_0, ro_125_0, ro_127_0, ro_129_0, ro_131_0, ro_133_0, ro_133_1, ro_133_2, ro_133_3, ro_133_4, ro_133_5, ro_133_6, ro_133_7, ro_133_8, ro_133_9, ro_134_0, ro_136_0, ro_138_0, ro_140_0, ro_142_0, ro_144_0, ro_146_0, ro_148_0, ro_150_0, ro_152_0, ro_154_0, ro_155_0, ro_157_0, ro_157_1, ro_157_2, ro_157_3, ro_157_4, ro_157_5, ro_157_6, ro_157_7, ro_157_8, ro_157_9, ro_158_0, ro_160_0, ro_162_0, ro_164_0, ro_166_0, ro_168_0, ro_170_0, ro_172_0, ro_174_0, ro_176_0, ro_178_0, ro_180_0, ro_182_1, ro_182_4, ro_182_5, ro_182_6, ro_182_9, ro_182_10, ro_182_11, ro_182_13, ro_182_14, ro_182_15, ro_182_16, ro_182_17, ro_182_20, ro_182_21, ro_182_22, ro_182_23, ro_182_24, ro_182_26, ro_182_27, ro_182_28, lo_3, lo_5, lo_7, lo_9, lo_11, lo_13, lo_15, lo_17, lo_19, lo_21, lo_24, lo_26, lo_28, lo_30, lo_32, lo_34, lo_36, lo_38, lo_40, lo_42, lo_44, lo_47, lo_49, lo_51, lo_54, lo_56, lo_58, lo_60, lo_63, lo_65, lo_67, lo_69, lo_72, lo_74, lo_76, lo_78, lo_80, lo_82, lo_84, lo_86, lo_88, lo_90, lo_93, lo_95, lo_97, lo_99, lo_101, lo_103, lo_105, lo_107, lo_109, lo_111, lo_114, lo_116, lo_118, lo_120, lo_122, lo_124, lo_126, lo_128, lo_130, lo_132, lo_135, lo_137, lo_139, lo_141, lo_143, lo_145, lo_147, lo_149, lo_151, lo_153, lo_156, lo_159, lo_161, lo_163, lo_165, lo_167, lo_169, lo_171, lo_173, lo_175, lo_177, lo_179, lo_181, lo_183, lo_184, lo_185, lo_186, lo_187, lo_188, lo_189, lo_190, lo_191, lo_192, lo_193, lo_194, lo_195, lo_196, lo_197, lo_198, lo_199, lo_200, lo_201, lo_202, lo_203, jp_nn, jp_eq, jp_e1, Classical.not_not, ji0, ji1, ji2, cs75_156, kk_156, cs75_109, kk_109, cs75_110, kk_110, cs75_37, kk_37, cs75_38, kk_38, jl_0, jl_1, jl_2, jl_3, jl_4, jl_5, jl_6, jl_7, jl_8, jl_9, jl_10, jl_11, jl_12, jl_13, jl_14, jl_15, jl_16, jl_17, jl_18, jl_19, jl_20, jl_21, jl_22, jl_23, jl_24, jl_25, jl_26, jl_27, jl_28, jl_29, jl_30, jl_31, jl_32, jl_33, jl_34, jl_35, jl_36, jl_37, jl_38, jl_39, jl_40, jl_95, jl_96, jl_97, jl_98, jl_99, jl_100, jl_101, jl_102, jl_103, jl_104, jl_105, jl_106, jl_107, jl_108, jl_109, jl_110, jl_111, jl_112, jl_113, jl_114, jl_186, jl_1100, jr, ju, jpT, jpF, tnc, Nat.reduceEqDiff, reduceIte, and_false, false_and, not_true_eq_false, not_false_eq_true, or_false, gt_iff_lt, ge_iff_le, Int.lt_irrefl, Int.le_refl, z11, z12, y, ys, and_self]
        exact q1_w (fun z => ys ⟨z.2.1, z.2.2⟩) _
    · simp only [qe_1, qe_3, qe_4, qe_5, qe_7, qe_72, qe_10, qe_102, qe_13, qe_14, qe_15, qe_16, qe_17, qe_18, qe_20, qe_22, qe_23, qe_21, qe_24, qe_25, qe_26, qe_27, qe_28, qe_30, qe_31, qe_32, qc_20, qc_22, qc_23, qc_21, qc_24, qc_25, qc_26, qc_27, qc_1, qc_3, qc_4, qc_7, qc_13, qc_28, qc_32, qs_1, qs_2, qs_3, qs_4, qs_5, qs_6, qs_9, qs_10, qs_11, qs_14, qs_15, qs_16, qs_27, qs_17, qs_18, qs_19, qs_20, qs_22, qs_23, qs_28, qs_25, qs_26, qs_7, qs_8, kc_1, kn_1, kc_2, kn_2, kc_3, kn_3, kc_4, kn_4, kc_5, kn_5, kc_6, kn_6, kc_7, kn_7, kc_8, kn_8, kc_9, kn_9, kc_10, kn_10, kc_11, kn_11, kc_12, kn_12, kc_13, kn_13, kc_14, kn_14, kc_15, kn_15, kc_16, kc_17, kc_18, kc_19, kc_20, kc_21, kc_22, kc_23, kc_30, kc_32, kc_40, kc_43, kc_45, kc_48, kc_52, kc_56, kc_57, kc_59, kc_60, kc_61, kc_63, kc_64, kc_72, kc_78, kc_97, kc_99, kc_122, kc_126, kc_128, kc_192, kc_200, kc_255, kc_999, kc_1000, kc_9999, kn_9999, kc_10000, kc_12345, kc_65536, kc_252645135, kc_858993459, kc_1103515245, kc_1431655765, kc_2147483647, kc_0, kc_24, kc_28, kc_37, kc_41, kc_42, kc_73, kc_91, kc_95, kc_96, kc_98, kc_100, kc_112, kc_125, kc_150, kc_162, kc_163, kc_168, kc_186, kc_190, kc_250, kc_355, kc_356, kc_404, kc_405, kc_429, kc_573, kc_1002, kc_1100, kc_1891, kc_2200, kc_4719, kc_4869, kc_4881, kc_5148, kc_19741, kc_25433, kc_320403, kc_628412, kc_629093, kc_660401, kc_679843, kc_918640, kc_979410, kc_1178088, kc_6232410, kc_24644941, kc_36238189, kc_38270444, kc_392531318, kc_425693491, kc_1342154595, kc_2147483648, kc_42328242873, kc_891704255789, kc_1722105685577, kc_1858726030364, ct_0, ct_1, ct_2, ct_3, ct_4, ct_5, cf_0, cf_1, cf_2, cf_3, cf_4, cf_5, w_ty6, w_ty7, m_sv, m_z0, m_hd, m_g0, m_gs, m_s0, m_ss, m_ap, m_an, forall_const, true_and, and_true, ne_eq, not_true_eq_false, not_false_eq_true, false_implies, true_implies, implies_true, eq_self, reduceCtorEq, Nat.reduceDiv, Nat.reduceMod, Int.reduceToNat, or_true, true_or, or_false, false_or, or_self, m_it, m_if, m_c1, m_01, m_02, m_03, m_04, m_10, m_12, m_13, m_14, m_20, m_21, m_23, m_24, m_30, m_31, m_32, m_34, m_40, m_41, m_42, m_43, Int.reduceLE, Int.reduceLT, Int.reduceGE, Int.reduceGT, Int.reduceNeg, Int.reduceAdd, Int.reduceSub, Int.reduceMul, Int.reduceEq, Int.reduceNe, Nat.reduceAdd, jun2, ro_0_0, ro_0_1, ro_0_2, ro_0_3, ro_0_4, ro_0_5, ro_0_6, ro_0_7, ro_0_8, ro_0_9, ro_0_10, ro_0_11, ro_0_12, ro_1_0, ro_1_1, ro_2_0, ro_4_0, ro_6_0, ro_6_1, ro_6_2, ro_6_3, ro_6_4, ro_6_5, ro_6_6, ro_6_7, ro_6_8, ro_8_0, ro_10_0, ro_12_0, ro_14_0, ro_16_0, ro_18_0, ro_20_0, ro_22_0, ro_22_1, ro_22_2, ro_23_0, ro_25_0, ro_27_0, ro_29_0, ro_29_1, ro_29_2, ro_29_3, ro_29_4, ro_29_5, ro_29_6, ro_29_7, ro_29_8, ro_31_0, ro_33_0, ro_35_0, ro_37_0, ro_39_0, ro_41_0, ro_43_0, ro_45_0, ro_45_1, ro_45_2, ro_46_0, ro_48_0, ro_50_0, ro_52_0, ro_52_1, ro_52_2, ro_52_3, ro_53_0, ro_55_0, ro_57_0, ro_59_0, ro_61_0, ro_61_1, ro_61_2, ro_61_3, ro_62_0, ro_64_0, ro_66_0, ro_68_0, ro_70_0, ro_70_1, ro_70_2, ro_70_3, ro_70_4, ro_70_5, ro_70_6, ro_70_7, ro_70_8, ro_70_9, ro_71_0, ro_73_0, ro_75_0, ro_77_0, ro_79_0, ro_81_0, ro_83_0, ro_85_0, ro_87_0, ro_89_0, ro_91_0, ro_91_1, ro_91_2, ro_91_3, ro_91_4, ro_91_5, ro_91_6, ro_91_7, ro_91_8, ro_91_9, ro_92_0, ro_94_0, ro_96_0, ro_98_0, ro_100_0, ro_102_0, ro_104_0, ro_106_0, ro_108_0, ro_110_0, ro_112_0, ro_112_1, ro_112_2, ro_112_3, ro_112_4, ro_112_5, ro_112_6, ro_112_7, ro_112_8, ro_112_9, ro_113_0, ro_115_0, ro_117_0, ro_119_0, ro_121_0, ro_123_0, ro_125_0, ro_127_0, ro_129_0, ro_131_0, ro_133_0, ro_133_1, ro_133_2, ro_133_3, ro_133_4, ro_133_5, ro_133_6, ro_133_7, ro_133_8, ro_133_9, ro_134_0, ro_136_0, ro_138_0, ro_140_0, ro_142_0, ro_144_0, ro_146_0, ro_148_0, ro_150_0, ro_152_0, ro_154_0, ro_155_0, ro_157_0, ro_157_1, ro_157_2, ro_157_3, ro_157_4, ro_157_5, ro_157_6, ro_157_7, ro_157_8, ro_157_9, ro_158_0, ro_160_0, ro_162_0, ro_164_0, ro_166_0, ro_168_0, ro_170_0, ro_172_0, ro_174_0, ro_176_0, ro_178_0, ro_180_0, ro_182_1, ro_182_4, ro_182_5, ro_182_6, ro_182_9, ro_182_10, ro_182_11, ro_182_13, ro_182_14, ro_182_15, ro_182_16, ro_182_17, ro_182_20, ro_182_21, ro_182_22, ro_182_23, ro_182_24, ro_182_26, ro_182_27, ro_182_28, lo_3, lo_5, lo_7, lo_9, lo_11, lo_13, lo_15, lo_17, lo_19, lo_21, lo_24, lo_26, lo_28, lo_30, lo_32, lo_34, lo_36, lo_38, lo_40, lo_42, lo_44, lo_47, lo_49, lo_51, lo_54, lo_56, lo_58, lo_60, lo_63, lo_65, lo_67, lo_69, lo_72, lo_74, lo_76, lo_78, lo_80, lo_82, lo_84, lo_86, lo_88, lo_90, lo_93, lo_95, lo_97, lo_99, lo_101, lo_103, lo_105, lo_107, lo_109, lo_111, lo_114, lo_116, lo_118, lo_120, lo_122, lo_124, lo_126, lo_128, lo_130, lo_132, lo_135, lo_137, lo_139, lo_141, lo_143, lo_145, lo_147, lo_149, lo_151, lo_153, lo_156, lo_159, lo_161, lo_163, lo_165, lo_167, lo_169, lo_171, lo_173, lo_175, lo_177, lo_179, lo_181, lo_183, lo_184, lo_185, lo_186, lo_187, lo_188, lo_189, lo_190, lo_191, lo_192, lo_193, lo_194, lo_195, lo_196, lo_197, lo_198, lo_199, lo_200, lo_201, lo_202, lo_203, jp_nn, jp_eq, jp_e1, Classical.not_not, ji0, ji1, ji2, cs75_156, kk_156, cs75_109, kk_109, cs75_110, kk_110, cs75_37, kk_37, cs75_38, kk_38, jl_0, jl_1, jl_2, jl_3, jl_4, jl_5, jl_6, jl_7, jl_8, jl_9, jl_10, jl_11, jl_12, jl_13, jl_14, jl_15, jl_16, jl_17, jl_18, jl_19, jl_20, jl_21, jl_22, jl_23, jl_24, jl_25, jl_26, jl_27, jl_28, jl_29, jl_30, jl_31, jl_32, jl_33, jl_34, jl_35, jl_36, jl_37, jl_38, jl_39, jl_40, jl_95, jl_96, jl_97, jl_98, jl_99, jl_100, jl_101, jl_102, jl_103, jl_104, jl_105, jl_106, jl_107, jl_108, jl_109, jl_110, jl_111, jl_112, jl_113, jl_114, jl_186, jl_1100, jr, ju, jpT, jpF, tnc, Nat.reduceEqDiff, reduceIte, and_false, false_and, not_true_eq_false, not_false_eq_true, or_false, gt_iff_lt, ge_iff_le, Int.lt_irrefl, Int.le_refl, z12, y]
      exact q1_w (fun z => y ⟨z.1.1, z.1.2⟩) _
  · exact hQ.elim
theorem snd_75 {xs : Nat → Int} {L K : Nat} : ∀ n, SndC CS75 (evF xs L g_ck K g_cW g_M n) := snd_all snd_74 (fun f av h Q hQ => by
  unfold CS75 at hQ
  split at hQ
  · exact Or.inr m_34u
  · exact Or.inl hQ)
def CS76 : CSt := CS75
theorem cs76_300 {av : List Int} {h : XH} {Q : Nat → List Int → XH → Prop} : CS76 300 av h Q = k300c av h Q := id rfl
theorem cs76_34 {av : List Int} {h : XH} {Q : Nat → List Int → XH → Prop} : CS76 34 av h Q = k34u av h Q := id rfl
theorem snd_76 {xs : Nat → Int} {L K : Nat} : ∀ n, SndC CS76 (evF xs L g_ck K g_cW g_M n) := snd_75
section BKA
variable {X : XH → Prop} {xs : Nat → Int} {L K m n : Nat} {c d : Nat} {h h1 h2 : XH} {D : DD} {x y z u : Int} {CC_w : CSt}
theorem askCL {f r : Nat} {ws_w : List Int} {ok : DD → List Int → Prop} {v : DD → (Nat → Int) → List Int → Int} (snd : ∀ n, SndC CC_w (evF xs L g_ck K g_cW g_M n)) (cf_w : ∀ h Q, CC_w f (0 :: ws_w) h Q = kCLq ok v (0 :: ws_w) h Q) (cr : ∀ h Q, CC_w r (182 :: ws_w) h Q = kRL ok v (182 :: ws_w) h Q) (cg : ∀ D a b, WFD D → EqD D a b → v D a ws_w = v D b ws_w) : AskC X xs L K m n f r (0 :: ws_w) ws_w := by
  intro c d c' d' h hX h1 h2 D kk g r1_w v2 _ cd rf sm_w lq hz e1_w e2_w
  have sp_w := setp_of cd rf sm_w lq
  have rp := (rset_of rf sm_w lq).fr (fun o k a b => hz o k (by omega) (by omega))
  have eb : bl 0 h1 = bl 0 h := funext fun q => hz 194 _ (by decide) (by decide)
  have c1_w : CC_w f (0 :: ws_w) h (fun k r h' => (k = 4 → ¬ ok D ws_w) ∧ (k = 1 → ok D ws_w ∧ r = [v D (cl 70 h) ws_w])) := by
    rw [cf_w]
    exact ⟨rfl, D, sp_w, fun z h' => ⟨fun _ => z, fun w => absurd w (by decide)⟩, fun z h' => ⟨fun w => absurd w (by decide), fun _ => ⟨z, rfl⟩⟩⟩
  have c2 : CC_w r (182 :: ws_w) h1 (fun k r h' => k = 1 → (¬ ok D ws_w → h' 182 0 = 1) ∧ (ok D ws_w → h' 182 0 = 0 ∧ r = [v D (bl 0 h1) ws_w])) := by
    rw [cr]
    exact ⟨rfl, D, rp, fun z h' t _ => ⟨fun _ => t, fun w => absurd w z⟩, fun z h' t _ => ⟨fun w => absurd z w, fun _ => ⟨t, rfl⟩⟩⟩
  have s1_w := (snd m _ _ _ _ _ c1_w _ _ _ _ e1_w).2
  have s2_w := (snd n _ _ _ _ _ c2 _ _ _ _ e2_w).2 rfl
  refine ⟨fun k4 => s2_w.1 (s1_w.1 k4), fun k1_w => ?_⟩
  obtain ⟨o1, e3_w⟩ := s1_w.2 k1_w
  obtain ⟨t, e4_w⟩ := s2_w.2 o1
  refine ⟨t, e3_w.trans (Eq.trans ?_ e4_w.symm)⟩
  rw [eb, cg D _ _ rf.w sm_w.2.2.1]
theorem gains_c : AskC X xs L K m n 34 300 [0, x, u] [x, u] := askCL (ok := okGn) (v := vGn) snd_76 (fun h Q => by rw [cs76_34]; rfl) (fun h Q => by rw [cs76_300]; rfl) (fun D a b w e => by
  show sumA D (supL a x.toNat u) u.toNat - sumA D a u.toNat = sumA D (supL b x.toNat u) u.toNat - sumA D b u.toNat
  rw [sumA_cg w (supL_e e), sumA_cg w e])
end BKA
end
section
/-! ===== what lasts beside the state_w: with whom meters are is_w told_w, slots_w that are seen_w are slots_w ===== -/
def SBK (c : Nat) (h : XH) : Prop := ∀ q : Nat, 78 ≤ q → (q : Int) < 78 + 12 * h 188 3 → h 194 (c + q) < h 188 2
def SLT (c : Nat) (h : XH) : Prop := h 194 (c + 404) ≤ 8 ∧ ∀ i : Nat, (i : Int) < h 194 (c + 404) → 0 ≤ h 194 (c + (405 + 3 * i)) ∧ h 194 (c + (405 + 3 * i)) < h 188 0
def RSU (h : XH) : Prop := (h 188 3 ≤ 6 ∧ h 182 18 ≤ 8) ∧ SBK 0 h ∧ SLT 0 h ∧ (∀ i : Nat, (i : Int) < h 182 18 → SBK (429 * (3 + i)) h) ∧ (h 195 0 ≠ 0 → SBK 429 h ∧ SLT 429 h) ∧ (h 195 1 ≠ 0 → SBK 858 h ∧ SLT 858 h)
section RSUS
variable {xs : Nat → Int} {L K n : Nat} {c c' d e' : Nat} {h h' h1 h2 x : XH} {D : DD} {g : XS × Nat × Nat} {v : List Int} {w : Nat}
theorem SBK.fr (s : SBK c h) (m6_w : h 188 3 ≤ 6) (e : ∀ k : Nat, k < 4 → h' 188 k = h 188 k) (z : ∀ q : Nat, q < 150 → h' 194 (c' + q) = h 194 (c + q)) : SBK c' h' := fun q a b => by
  rw [e 3 (by decide)] at b
  rw [z q (by omega), e 2 (by decide)]
  exact s q a b
theorem SLT.fr (s : SLT c h) (e : ∀ k : Nat, k < 4 → h' 188 k = h 188 k) (z : ∀ q : Nat, 404 ≤ q → q < 429 → h' 194 (c' + q) = h 194 (c + q)) : SLT c' h' := by
  obtain ⟨a, b⟩ := s
  have z4 := z 404 (by decide) (by decide)
  refine ⟨by omega, fun i hi_w => ?_⟩
  rw [z4] at hi_w
  rw [z (405 + 3 * i) (by omega) (by omega), e 0 (by decide)]
  exact b i hi_w
theorem RSU.fr (r : RSU h) (e : ∀ k : Nat, k < 4 → h' 188 k = h 188 k) (z : ∀ q : Nat, q < 4719 → h' 194 q = h 194 q) (u : h' 182 18 = h 182 18) (a0_w : h' 195 0 = h 195 0) (a1_w : h' 195 1 = h 195 1) : RSU h' := by
  obtain ⟨⟨m6_w, n8⟩, b0, t0_w, ui, k0_w, k1_w⟩ := r
  refine ⟨⟨by rw [e 3 (by decide)]; exact m6_w, by rw [u]; exact n8⟩, b0.fr m6_w e (fun q y => z _ (by omega)), t0_w.fr e (fun q y1 y2 => z _ (by omega)), fun i hi_w => ?_, fun y => ?_, fun y => ?_⟩
  · rw [u] at hi_w
    exact (ui i hi_w).fr m6_w e (fun q y => z _ (by omega))
  · rw [a0_w] at y
    exact ⟨(k0_w y).1.fr m6_w e (fun q y => z _ (by omega)), (k0_w y).2.fr e (fun q y1 y2 => z _ (by omega))⟩
  · rw [a1_w] at y
    exact ⟨(k1_w y).1.fr m6_w e (fun q y => z _ (by omega)), (k1_w y).2.fr e (fun q y1 y2 => z _ (by omega))⟩
/-- one more_w deed: what was is_w kept -/
theorem RSU.push (r : RSU h) (hw : h 182 18 = (w : Int)) (kx : RKP w (thz h) x) (e8 : ∀ k : Nat, k < 4 → h' 188 k = x 188 k) (e4_w : ∀ k : Nat, 404 ≤ k → k < 4719 → h' 194 k = x 194 k) (e2_w : h' 182 18 = x 182 18) (e5_w : ∀ k : Nat, h' 195 k = x 195 k) (sb_w : SBK 0 h') : RSU h' := by
  obtain ⟨⟨m6_w, n8⟩, b0, t0_w, ui, k0_w, k1_w⟩ := r
  obtain ⟨x1_w, x2_w, x3, x4_w⟩ := kx
  have w8 : w ≤ 8 := by omega
  have p7_w : pn8 w ≤ 7 := by
    unfold pn8
    split <;> omega
  have f8_w : ∀ k : Nat, k < 4 → h' 188 k = h 188 k := fun k z => (e8 k z).trans ((x1_w 188 k (by omega) (by omega)).trans (th_e (by decide)))
  have f5_w : ∀ k : Nat, h' 195 k = h 195 k := fun k => (e5_w k).trans ((x1_w 195 k (by omega) (by omega)).trans (th_e (by decide)))
  have f4_w : ∀ k : Nat, 404 ≤ k → k < 1287 → h' 194 k = h 194 k := fun k a b => (e4_w k a (by omega)).trans ((x1_w 194 k (by omega) (by omega)).trans (th_e (by decide)))
  have f2_w : h' 182 18 = ((pn8 w + 1 : Nat) : Int) := e2_w.trans x2_w
  refine ⟨⟨by rw [f8_w 3 (by decide)]; exact m6_w, by omega⟩, sb_w, t0_w.fr f8_w (fun q a b => f4_w _ (by omega) (by omega)), fun i hi_w => ?_, fun y => ?_, fun y => ?_⟩
  · by_cases yi : i = pn8 w
    · subst yi
      refine b0.fr m6_w f8_w (fun q y => ?_)
      rw [e4_w _ (by omega) (by omega), x4_w q (by omega), th_e (by decide), Nat.zero_add]
    · have ip : i < pn8 w := by omega
      have iw : (((if w = 8 then i + 1 else i) : Nat) : Int) < h 182 18 := by
        unfold pn8 at ip
        split at ip
        · rw [if_pos (by assumption)]
          omega
        · rw [if_neg (by assumption)]
          omega
      refine (ui _ iw).fr m6_w f8_w (fun q y => ?_)
      rw [e4_w _ (by omega) (by omega), x3 i ip q (by omega), th_e (by decide)]
  · rw [f5_w 0] at y
    exact ⟨(k0_w y).1.fr m6_w f8_w (fun q y => f4_w _ (by omega) (by omega)), (k0_w y).2.fr f8_w (fun q y1 y2 => f4_w _ (by omega) (by omega))⟩
  · rw [f5_w 1] at y
    exact ⟨(k1_w y).1.fr m6_w f8_w (fun q y => f4_w _ (by omega) (by omega)), (k1_w y).2.fr f8_w (fun q y1 y2 => f4_w _ (by omega) (by omega))⟩
theorem RSU.th (r : RSU h) : RSU (thz h) := r.fr (fun k _ => th_e (by decide)) (fun q _ => th_e (by decide)) (up_ne (by omega)) (th_e (by decide)) (th_e (by decide))
theorem SBK.kp (r : RSU h) (kx : RKP w (thz h) x) (e : ∀ k : Nat, k < 4 → h' 188 k = x 188 k) (z : ∀ q : Nat, 78 ≤ q → q < 150 → h' 194 q = x 194 q ∨ h' 194 q < h 188 2) : SBK 0 h' := fun q a b => by
  obtain ⟨⟨m6_w, n8⟩, b0, -⟩ := r
  obtain ⟨x1_w, -⟩ := kx
  have f8_w : ∀ k : Nat, k < 4 → h' 188 k = h 188 k := fun k z => (e k z).trans ((x1_w 188 k (by omega) (by omega)).trans (th_e (by decide)))
  rw [f8_w 3 (by decide)] at b
  rw [f8_w 2 (by decide)]
  have t := b0 q a b
  rw [Nat.zero_add] at t ⊢
  rcases z q a (by omega) with y | y
  · rw [y, x1_w 194 q (by omega) (by omega), th_e (by decide)]
    exact t
  · exact y
end RSUS
end
section
/-! ===== calls keep_w what lasts beside Inv5 ===== -/
def RefU (h h1 : XH) : Prop := ∀ o k : Nat, 182 ≤ o → o ≤ 202 → h1 o k = h o k
section INVY
variable {xs : Nat → Int} {L K n : Nat} {c d : Nat} {h h' hX h1 h2 : XH} {D : DD} {I Y : XH → Prop}
theorem RSU.u (y : RSU h) (u : RefU h h1) : RSU h1 := y.fr (fun k _ => u 188 k (by decide) (by decide)) (fun q _ => u 194 q (by decide) (by decide)) (u 182 18 (by decide) (by decide)) (u 195 0 (by decide) (by decide)) (u 195 1 (by decide) (by decide))
theorem RSU.q {r : Nat} {ws_w v : List Int} (y : RSU h) (hI : Inv5 h) (u : RefU h h1) (hf : r_n5 r = true) (hb_w : BKp xs L K n r ws_w) (e : evF xs L g_ck K g_cW g_M n r (182 :: ws_w) ((a_g3, c, d), h1) = some (1, v, ((a_g3, c, d), h2))) : RSU h2 := by
  obtain ⟨D, cd, rf, sm_w⟩ := hI.2
  simp only [r_n5, Bool.and_eq_true, Bool.not_eq_true'] at hf
  obtain ⟨⟨f4_w, f18⟩, f195⟩ := hf
  have f4' := f4_w
  simp only [r_n4, r_n3, r_nf, Bool.and_eq_true, Bool.not_eq_true'] at f4'
  have fin_w : m_in r = true := f4'.1.1.1.1.1.1.1.1.1.1
  obtain ⟨-, fr⟩ := fr_all n r (182 :: ws_w) _ _ _ _ _ _ fin_w rfl (Or.inr rfl) e
  obtain ⟨-, -, b5, b6, b7⟩ := ref_4 (g := (a_g3, c, d)) f4_w rfl e
  have uu : ∀ o, 182 ≤ o → o ≤ 202 → h1 o = h o := fun o a b => funext fun k => u o k a b
  have rf1 : RF D h1 := rf.fr (uu 188 (by decide) (by decide)) (uu 189 (by decide) (by decide)) (uu 190 (by decide) (by decide))
  have e1_w := uu 191 (by decide) (by decide)
  obtain ⟨l30, ln⟩ := lnb_of hI.1.1.2
  have bk : BKq h1 h2 := hb_w c d h1 h2 v D rf1 (by rw [e1_w]; exact l30) (fun n z => by rw [e1_w] at z ⊢; exact ln n z) e
  exact (y.u u).fr (fun k _ => congrFun b5 k) (fun q z => bk q z) (fr 182 18 (fun _ => f18) (fr_lo fin_w (by decide))) (fr 195 0 (fun y => absurd y (by decide)) f195) (fr 195 1 (fun y => absurd y (by decide)) f195)
end INVY
end
section
/-! ===== contracts: what is_w left of a slot_w when all shares are out, all shares (written_w by wip/new_w/gen_t0.py) ===== -/
/-- whom meters are with is_w told_w -/
def SUPA (D : DD) (a : Nat → Int) : Prop := ∀ m s : Nat, m < nM D → s < 12 → a (78 + (12 * m + s)) < (nU D : Int)
section PRF
variable {D : DD} {a b : Nat → Int} {s m u n : Nat}
theorem SUPA.cg (w : WFD D) (e : EqD D a b) (p : SUPA D b) : SUPA D a := fun m s hm_w hs => by
  have m6_w := w.cn.2.2.1
  rw [e _ (Or.inr (Or.inl ⟨by omega, by omega⟩))]
  exact p m s hm_w hs
end PRF
end
section
/-! ===== contracts: days by draws ===== -/
section DYS
variable {D : DD} {a b : Nat → Int} {g n k : Nat} {v : Int} {h : XH}
theorem SUPA.up (p : SUPA D a) (hk : k < 78) : SUPA D (updF a k v) := fun m s hm_w hs => by
  rw [updF_ne (by omega)]
  exact p m s hm_w hs
end DYS
end
section
/-! ===== contracts: who, ask_w ===== -/
def SER (D : DD) (n : Nat) (h : XH) : Prop := n ≤ 8 ∧ h 194 404 = (n : Int) ∧ ∀ i : Nat, i < n → 0 ≤ h 194 (405 + 3 * i) ∧ (h 194 (405 + 3 * i)).toNat < nS D
end
section
/-! ===== contracts: who and ask_w, whole_w ===== -/
section KKT3
variable {h h' h1 h2 : XH} {Q : Nat → List Int → XH → Prop} {t b s n w g i x : Int} {D : DD} {v : Int}
theorem SER.th (s : SER D n.toNat h) : SER D n.toNat (j_up h 182 0 v) := ⟨s.1, (up_ne (by omega)).trans s.2.1, fun i z => by
  rw [up_ne (by omega)]
  exact s.2.2 i z⟩
end KKT3
end

section
/-! ===== contracts: the class's lines ===== -/
def sEnd (sp_w : (S P V W : Nat → Int) → DD → Nat → XZ (DD × Nat)) (T : TA) (D : DD) (i : Nat) : XZ (DD × Nat) := eB (sp_w (tS T) (tP T) (tV T) wl D i) fun r => eB (sSgn (tS T) (tP T) (tV T) 59 r.2) fun j => .ok (r.1, j)
/-- what a grid may_w change in the class -/
def FL (h h' : XH) : Prop := ∀ o k : Nat, ¬ ((o = 2 ∧ 2 ≤ k) ∨ (o = 1 ∧ 2 ≤ k ∧ k ≤ 8) ∨ o = 5 ∨ (o = 29 ∧ 9 ≤ k) ∨ (30 ≤ o ∧ o ≤ 51)) → h' o k = h o k
/-- what is_w told_w once -/
def RFD (D : DD) (h : XH) : Prop := h 1 7 = (if D.2.1.isSome then 1 else 0) ∧ h 1 8 = (if D.2.2.2.2.2.isSome then 1 else 0)
def LNX (sp_w : (S P V W : Nat → Int) → DD → Nat → XZ (DD × Nat)) (h : XH) (Q : Nat → List Int → XH → Prop) : Prop := ∃ (T : TA) (i : Nat) (D : DD), TCA T i h ∧ TGd T ∧ i < T.2.1 ∧ CD 29 D h ∧ RFD D h ∧ (∀ f h', sEnd sp_w T D i = .error f → FL h h' → h' 1 6 = f → Q 1 [0] h') ∧ (∀ D' j h', sEnd sp_w T D i = .ok (D', j) → FL h h' → h' 1 6 = h 1 6 → CD 29 D' h' → RFD D' h' → TCA T j h' → Q 1 [1] h')
def kCL (sp_w : (S P V W : Nat → Int) → DD → Nat → XZ (DD × Nat)) : KT := fun av h Q => match av with
  | [o, p] => o = 1 ∧ p = 29 ∧ LNX sp_w h Q
  | _ => False
def k122 : KT := kCL (fun S P V _ => sSlots S P V)
def k123 : KT := kCL (fun S P V _ => sFeed S P V)
def k124 : KT := kCL sClass
def k125 : KT := kCL sSup
def k126 : KT := kCL sMeter
section KKC7
variable {h h1 h2 h' : XH} {Q : Nat → List Int → XH → Prop} {D : DD} {T : TA} {i : Nat} {sp_w : (S P V W : Nat → Int) → DD → Nat → XZ (DD × Nat)}
theorem kk_cl : kCL sp_w [1, 29] h Q = LNX sp_w h Q := propext ⟨fun a => a.2.2, fun a => ⟨rfl, rfl, a⟩⟩
theorem kk_122 : k122 [1, 29] h Q = LNX (fun S P V _ => sSlots S P V) h Q := kk_cl
theorem kk_123 : k123 [1, 29] h Q = LNX (fun S P V _ => sFeed S P V) h Q := kk_cl
theorem kk_124 : k124 [1, 29] h Q = LNX sClass h Q := kk_cl
theorem kk_125 : k125 [1, 29] h Q = LNX sSup h Q := kk_cl
theorem kk_126 : k126 [1, 29] h Q = LNX sMeter h Q := kk_cl
theorem FL.tr (a : FL h h1) (b : FL h1 h2) : FL h h2 := fun o k z => (b o k z).trans (a o k z)
theorem FRs.fl (f : FRs h h') : FL h h' := fun o k z => f o k (fun y => z (by omega))
theorem FRd.fl (f : FRd h h') : FL h h' := f.rs.fl
theorem FRo.fl (f : FRo h h') : FL h h' := f.1.fl
theorem FRz.fl (f : FRz h h') : FL h h' := f.1.fl
theorem FP.fl (f : FP h h') : FL h h' := fun o k z => f o k (fun y => z (by omega))
theorem FL.up {o k : Nat} {v : Int} (z : (o = 2 ∧ 2 ≤ k) ∨ (o = 1 ∧ 2 ≤ k ∧ k ≤ 8) ∨ o = 5 ∨ (o = 29 ∧ 9 ≤ k) ∨ (30 ≤ o ∧ o ≤ 51)) : FL h (j_up h o k v) := fun a b y => up_ne (fun e => y (by rw [e.1, e.2]; exact z))
theorem CD.fr (c : CD 29 D h) (f : ∀ o k : Nat, 29 ≤ o → o ≤ 47 → h' o k = h o k) : CD 29 D h' := by
  obtain ⟨⟨⟨c1_w, c2, c3, l1, l2, l3⟩, r1_w, r2, r3, nd⟩, d1_w, d2_w, d3_w, d4_w, d5⟩ := c
  exact ⟨⟨⟨(f _ _ (by omega) (by omega)).trans c1_w, (f _ _ (by omega) (by omega)).trans c2, (f _ _ (by omega) (by omega)).trans c3, l1, l2, l3⟩, fun k v z => ⟨(f _ _ (by omega) (by omega)).trans (r1_w k v z).1, (r1_w k v z).2⟩, fun k v z => ⟨(f _ _ (by omega) (by omega)).trans (r2 k v z).1, (r2 k v z).2⟩, fun k v z => ⟨(f _ _ (by omega) (by omega)).trans (r3 k v z).1, (r3 k v z).2⟩, nd⟩, ⟨(f _ _ (by omega) (by omega)).trans d1_w.1, d1_w.2⟩, fun s z => (f _ _ (by omega) (by omega)).trans (d2_w s z), d3_w.fr (fun k => f _ _ (by omega) (by omega)) (fun k => f _ _ (by omega) (by omega)), d4_w.fr (fun k => f _ _ (by omega) (by omega)) (fun k => f _ _ (by omega) (by omega)) (fun k => f _ _ (by omega) (by omega)) (fun k => f _ _ (by omega) (by omega)), d5.fr (f _ _ (by omega) (by omega)) (fun k => f _ _ (by omega) (by omega))⟩
theorem CD.rs (c : CD 29 D h) (f : FRs h h') : CD 29 D h' := c.fr (fun o k a b => f o k (by omega))
theorem CD.rd (c : CD 29 D h) (f : FRd h h') : CD 29 D h' := c.rs f.rs
theorem RFD.rs (c : RFD D h) (f : FRs h h') : RFD D h' := ⟨(f 1 7 (by omega)).trans c.1, (f 1 8 (by omega)).trans c.2⟩
theorem RFD.rd (c : RFD D h) (f : FRd h h') : RFD D h' := c.rs f.rs
theorem CD.ro (c : CD 29 D h) (f : FRo h h') : CD 29 D h' := c.rd f.1
theorem CD.rz (c : CD 29 D h) (f : FRz h h') : CD 29 D h' := c.rs f.1
theorem RFD.ro (c : RFD D h) (f : FRo h h') : RFD D h' := c.rd f.1
theorem RFD.rz (c : RFD D h) (f : FRz h h') : RFD D h' := c.rs f.1
theorem RFD.fp (c : RFD D h) (f : FP h h') : RFD D h' := ⟨(f 1 7 (by omega)).trans c.1, (f 1 8 (by omega)).trans c.2⟩
theorem RFD.sl {v : Int} (c : RFD D h) : RFD (v, D.2) (j_up h 29 9 v) := ⟨(up_ne (by omega)).trans c.1, (up_ne (by omega)).trans c.2⟩
theorem CD.sl {v : Int} (c : CD 29 D h) (v0_w : 0 ≤ v) (v12 : v ≤ 12) : CD 29 (v, D.2) (j_up h 29 9 v) := by
  obtain ⟨⟨⟨c1_w, c2, c3, l1, l2, l3⟩, r1_w, r2, r3, nd⟩, d1_w, d2_w, d3_w, d4_w, d5⟩ := c
  have f : ∀ o k : Nat, ¬ (o = 29 ∧ k = 9) → j_up h 29 9 v o k = h o k := fun o k z => up_ne z
  exact ⟨⟨⟨(f _ _ (by omega)).trans c1_w, (f _ _ (by omega)).trans c2, (f _ _ (by omega)).trans c3, l1, l2, l3⟩, fun k v z => ⟨(f _ _ (by omega)).trans (r1_w k v z).1, (r1_w k v z).2⟩, fun k v z => ⟨(f _ _ (by omega)).trans (r2 k v z).1, (r2 k v z).2⟩, fun k v z => ⟨(f _ _ (by omega)).trans (r3 k v z).1, (r3 k v z).2⟩, nd⟩, ⟨up_eq, v0_w, v12⟩, fun s z => (f _ _ (by omega)).trans (d2_w s z), d3_w.fr (fun k => f _ _ (by omega)) (fun k => f _ _ (by omega)), d4_w.fr (fun k => f _ _ (by omega)) (fun k => f _ _ (by omega)) (fun k => f _ _ (by omega)) (fun k => f _ _ (by omega)), d5.fr (f _ _ (by omega)) (fun k => f _ _ (by omega))⟩
theorem sNum_ok {S P V : Nat → Int} {lo_w hi_w v : Int} {i j : Nat} (e : sNum S P V lo_w hi_w i = .ok (v, j)) : lo_w ≤ v ∧ v ≤ hi_w := by
  unfold sNum at e
  split at e
  · cases e
  · split at e
    · cases e
    · rename_i z
      cases e
      omega
theorem sNew_ok {S P V W : Nat → Int} {D : DD} {v : Int} {i j : Nat} (e : sNew S P V W D i = .ok (v, j)) : ¬ v ∈ tolds D := by
  unfold sNew at e
  split at e
  · cases e
  · split at e
    · cases e
    · rename_i z
      cases e
      exact z
end KKC7
def CS15 : CSt := fun f => match f with
  | 122 => k122
  | 123 => k123
  | 124 => k124
  | 125 => k125
  | 126 => k126
  | _ => CS14 f
theorem cs15_54 {av : List Int} {h : XH} {Q : Nat → List Int → XH → Prop} : CS15 54 av h Q = k54 av h Q := id rfl
theorem cs15_55 {av : List Int} {h : XH} {Q : Nat → List Int → XH → Prop} : CS15 55 av h Q = k55 av h Q := id rfl
theorem cs15_64 {av : List Int} {h : XH} {Q : Nat → List Int → XH → Prop} : CS15 64 av h Q = k64 av h Q := id rfl
theorem cs15_77 {av : List Int} {h : XH} {Q : Nat → List Int → XH → Prop} : CS15 77 av h Q = k77 av h Q := id rfl
theorem cs15_133 {av : List Int} {h : XH} {Q : Nat → List Int → XH → Prop} : CS15 133 av h Q = k133 av h Q := id rfl
theorem cs15_134 {av : List Int} {h : XH} {Q : Nat → List Int → XH → Prop} : CS15 134 av h Q = k134 av h Q := id rfl
theorem cs15_135 {av : List Int} {h : XH} {Q : Nat → List Int → XH → Prop} : CS15 135 av h Q = k135 av h Q := id rfl
theorem cs15_136 {av : List Int} {h : XH} {Q : Nat → List Int → XH → Prop} : CS15 136 av h Q = k136 av h Q := id rfl
theorem cs15_138 {av : List Int} {h : XH} {Q : Nat → List Int → XH → Prop} : CS15 138 av h Q = k138 av h Q := id rfl
theorem cs15_139 {av : List Int} {h : XH} {Q : Nat → List Int → XH → Prop} : CS15 139 av h Q = k139 av h Q := id rfl
theorem cs15_102 {av : List Int} {h : XH} {Q : Nat → List Int → XH → Prop} : CS15 102 av h Q = k102 av h Q := id rfl
theorem cs15_103 {av : List Int} {h : XH} {Q : Nat → List Int → XH → Prop} : CS15 103 av h Q = k103 av h Q := id rfl
theorem cs15_140 {av : List Int} {h : XH} {Q : Nat → List Int → XH → Prop} : CS15 140 av h Q = k140 av h Q := id rfl
theorem cs15_137 {av : List Int} {h : XH} {Q : Nat → List Int → XH → Prop} : CS15 137 av h Q = k137 av h Q := id rfl
theorem cs15_127 {av : List Int} {h : XH} {Q : Nat → List Int → XH → Prop} : CS15 127 av h Q = k127 av h Q := id rfl
theorem cs15_99 {av : List Int} {h : XH} {Q : Nat → List Int → XH → Prop} : CS15 99 av h Q = k99c av h Q := id rfl
theorem cs15_100 {av : List Int} {h : XH} {Q : Nat → List Int → XH → Prop} : CS15 100 av h Q = k100 av h Q := id rfl
theorem cs15_98 {av : List Int} {h : XH} {Q : Nat → List Int → XH → Prop} : CS15 98 av h Q = k98 av h Q := id rfl
theorem cs15_122 {av : List Int} {h : XH} {Q : Nat → List Int → XH → Prop} : CS15 122 av h Q = k122 av h Q := id rfl
theorem cs15_123 {av : List Int} {h : XH} {Q : Nat → List Int → XH → Prop} : CS15 123 av h Q = k123 av h Q := id rfl
theorem cs15_124 {av : List Int} {h : XH} {Q : Nat → List Int → XH → Prop} : CS15 124 av h Q = k124 av h Q := id rfl
theorem cs15_125 {av : List Int} {h : XH} {Q : Nat → List Int → XH → Prop} : CS15 125 av h Q = k125 av h Q := id rfl
theorem cs15_126 {av : List Int} {h : XH} {Q : Nat → List Int → XH → Prop} : CS15 126 av h Q = k126 av h Q := id rfl
theorem m_122 : BodyOK CS15 CS15 122 := fun av h Q hQ => by
  rw [cs15_122] at hQ
  unfold k122 kCL at hQ
  split at hQ
  · rename_i o p
    obtain ⟨rfl, rfl, T, i, D, t, tg, lt, cd, rf, q1_w, q2_w⟩ := hQ
    have d1_w := cd.2.1
    show pS CS15 bb_122 [1, 29] h _
    by_cases y : D.1 = 0
    · have y1 : h 29 9 = 0 := d1_w.1.trans y
      have ew : sEnd (fun S P V _ => sSlots S P V) T D i = eB (eB (sNum (tS T) (tP T) (tV T) 1 12 (i + 1)) fun a => .ok ((a.1, D.2), a.2)) fun r => eB (sSgn (tS T) (tP T) (tV T) 59 r.2) fun j => .ok (r.1, j) := by
        show eB (sSlots (tS T) (tP T) (tV T) D i) _ = _
        unfold sSlots
        rw [if_neg (fun z => z y)]
      rw [ew] at q1_w q2_w
      obtain ⟨n1_w, n2_w, n3_w, n4_w⟩ := t.nx lt rfl rfl
      unfold bb_122
      simp only [qe_1, qe_3, qe_4, qe_5, qe_7, qe_72, qe_10, qe_102, qe_13, qe_14, qe_15, qe_16, qe_17, qe_18, qe_20, qe_22, qe_23, qe_21, qe_24, qe_25, qe_26, qe_27, qe_28, qe_30, qe_31, qe_32, qc_20, qc_22, qc_23, qc_21, qc_24, qc_25, qc_26, qc_27, qc_1, qc_3, qc_4, qc_7, qc_13, qc_28, qc_32, qs_1, qs_2, qs_3, qs_4, qs_5, qs_6, qs_9, qs_10, qs_11, qs_14, qs_15, qs_16, qs_27, qs_17, qs_18, qs_19, qs_20, qs_22, qs_23, qs_28, qs_25, qs_26, qs_7, qs_8, kc_1, kn_1, kc_2, kn_2, kc_3, kn_3, kc_4, kn_4, kc_5, kn_5, kc_6, kn_6, kc_7, kn_7, kc_8, kn_8, kc_9, kn_9, kc_10, kn_10, kc_11, kn_11, kc_12, kn_12, kc_13, kn_13, kc_14, kn_14, kc_15, kn_15, kc_16, kc_17, kc_18, kc_19, kc_20, kc_21, kc_22, kc_23, kc_30, kc_32, kc_40, kc_43, kc_45, kc_48, kc_52, kc_56, kc_57, kc_59, kc_60, kc_61, kc_63, kc_64, kc_72, kc_78, kc_97, kc_99, kc_122, kc_126, kc_128, kc_192, kc_200, kc_255, kc_999, kc_1000, kc_9999, kn_9999, kc_10000, kc_12345, kc_65536, kc_252645135, kc_858993459, kc_1103515245, kc_1431655765, kc_2147483647, kc_0, kc_24, kc_28, kc_37, kc_41, kc_42, kc_73, kc_91, kc_95, kc_96, kc_98, kc_100, kc_112, kc_125, kc_150, kc_162, kc_163, kc_168, kc_186, kc_190, kc_250, kc_355, kc_356, kc_404, kc_405, kc_429, kc_573, kc_1002, kc_1100, kc_1891, kc_2200, kc_4719, kc_4869, kc_4881, kc_5148, kc_19741, kc_25433, kc_320403, kc_628412, kc_629093, kc_660401, kc_679843, kc_918640, kc_979410, kc_1178088, kc_6232410, kc_24644941, kc_36238189, kc_38270444, kc_392531318, kc_425693491, kc_1342154595, kc_2147483648, kc_42328242873, kc_891704255789, kc_1722105685577, kc_1858726030364, ct_0, ct_1, ct_2, ct_3, ct_4, ct_5, cf_0, cf_1, cf_2, cf_3, cf_4, cf_5, w_ty6, w_ty7, m_sv, m_z0, m_hd, m_g0, m_gs, m_s0, m_ss, m_ap, m_an, forall_const, true_and, and_true, ne_eq, not_true_eq_false, not_false_eq_true, false_implies, true_implies, implies_true, eq_self, reduceCtorEq, Nat.reduceDiv, Nat.reduceMod, Int.reduceToNat, or_true, true_or, or_false, false_or, or_self, m_it, m_if, m_c1, m_01, m_02, m_03, m_04, m_10, m_12, m_13, m_14, m_20, m_21, m_23, m_24, m_30, m_31, m_32, m_34, m_40, m_41, m_42, m_43, Int.reduceLE, Int.reduceLT, Int.reduceGE, Int.reduceGT, Int.reduceNeg, Int.reduceAdd, Int.reduceSub, Int.reduceMul, Int.reduceEq, Int.reduceNe, Nat.reduceAdd, jun2, ro_0_0, ro_0_1, ro_0_2, ro_0_3, ro_0_4, ro_0_5, ro_0_6, ro_0_7, ro_0_8, ro_0_9, ro_0_10, ro_0_11, ro_0_12, ro_1_0, ro_1_1, ro_2_0, ro_4_0, ro_6_0, ro_6_1, ro_6_2, ro_6_3, ro_6_4, ro_6_5, ro_6_6, ro_6_7, ro_6_8, ro_8_0, ro_10_0, ro_12_0, ro_14_0, ro_16_0, ro_18_0, ro_20_0, ro_22_0, ro_22_1, ro_22_2, ro_23_0, ro_25_0, ro_27_0, ro_29_0, ro_29_1, ro_29_2, ro_29_3, ro_29_4, ro_29_5, ro_29_6, ro_29_7, ro_29_8, ro_31_0, ro_33_0, ro_35_0, ro_37_0, ro_39_0, ro_41_0, ro_43_0, ro_45_0, ro_45_1, ro_45_2, ro_46_0, ro_48_0, ro_50_0, ro_52_0, ro_52_1, ro_52_2, ro_52_3, ro_53_0, ro_55_0, ro_57_0, ro_59_0, ro_61_0, ro_61_1, ro_61_2, ro_61_3, ro_62_0, ro_64_0, ro_66_0, ro_68_0, ro_70_0, ro_70_1, ro_70_2, ro_70_3, ro_70_4, ro_70_5, ro_70_6, ro_70_7, ro_70_8, ro_70_9, ro_71_0, ro_73_0, ro_75_0, ro_77_0, ro_79_0, ro_81_0, ro_83_0, ro_85_0, ro_87_0, ro_89_0, ro_91_0, ro_91_1, ro_91_2, ro_91_3, ro_91_4, ro_91_5, ro_91_6, ro_91_7, ro_91_8, ro_91_9, ro_92_0, ro_94_0, ro_96_0, ro_98_0, ro_100_0, ro_102_0, ro_104_0, ro_106_0, ro_108_0, ro_110_0, ro_112_0, ro_112_1, ro_112_2, ro_112_3, ro_112_4, ro_112_5, ro_112_6, ro_112_7, ro_112_8, ro_112_9, ro_113_0, ro_115_0, ro_117_0, ro_119_0, ro_121_0, ro_123_0, ro_125_0, ro_127_0, ro_129_0, ro_131_0, ro_133_0, ro_133_1, ro_133_2, ro_133_3, ro_133_4, ro_133_5, ro_133_6, ro_133_7, ro_133_8, ro_133_9, ro_134_0, ro_136_0, ro_138_0, ro_140_0, ro_142_0, ro_144_0, ro_146_0, ro_148_0, ro_150_0, ro_152_0, ro_154_0, ro_155_0, ro_157_0, ro_157_1, ro_157_2, ro_157_3, ro_157_4, ro_157_5, ro_157_6, ro_157_7, ro_157_8, ro_157_9, ro_158_0, ro_160_0, ro_162_0, ro_164_0, ro_166_0, ro_168_0, ro_170_0, ro_172_0, ro_174_0, ro_176_0, ro_178_0, ro_180_0, ro_182_1, ro_182_4, ro_182_5, ro_182_6, ro_182_9, ro_182_10, ro_182_11, ro_182_13, ro_182_14, ro_182_15, ro_182_16, ro_182_17, ro_182_20, ro_182_21, ro_182_22, ro_182_23, ro_182_24, ro_182_26, ro_182_27, ro_182_28, lo_3, lo_5, lo_7, lo_9, lo_11, lo_13, lo_15, lo_17, lo_19, lo_21, lo_24, lo_26, lo_28, lo_30, lo_32, lo_34, lo_36, lo_38, lo_40, lo_42, lo_44, lo_47, lo_49, lo_51, lo_54, lo_56, lo_58, lo_60, lo_63, lo_65, lo_67, lo_69, lo_72, lo_74, lo_76, lo_78, lo_80, lo_82, lo_84, lo_86, lo_88, lo_90, lo_93, lo_95, lo_97, lo_99, lo_101, lo_103, lo_105, lo_107, lo_109, lo_111, lo_114, lo_116, lo_118, lo_120, lo_122, lo_124, lo_126, lo_128, lo_130, lo_132, lo_135, lo_137, lo_139, lo_141, lo_143, lo_145, lo_147, lo_149, lo_151, lo_153, lo_156, lo_159, lo_161, lo_163, lo_165, lo_167, lo_169, lo_171, lo_173, lo_175, lo_177, lo_179, lo_181, lo_183, lo_184, lo_185, lo_186, lo_187, lo_188, lo_189, lo_190, lo_191, lo_192, lo_193, lo_194, lo_195, lo_196, lo_197, lo_198, lo_199, lo_200, lo_201, lo_202, lo_203, jp_nn, jp_eq, jp_e1, Classical.not_not, ji0, ji1, ji2, cs15_64, kk_64, cs15_133, kk_133, cs15_134, kk_134, cs15_136, kk_136, jl_0, jl_1, jl_2, jl_3, jl_4, jl_5, jl_6, jl_7, jl_8, jl_9, jl_10, jl_11, jl_12, jl_13, jl_14, jl_15, jl_16, jl_17, jl_18, jl_19, jl_20, jl_21, jl_22, jl_23, jl_24, jl_25, jl_26, jl_27, jl_28, jl_29, jl_30, jl_31, jl_32, jl_33, jl_34, jl_35, jl_36, jl_37, jl_38, jl_39, jl_40, jl_95, jl_96, jl_97, jl_98, jl_99, jl_100, jl_101, jl_102, jl_103, jl_104, jl_105, jl_106, jl_107, jl_108, jl_109, jl_110, jl_111, jl_112, jl_113, jl_114, jl_186, jl_1100, jr, ju, jpT, jpF, tnc, Nat.reduceEqDiff, reduceIte, and_false, false_and, not_true_eq_false, not_false_eq_true, or_false, gt_iff_lt, ge_iff_le, Int.lt_irrefl, Int.le_refl, y1]
      refine ⟨_, _, n1_w, n2_w, n3_w, fun h1 f1_w a1_w => ⟨T, i + 1, n4_w h1 f1_w a1_w, fun f h2 e f2_w e6_w => q1_w f h2 (by rw [e]; rfl) (f1_w.rd.fl.tr f2_w.fl) e6_w, fun v j h2 e f2_w e3_w _ t2_w => ?_⟩⟩
      obtain ⟨v1_w, v12⟩ := sNum_ok e
      rw [e3_w]
      have f3_w : FP h2 (j_up h2 29 9 v) := FP.up (by omega)
      have cd3 : CD 29 (v, D.2) (j_up h2 29 9 v) := ((cd.rd f1_w.rd).ro f2_w).sl (by omega) v12
      have rf3 : RFD (v, D.2) (j_up h2 29 9 v) := ((rf.rd f1_w.rd).ro f2_w).sl
      have fl3 : FL h (j_up h2 29 9 v) := (f1_w.rd.fl.tr f2_w.fl).tr f3_w.fl
      have e2_w : ∀ x, sSgn (tS T) (tP T) (tV T) 59 j = x → (eB (eB (sNum (tS T) (tP T) (tV T) 1 12 (i + 1)) fun a => .ok ((a.1, D.2), a.2)) fun r => eB (sSgn (tS T) (tP T) (tV T) 59 r.2) fun j => .ok (r.1, j)) = eB x fun j => .ok ((v, D.2), j) := fun x e' => by
        rw [e]
        show eB (sSgn (tS T) (tP T) (tV T) 59 j) _ = _
        rw [e']
      exact ⟨T, j, f3_w.tca t2_w, fun f h4 e' f4_w e6_w => q1_w f h4 (by rw [e2_w _ e']; rfl) (fl3.tr f4_w.fl) e6_w, fun j2_w h4 e' f4_w t4_w => q2_w _ j2_w h4 (by rw [e2_w _ e']; rfl) (fl3.tr f4_w.fl) (f4_w.2.trans ((up_ne (by omega)).trans (f2_w.2.trans (f1_w 1 6 (by omega))))) (cd3.ro f4_w) (rf3.ro f4_w) t4_w⟩
    · have y1 : 0 < h 29 9 := by omega
      have y2 : ¬ h 29 9 ≤ 0 := by omega
      have ew : sEnd (fun S P V _ => sSlots S P V) T D i = .error (er (tP T) 3 i) := by
        show eB (sSlots (tS T) (tP T) (tV T) D i) _ = _
        unfold sSlots
        rw [if_pos y]
        rfl
      have e3_w := t.fa (c := 3) (by decide) (by decide)
      unfold bb_122
      simp only [qe_1, qe_3, qe_4, qe_5, qe_7, qe_72, qe_10, qe_102, qe_13, qe_14, qe_15, qe_16, qe_17, qe_18, qe_20, qe_22, qe_23, qe_21, qe_24, qe_25, qe_26, qe_27, qe_28, qe_30, qe_31, qe_32, qc_20, qc_22, qc_23, qc_21, qc_24, qc_25, qc_26, qc_27, qc_1, qc_3, qc_4, qc_7, qc_13, qc_28, qc_32, qs_1, qs_2, qs_3, qs_4, qs_5, qs_6, qs_9, qs_10, qs_11, qs_14, qs_15, qs_16, qs_27, qs_17, qs_18, qs_19, qs_20, qs_22, qs_23, qs_28, qs_25, qs_26, qs_7, qs_8, kc_1, kn_1, kc_2, kn_2, kc_3, kn_3, kc_4, kn_4, kc_5, kn_5, kc_6, kn_6, kc_7, kn_7, kc_8, kn_8, kc_9, kn_9, kc_10, kn_10, kc_11, kn_11, kc_12, kn_12, kc_13, kn_13, kc_14, kn_14, kc_15, kn_15, kc_16, kc_17, kc_18, kc_19, kc_20, kc_21, kc_22, kc_23, kc_30, kc_32, kc_40, kc_43, kc_45, kc_48, kc_52, kc_56, kc_57, kc_59, kc_60, kc_61, kc_63, kc_64, kc_72, kc_78, kc_97, kc_99, kc_122, kc_126, kc_128, kc_192, kc_200, kc_255, kc_999, kc_1000, kc_9999, kn_9999, kc_10000, kc_12345, kc_65536, kc_252645135, kc_858993459, kc_1103515245, kc_1431655765, kc_2147483647, kc_0, kc_24, kc_28, kc_37, kc_41, kc_42, kc_73, kc_91, kc_95, kc_96, kc_98, kc_100, kc_112, kc_125, kc_150, kc_162, kc_163, kc_168, kc_186, kc_190, kc_250, kc_355, kc_356, kc_404, kc_405, kc_429, kc_573, kc_1002, kc_1100, kc_1891, kc_2200, kc_4719, kc_4869, kc_4881, kc_5148, kc_19741, kc_25433, kc_320403, kc_628412, kc_629093, kc_660401, kc_679843, kc_918640, kc_979410, kc_1178088, kc_6232410, kc_24644941, kc_36238189, kc_38270444, kc_392531318, kc_425693491, kc_1342154595, kc_2147483648, kc_42328242873, kc_891704255789, kc_1722105685577, kc_1858726030364, ct_0, ct_1, ct_2, ct_3, ct_4, ct_5, cf_0, cf_1, cf_2, cf_3, cf_4, cf_5, w_ty6, w_ty7, m_sv, m_z0, m_hd, m_g0, m_gs, m_s0, m_ss, m_ap, m_an, forall_const, true_and, and_true, ne_eq, not_true_eq_false, not_false_eq_true, false_implies, true_implies, implies_true, eq_self, reduceCtorEq, Nat.reduceDiv, Nat.reduceMod, Int.reduceToNat, or_true, true_or, or_false, false_or, or_self, m_it, m_if, m_c1, m_01, m_02, m_03, m_04, m_10, m_12, m_13, m_14, m_20, m_21, m_23, m_24, m_30, m_31, m_32, m_34, m_40, m_41, m_42, m_43, Int.reduceLE, Int.reduceLT, Int.reduceGE, Int.reduceGT, Int.reduceNeg, Int.reduceAdd, Int.reduceSub, Int.reduceMul, Int.reduceEq, Int.reduceNe, Nat.reduceAdd, jun2, ro_0_0, ro_0_1, ro_0_2, ro_0_3, ro_0_4, ro_0_5, ro_0_6, ro_0_7, ro_0_8, ro_0_9, ro_0_10, ro_0_11, ro_0_12, ro_1_0, ro_1_1, ro_2_0, ro_4_0, ro_6_0, ro_6_1, ro_6_2, ro_6_3, ro_6_4, ro_6_5, ro_6_6, ro_6_7, ro_6_8, ro_8_0, ro_10_0, ro_12_0, ro_14_0, ro_16_0, ro_18_0, ro_20_0, ro_22_0, ro_22_1, ro_22_2, ro_23_0, ro_25_0, ro_27_0, ro_29_0, ro_29_1, ro_29_2, ro_29_3, ro_29_4, ro_29_5, ro_29_6, ro_29_7, ro_29_8, ro_31_0, ro_33_0, ro_35_0, ro_37_0, ro_39_0, ro_41_0, ro_43_0, ro_45_0, ro_45_1, ro_45_2, ro_46_0, ro_48_0, ro_50_0, ro_52_0, ro_52_1, ro_52_2, ro_52_3, ro_53_0, ro_55_0, ro_57_0, ro_59_0, ro_61_0, ro_61_1, ro_61_2, ro_61_3, ro_62_0, ro_64_0, ro_66_0, ro_68_0, ro_70_0, ro_70_1, ro_70_2, ro_70_3, ro_70_4, ro_70_5, ro_70_6, ro_70_7, ro_70_8, ro_70_9, ro_71_0, ro_73_0, ro_75_0, ro_77_0, ro_79_0, ro_81_0, ro_83_0, ro_85_0, ro_87_0, ro_89_0, ro_91_0, ro_91_1, ro_91_2, ro_91_3, ro_91_4, ro_91_5, ro_91_6, ro_91_7, ro_91_8, ro_91_9, ro_92_0, ro_94_0, ro_96_0, ro_98_0, ro_100_0, ro_102_0, ro_104_0, ro_106_0, ro_108_0, ro_110_0, ro_112_0, ro_112_1, ro_112_2, ro_112_3, ro_112_4, ro_112_5, ro_112_6, ro_112_7, ro_112_8, ro_112_9, ro_113_0, ro_115_0, ro_117_0, ro_119_0, ro_121_0, ro_123_0, ro_125_0, ro_127_0, ro_129_0, ro_131_0, ro_133_0, ro_133_1, ro_133_2, ro_133_3, ro_133_4, ro_133_5, ro_133_6, ro_133_7, ro_133_8, ro_133_9, ro_134_0, ro_136_0, ro_138_0, ro_140_0, ro_142_0, ro_144_0, ro_146_0, ro_148_0, ro_150_0, ro_152_0, ro_154_0, ro_155_0, ro_157_0, ro_157_1, ro_157_2, ro_157_3, ro_157_4, ro_157_5, ro_157_6, ro_157_7, ro_157_8, ro_157_9, ro_158_0, ro_160_0, ro_162_0, ro_164_0, ro_166_0, ro_168_0, ro_170_0, ro_172_0, ro_174_0, ro_176_0, ro_178_0, ro_180_0, ro_182_1, ro_182_4, ro_182_5, ro_182_6, ro_182_9, ro_182_10, ro_182_11, ro_182_13, ro_182_14, ro_182_15, ro_182_16, ro_182_17, ro_182_20, ro_182_21, ro_182_22, ro_182_23, ro_182_24, ro_182_26, ro_182_27, ro_182_28, lo_3, lo_5, lo_7, lo_9, lo_11, lo_13, lo_15, lo_17, lo_19, lo_21, lo_24, lo_26, lo_28, lo_30, lo_32, lo_34, lo_36, lo_38, lo_40, lo_42, lo_44, lo_47, lo_49, lo_51, lo_54, lo_56, lo_58, lo_60, lo_63, lo_65, lo_67, lo_69, lo_72, lo_74, lo_76, lo_78, lo_80, lo_82, lo_84, lo_86, lo_88, lo_90, lo_93, lo_95, lo_97, lo_99, lo_101, lo_103, lo_105, lo_107, lo_109, lo_111, lo_114, lo_116, lo_118, lo_120, lo_122, lo_124, lo_126, lo_128, lo_130, lo_132, lo_135, lo_137, lo_139, lo_141, lo_143, lo_145, lo_147, lo_149, lo_151, lo_153, lo_156, lo_159, lo_161, lo_163, lo_165, lo_167, lo_169, lo_171, lo_173, lo_175, lo_177, lo_179, lo_181, lo_183, lo_184, lo_185, lo_186, lo_187, lo_188, lo_189, lo_190, lo_191, lo_192, lo_193, lo_194, lo_195, lo_196, lo_197, lo_198, lo_199, lo_200, lo_201, lo_202, lo_203, jp_nn, jp_eq, jp_e1, Classical.not_not, ji0, ji1, ji2, cs15_64, kk_64, cs15_133, kk_133, cs15_134, kk_134, cs15_136, kk_136, jl_0, jl_1, jl_2, jl_3, jl_4, jl_5, jl_6, jl_7, jl_8, jl_9, jl_10, jl_11, jl_12, jl_13, jl_14, jl_15, jl_16, jl_17, jl_18, jl_19, jl_20, jl_21, jl_22, jl_23, jl_24, jl_25, jl_26, jl_27, jl_28, jl_29, jl_30, jl_31, jl_32, jl_33, jl_34, jl_35, jl_36, jl_37, jl_38, jl_39, jl_40, jl_95, jl_96, jl_97, jl_98, jl_99, jl_100, jl_101, jl_102, jl_103, jl_104, jl_105, jl_106, jl_107, jl_108, jl_109, jl_110, jl_111, jl_112, jl_113, jl_114, jl_186, jl_1100, jr, ju, jpT, jpF, tnc, Nat.reduceEqDiff, reduceIte, and_false, false_and, not_true_eq_false, not_false_eq_true, or_false, gt_iff_lt, ge_iff_le, Int.lt_irrefl, Int.le_refl, y1, y2, e3_w]
      exact q1_w _ _ ew (FL.up (by omega)) up_eq
  · exact hQ.elim
theorem m_125 : BodyOK CS15 CS15 125 := fun av h Q hQ => by
  rw [cs15_125] at hQ
  unfold k125 kCL at hQ
  split at hQ
  · rename_i o p
    obtain ⟨rfl, rfl, T, i, D, t, tg, lt, cd, rf, q1_w, q2_w⟩ := hQ
    have c2 := cd.1.1.2.1
    have l2 := cd.1.1.2.2.2.2.1
    show pS CS15 bb_125 [1, 29] h _
    by_cases y : D.2.2.2.1.length = 4
    · have y1 : h 29 11 = 4 := by omega
      have e5_w := t.fa (c := 5) (by decide) (by decide)
      have ew : sEnd sSup T D i = .error (er (tP T) 5 i) := by
        show eB (sSup (tS T) (tP T) (tV T) wl D i) _ = _
        unfold sSup
        rw [if_pos y]
        rfl
      unfold bb_125
      simp only [qe_1, qe_3, qe_4, qe_5, qe_7, qe_72, qe_10, qe_102, qe_13, qe_14, qe_15, qe_16, qe_17, qe_18, qe_20, qe_22, qe_23, qe_21, qe_24, qe_25, qe_26, qe_27, qe_28, qe_30, qe_31, qe_32, qc_20, qc_22, qc_23, qc_21, qc_24, qc_25, qc_26, qc_27, qc_1, qc_3, qc_4, qc_7, qc_13, qc_28, qc_32, qs_1, qs_2, qs_3, qs_4, qs_5, qs_6, qs_9, qs_10, qs_11, qs_14, qs_15, qs_16, qs_27, qs_17, qs_18, qs_19, qs_20, qs_22, qs_23, qs_28, qs_25, qs_26, qs_7, qs_8, kc_1, kn_1, kc_2, kn_2, kc_3, kn_3, kc_4, kn_4, kc_5, kn_5, kc_6, kn_6, kc_7, kn_7, kc_8, kn_8, kc_9, kn_9, kc_10, kn_10, kc_11, kn_11, kc_12, kn_12, kc_13, kn_13, kc_14, kn_14, kc_15, kn_15, kc_16, kc_17, kc_18, kc_19, kc_20, kc_21, kc_22, kc_23, kc_30, kc_32, kc_40, kc_43, kc_45, kc_48, kc_52, kc_56, kc_57, kc_59, kc_60, kc_61, kc_63, kc_64, kc_72, kc_78, kc_97, kc_99, kc_122, kc_126, kc_128, kc_192, kc_200, kc_255, kc_999, kc_1000, kc_9999, kn_9999, kc_10000, kc_12345, kc_65536, kc_252645135, kc_858993459, kc_1103515245, kc_1431655765, kc_2147483647, kc_0, kc_24, kc_28, kc_37, kc_41, kc_42, kc_73, kc_91, kc_95, kc_96, kc_98, kc_100, kc_112, kc_125, kc_150, kc_162, kc_163, kc_168, kc_186, kc_190, kc_250, kc_355, kc_356, kc_404, kc_405, kc_429, kc_573, kc_1002, kc_1100, kc_1891, kc_2200, kc_4719, kc_4869, kc_4881, kc_5148, kc_19741, kc_25433, kc_320403, kc_628412, kc_629093, kc_660401, kc_679843, kc_918640, kc_979410, kc_1178088, kc_6232410, kc_24644941, kc_36238189, kc_38270444, kc_392531318, kc_425693491, kc_1342154595, kc_2147483648, kc_42328242873, kc_891704255789, kc_1722105685577, kc_1858726030364, ct_0, ct_1, ct_2, ct_3, ct_4, ct_5, cf_0, cf_1, cf_2, cf_3, cf_4, cf_5, w_ty6, w_ty7, m_sv, m_z0, m_hd, m_g0, m_gs, m_s0, m_ss, m_ap, m_an, forall_const, true_and, and_true, ne_eq, not_true_eq_false, not_false_eq_true, false_implies, true_implies, implies_true, eq_self, reduceCtorEq, Nat.reduceDiv, Nat.reduceMod, Int.reduceToNat, or_true, true_or, or_false, false_or, or_self, m_it, m_if, m_c1, m_01, m_02, m_03, m_04, m_10, m_12, m_13, m_14, m_20, m_21, m_23, m_24, m_30, m_31, m_32, m_34, m_40, m_41, m_42, m_43, Int.reduceLE, Int.reduceLT, Int.reduceGE, Int.reduceGT, Int.reduceNeg, Int.reduceAdd, Int.reduceSub, Int.reduceMul, Int.reduceEq, Int.reduceNe, Nat.reduceAdd, jun2, ro_0_0, ro_0_1, ro_0_2, ro_0_3, ro_0_4, ro_0_5, ro_0_6, ro_0_7, ro_0_8, ro_0_9, ro_0_10, ro_0_11, ro_0_12, ro_1_0, ro_1_1, ro_2_0, ro_4_0, ro_6_0, ro_6_1, ro_6_2, ro_6_3, ro_6_4, ro_6_5, ro_6_6, ro_6_7, ro_6_8, ro_8_0, ro_10_0, ro_12_0, ro_14_0, ro_16_0, ro_18_0, ro_20_0, ro_22_0, ro_22_1, ro_22_2, ro_23_0, ro_25_0, ro_27_0, ro_29_0, ro_29_1, ro_29_2, ro_29_3, ro_29_4, ro_29_5, ro_29_6, ro_29_7, ro_29_8, ro_31_0, ro_33_0, ro_35_0, ro_37_0, ro_39_0, ro_41_0, ro_43_0, ro_45_0, ro_45_1, ro_45_2, ro_46_0, ro_48_0, ro_50_0, ro_52_0, ro_52_1, ro_52_2, ro_52_3, ro_53_0, ro_55_0, ro_57_0, ro_59_0, ro_61_0, ro_61_1, ro_61_2, ro_61_3, ro_62_0, ro_64_0, ro_66_0, ro_68_0, ro_70_0, ro_70_1, ro_70_2, ro_70_3, ro_70_4, ro_70_5, ro_70_6, ro_70_7, ro_70_8, ro_70_9, ro_71_0, ro_73_0, ro_75_0, ro_77_0, ro_79_0, ro_81_0, ro_83_0, ro_85_0, ro_87_0, ro_89_0, ro_91_0, ro_91_1, ro_91_2, ro_91_3, ro_91_4, ro_91_5, ro_91_6, ro_91_7, ro_91_8, ro_91_9, ro_92_0, ro_94_0, ro_96_0, ro_98_0, ro_100_0, ro_102_0, ro_104_0, ro_106_0, ro_108_0, ro_110_0, ro_112_0, ro_112_1, ro_112_2, ro_112_3, ro_112_4, ro_112_5, ro_112_6, ro_112_7, ro_112_8, ro_112_9, ro_113_0, ro_115_0, ro_117_0, ro_119_0, ro_121_0, ro_123_0, ro_125_0, ro_127_0, ro_129_0, ro_131_0, ro_133_0, ro_133_1, ro_133_2, ro_133_3, ro_133_4, ro_133_5, ro_133_6, ro_133_7, ro_133_8, ro_133_9, ro_134_0, ro_136_0, ro_138_0, ro_140_0, ro_142_0, ro_144_0, ro_146_0, ro_148_0, ro_150_0, ro_152_0, ro_154_0, ro_155_0, ro_157_0, ro_157_1, ro_157_2, ro_157_3, ro_157_4, ro_157_5, ro_157_6, ro_157_7, ro_157_8, ro_157_9, ro_158_0, ro_160_0, ro_162_0, ro_164_0, ro_166_0, ro_168_0, ro_170_0, ro_172_0, ro_174_0, ro_176_0, ro_178_0, ro_180_0, ro_182_1, ro_182_4, ro_182_5, ro_182_6, ro_182_9, ro_182_10, ro_182_11, ro_182_13, ro_182_14, ro_182_15, ro_182_16, ro_182_17, ro_182_20, ro_182_21, ro_182_22, ro_182_23, ro_182_24, ro_182_26, ro_182_27, ro_182_28, lo_3, lo_5, lo_7, lo_9, lo_11, lo_13, lo_15, lo_17, lo_19, lo_21, lo_24, lo_26, lo_28, lo_30, lo_32, lo_34, lo_36, lo_38, lo_40, lo_42, lo_44, lo_47, lo_49, lo_51, lo_54, lo_56, lo_58, lo_60, lo_63, lo_65, lo_67, lo_69, lo_72, lo_74, lo_76, lo_78, lo_80, lo_82, lo_84, lo_86, lo_88, lo_90, lo_93, lo_95, lo_97, lo_99, lo_101, lo_103, lo_105, lo_107, lo_109, lo_111, lo_114, lo_116, lo_118, lo_120, lo_122, lo_124, lo_126, lo_128, lo_130, lo_132, lo_135, lo_137, lo_139, lo_141, lo_143, lo_145, lo_147, lo_149, lo_151, lo_153, lo_156, lo_159, lo_161, lo_163, lo_165, lo_167, lo_169, lo_171, lo_173, lo_175, lo_177, lo_179, lo_181, lo_183, lo_184, lo_185, lo_186, lo_187, lo_188, lo_189, lo_190, lo_191, lo_192, lo_193, lo_194, lo_195, lo_196, lo_197, lo_198, lo_199, lo_200, lo_201, lo_202, lo_203, jp_nn, jp_eq, jp_e1, Classical.not_not, ji0, ji1, ji2, cs15_64, kk_64, cs15_133, kk_133, cs15_134, kk_134, cs15_140, kk_140, cs15_99, kk_99, jl_0, jl_1, jl_2, jl_3, jl_4, jl_5, jl_6, jl_7, jl_8, jl_9, jl_10, jl_11, jl_12, jl_13, jl_14, jl_15, jl_16, jl_17, jl_18, jl_19, jl_20, jl_21, jl_22, jl_23, jl_24, jl_25, jl_26, jl_27, jl_28, jl_29, jl_30, jl_31, jl_32, jl_33, jl_34, jl_35, jl_36, jl_37, jl_38, jl_39, jl_40, jl_95, jl_96, jl_97, jl_98, jl_99, jl_100, jl_101, jl_102, jl_103, jl_104, jl_105, jl_106, jl_107, jl_108, jl_109, jl_110, jl_111, jl_112, jl_113, jl_114, jl_186, jl_1100, jr, ju, jpT, jpF, tnc, Nat.reduceEqDiff, reduceIte, and_false, false_and, not_true_eq_false, not_false_eq_true, or_false, gt_iff_lt, ge_iff_le, Int.lt_irrefl, Int.le_refl, y1, e5_w]
      exact q1_w _ _ ew (FL.up (by omega)) up_eq
    · have y1 : ¬ 4 ≤ h 29 11 := by omega
      have y2 : h 29 11 < 4 := by omega
      have ew : sEnd sSup T D i = eB (eB (sNew (tS T) (tP T) (tV T) wl D (i + 1)) fun a => .ok ((D.1, D.2.1, D.2.2.1, D.2.2.2.1 ++ [a.1], D.2.2.2.2), a.2)) fun r => eB (sSgn (tS T) (tP T) (tV T) 59 r.2) fun j => .ok (r.1, j) := by
        show eB (sSup (tS T) (tP T) (tV T) wl D i) _ = _
        unfold sSup
        rw [if_neg y]
      rw [ew] at q1_w q2_w
      obtain ⟨n1_w, n2_w, n3_w, n4_w⟩ := t.nx lt rfl rfl
      unfold bb_125
      simp only [qe_1, qe_3, qe_4, qe_5, qe_7, qe_72, qe_10, qe_102, qe_13, qe_14, qe_15, qe_16, qe_17, qe_18, qe_20, qe_22, qe_23, qe_21, qe_24, qe_25, qe_26, qe_27, qe_28, qe_30, qe_31, qe_32, qc_20, qc_22, qc_23, qc_21, qc_24, qc_25, qc_26, qc_27, qc_1, qc_3, qc_4, qc_7, qc_13, qc_28, qc_32, qs_1, qs_2, qs_3, qs_4, qs_5, qs_6, qs_9, qs_10, qs_11, qs_14, qs_15, qs_16, qs_27, qs_17, qs_18, qs_19, qs_20, qs_22, qs_23, qs_28, qs_25, qs_26, qs_7, qs_8, kc_1, kn_1, kc_2, kn_2, kc_3, kn_3, kc_4, kn_4, kc_5, kn_5, kc_6, kn_6, kc_7, kn_7, kc_8, kn_8, kc_9, kn_9, kc_10, kn_10, kc_11, kn_11, kc_12, kn_12, kc_13, kn_13, kc_14, kn_14, kc_15, kn_15, kc_16, kc_17, kc_18, kc_19, kc_20, kc_21, kc_22, kc_23, kc_30, kc_32, kc_40, kc_43, kc_45, kc_48, kc_52, kc_56, kc_57, kc_59, kc_60, kc_61, kc_63, kc_64, kc_72, kc_78, kc_97, kc_99, kc_122, kc_126, kc_128, kc_192, kc_200, kc_255, kc_999, kc_1000, kc_9999, kn_9999, kc_10000, kc_12345, kc_65536, kc_252645135, kc_858993459, kc_1103515245, kc_1431655765, kc_2147483647, kc_0, kc_24, kc_28, kc_37, kc_41, kc_42, kc_73, kc_91, kc_95, kc_96, kc_98, kc_100, kc_112, kc_125, kc_150, kc_162, kc_163, kc_168, kc_186, kc_190, kc_250, kc_355, kc_356, kc_404, kc_405, kc_429, kc_573, kc_1002, kc_1100, kc_1891, kc_2200, kc_4719, kc_4869, kc_4881, kc_5148, kc_19741, kc_25433, kc_320403, kc_628412, kc_629093, kc_660401, kc_679843, kc_918640, kc_979410, kc_1178088, kc_6232410, kc_24644941, kc_36238189, kc_38270444, kc_392531318, kc_425693491, kc_1342154595, kc_2147483648, kc_42328242873, kc_891704255789, kc_1722105685577, kc_1858726030364, ct_0, ct_1, ct_2, ct_3, ct_4, ct_5, cf_0, cf_1, cf_2, cf_3, cf_4, cf_5, w_ty6, w_ty7, m_sv, m_z0, m_hd, m_g0, m_gs, m_s0, m_ss, m_ap, m_an, forall_const, true_and, and_true, ne_eq, not_true_eq_false, not_false_eq_true, false_implies, true_implies, implies_true, eq_self, reduceCtorEq, Nat.reduceDiv, Nat.reduceMod, Int.reduceToNat, or_true, true_or, or_false, false_or, or_self, m_it, m_if, m_c1, m_01, m_02, m_03, m_04, m_10, m_12, m_13, m_14, m_20, m_21, m_23, m_24, m_30, m_31, m_32, m_34, m_40, m_41, m_42, m_43, Int.reduceLE, Int.reduceLT, Int.reduceGE, Int.reduceGT, Int.reduceNeg, Int.reduceAdd, Int.reduceSub, Int.reduceMul, Int.reduceEq, Int.reduceNe, Nat.reduceAdd, jun2, ro_0_0, ro_0_1, ro_0_2, ro_0_3, ro_0_4, ro_0_5, ro_0_6, ro_0_7, ro_0_8, ro_0_9, ro_0_10, ro_0_11, ro_0_12, ro_1_0, ro_1_1, ro_2_0, ro_4_0, ro_6_0, ro_6_1, ro_6_2, ro_6_3, ro_6_4, ro_6_5, ro_6_6, ro_6_7, ro_6_8, ro_8_0, ro_10_0, ro_12_0, ro_14_0, ro_16_0, ro_18_0, ro_20_0, ro_22_0, ro_22_1, ro_22_2, ro_23_0, ro_25_0, ro_27_0, ro_29_0, ro_29_1, ro_29_2, ro_29_3, ro_29_4, ro_29_5, ro_29_6, ro_29_7, ro_29_8, ro_31_0, ro_33_0, ro_35_0, ro_37_0, ro_39_0, ro_41_0, ro_43_0, ro_45_0, ro_45_1, ro_45_2, ro_46_0, ro_48_0, ro_50_0, ro_52_0, ro_52_1, ro_52_2, ro_52_3, ro_53_0, ro_55_0, ro_57_0, ro_59_0, ro_61_0, ro_61_1, ro_61_2, ro_61_3, ro_62_0, ro_64_0, ro_66_0, ro_68_0, ro_70_0, ro_70_1, ro_70_2, ro_70_3, ro_70_4, ro_70_5, ro_70_6, ro_70_7, ro_70_8, ro_70_9, ro_71_0, ro_73_0, ro_75_0, ro_77_0, ro_79_0, ro_81_0, ro_83_0, ro_85_0, ro_87_0, ro_89_0, ro_91_0, ro_91_1, ro_91_2, ro_91_3, ro_91_4, ro_91_5, ro_91_6, ro_91_7, ro_91_8, ro_91_9, ro_92_0, ro_94_0, ro_96_0, ro_98_0, ro_100_0, ro_102_0, ro_104_0, ro_106_0, ro_108_0, ro_110_0, ro_112_0, ro_112_1, ro_112_2, ro_112_3, ro_112_4, ro_112_5, ro_112_6, ro_112_7, ro_112_8, ro_112_9, ro_113_0, ro_115_0, ro_117_0, ro_119_0, ro_121_0, ro_123_0, ro_125_0, ro_127_0, ro_129_0, ro_131_0, ro_133_0, ro_133_1, ro_133_2, ro_133_3, ro_133_4, ro_133_5, ro_133_6, ro_133_7, ro_133_8, ro_133_9, ro_134_0, ro_136_0, ro_138_0, ro_140_0, ro_142_0, ro_144_0, ro_146_0, ro_148_0, ro_150_0, ro_152_0, ro_154_0, ro_155_0, ro_157_0, ro_157_1, ro_157_2, ro_157_3, ro_157_4, ro_157_5, ro_157_6, ro_157_7, ro_157_8, ro_157_9, ro_158_0, ro_160_0, ro_162_0, ro_164_0, ro_166_0, ro_168_0, ro_170_0, ro_172_0, ro_174_0, ro_176_0, ro_178_0, ro_180_0, ro_182_1, ro_182_4, ro_182_5, ro_182_6, ro_182_9, ro_182_10, ro_182_11, ro_182_13, ro_182_14, ro_182_15, ro_182_16, ro_182_17, ro_182_20, ro_182_21, ro_182_22, ro_182_23, ro_182_24, ro_182_26, ro_182_27, ro_182_28, lo_3, lo_5, lo_7, lo_9, lo_11, lo_13, lo_15, lo_17, lo_19, lo_21, lo_24, lo_26, lo_28, lo_30, lo_32, lo_34, lo_36, lo_38, lo_40, lo_42, lo_44, lo_47, lo_49, lo_51, lo_54, lo_56, lo_58, lo_60, lo_63, lo_65, lo_67, lo_69, lo_72, lo_74, lo_76, lo_78, lo_80, lo_82, lo_84, lo_86, lo_88, lo_90, lo_93, lo_95, lo_97, lo_99, lo_101, lo_103, lo_105, lo_107, lo_109, lo_111, lo_114, lo_116, lo_118, lo_120, lo_122, lo_124, lo_126, lo_128, lo_130, lo_132, lo_135, lo_137, lo_139, lo_141, lo_143, lo_145, lo_147, lo_149, lo_151, lo_153, lo_156, lo_159, lo_161, lo_163, lo_165, lo_167, lo_169, lo_171, lo_173, lo_175, lo_177, lo_179, lo_181, lo_183, lo_184, lo_185, lo_186, lo_187, lo_188, lo_189, lo_190, lo_191, lo_192, lo_193, lo_194, lo_195, lo_196, lo_197, lo_198, lo_199, lo_200, lo_201, lo_202, lo_203, jp_nn, jp_eq, jp_e1, Classical.not_not, ji0, ji1, ji2, cs15_64, kk_64, cs15_133, kk_133, cs15_134, kk_134, cs15_140, kk_140, cs15_99, kk_99, jl_0, jl_1, jl_2, jl_3, jl_4, jl_5, jl_6, jl_7, jl_8, jl_9, jl_10, jl_11, jl_12, jl_13, jl_14, jl_15, jl_16, jl_17, jl_18, jl_19, jl_20, jl_21, jl_22, jl_23, jl_24, jl_25, jl_26, jl_27, jl_28, jl_29, jl_30, jl_31, jl_32, jl_33, jl_34, jl_35, jl_36, jl_37, jl_38, jl_39, jl_40, jl_95, jl_96, jl_97, jl_98, jl_99, jl_100, jl_101, jl_102, jl_103, jl_104, jl_105, jl_106, jl_107, jl_108, jl_109, jl_110, jl_111, jl_112, jl_113, jl_114, jl_186, jl_1100, jr, ju, jpT, jpF, tnc, Nat.reduceEqDiff, reduceIte, and_false, false_and, not_true_eq_false, not_false_eq_true, or_false, gt_iff_lt, ge_iff_le, Int.lt_irrefl, Int.le_refl, y1, y2]
      refine ⟨_, _, n1_w, n2_w, n3_w, fun h1 f1_w a1_w => ⟨Or.inr rfl, T, i + 1, D, n4_w h1 f1_w a1_w, (cd.rd f1_w.rd).1, fun f h2 e f2_w e6_w => q1_w f h2 (by rw [e]; rfl) (f1_w.rd.fl.tr f2_w.fl) e6_w, fun v j h2 e f2_w e5_w w t2_w => ⟨D, v, (cd.rd f1_w.rd).ro f2_w, by omega, e5_w, w, sNew_ok e, fun h3 f3_w cd3 => ?_⟩⟩⟩
      have rf3 : RFD (D.1, D.2.1, D.2.2.1, D.2.2.2.1 ++ [v], D.2.2.2.2) h3 := ((rf.rd f1_w.rd).ro f2_w).fp f3_w
      have fl3 : FL h h3 := (f1_w.rd.fl.tr f2_w.fl).tr f3_w.fl
      have e2_w : ∀ x, sSgn (tS T) (tP T) (tV T) 59 j = x → (eB (eB (sNew (tS T) (tP T) (tV T) wl D (i + 1)) fun a => .ok ((D.1, D.2.1, D.2.2.1, D.2.2.2.1 ++ [a.1], D.2.2.2.2), a.2)) fun r => eB (sSgn (tS T) (tP T) (tV T) 59 r.2) fun j => .ok (r.1, j)) = eB x fun j => .ok ((D.1, D.2.1, D.2.2.1, D.2.2.2.1 ++ [v], D.2.2.2.2), j) := fun x e' => by
        rw [e]
        show eB (sSgn (tS T) (tP T) (tV T) 59 j) _ = _
        rw [e']
      exact ⟨T, j, f3_w.tca t2_w, fun f h4 e' f4_w e6_w => q1_w f h4 (by rw [e2_w _ e']; rfl) (fl3.tr f4_w.fl) e6_w, fun j2_w h4 e' f4_w t4_w => q2_w _ j2_w h4 (by rw [e2_w _ e']; rfl) (fl3.tr f4_w.fl) (f4_w.2.trans ((f3_w 1 6 (by omega)).trans (f2_w.2.trans (f1_w 1 6 (by omega))))) (cd3.ro f4_w) (rf3.ro f4_w) t4_w⟩
  · exact hQ.elim
end
section
/-! ===== the class's lines: feeder, class, meter ===== -/
theorem sRow_ok {S P V : Nat → Int} {hi_w : Int} : ∀ (n : Nat) (l l' : List Int) (i j : Nat), sRow S P V hi_w n l i = .ok (l', j) → (∀ v, v ∈ l → 0 ≤ v ∧ v ≤ hi_w) → ∀ v, v ∈ l' → 0 ≤ v ∧ v ≤ hi_w
  | 0, l, l', i, j, e, hl => by cases e; exact hl
  | n + 1, l, l', i, j, e, hl => by
    rw [sRow] at e
    split at e
    · split at e
      · cases e
      · cases e
        exact hl
    · split at e
      · cases e
      · rename_i z
        split at e
        · cases e
        · refine sRow_ok n _ _ _ _ e (fun v hv => ?_)
          rcases List.mem_append.mp hv with y | y
          · exact hl v y
          · have : v = V i := by simpa using y
            subst this
            omega
theorem m_123 : BodyOK CS15 CS15 123 := fun av h Q hQ => by
  rw [cs15_123] at hQ
  unfold k123 kCL at hQ
  split at hQ
  · rename_i o p
    obtain ⟨rfl, rfl, T, i, D, t, tg, lt, cd, rf, q1_w, q2_w⟩ := hQ
    show pS CS15 bb_123 [1, 29, 0] h _
    cases y : D.2.1 with
    | none =>
      have y1 : h 1 7 = 0 := by rw [rf.1, y]; rfl
      have ew : sEnd (fun S P V _ => sFeed S P V) T D i = eB (eB (sRow (tS T) (tP T) (tV T) 9999 14 [] (i + 1)) fun r => .ok ((D.1, some r.1, D.2.2), r.2)) fun r => eB (sSgn (tS T) (tP T) (tV T) 59 r.2) fun j => .ok (r.1, j) := by
        show eB (sFeed (tS T) (tP T) (tV T) D i) _ = _
        unfold sFeed
        rw [if_neg (fun z => z y)]
      rw [ew] at q1_w q2_w
      have f0_w : FL h (j_up h 1 7 1) := FL.up (by omega)
      have t0_w : TCA T i (j_up h 1 7 1) := t.up
      obtain ⟨n1_w, n2_w, n3_w, n4_w⟩ := t0_w.nx lt rfl rfl
      unfold bb_123
      simp only [qe_1, qe_3, qe_4, qe_5, qe_7, qe_72, qe_10, qe_102, qe_13, qe_14, qe_15, qe_16, qe_17, qe_18, qe_20, qe_22, qe_23, qe_21, qe_24, qe_25, qe_26, qe_27, qe_28, qe_30, qe_31, qe_32, qc_20, qc_22, qc_23, qc_21, qc_24, qc_25, qc_26, qc_27, qc_1, qc_3, qc_4, qc_7, qc_13, qc_28, qc_32, qs_1, qs_2, qs_3, qs_4, qs_5, qs_6, qs_9, qs_10, qs_11, qs_14, qs_15, qs_16, qs_27, qs_17, qs_18, qs_19, qs_20, qs_22, qs_23, qs_28, qs_25, qs_26, qs_7, qs_8, kc_1, kn_1, kc_2, kn_2, kc_3, kn_3, kc_4, kn_4, kc_5, kn_5, kc_6, kn_6, kc_7, kn_7, kc_8, kn_8, kc_9, kn_9, kc_10, kn_10, kc_11, kn_11, kc_12, kn_12, kc_13, kn_13, kc_14, kn_14, kc_15, kn_15, kc_16, kc_17, kc_18, kc_19, kc_20, kc_21, kc_22, kc_23, kc_30, kc_32, kc_40, kc_43, kc_45, kc_48, kc_52, kc_56, kc_57, kc_59, kc_60, kc_61, kc_63, kc_64, kc_72, kc_78, kc_97, kc_99, kc_122, kc_126, kc_128, kc_192, kc_200, kc_255, kc_999, kc_1000, kc_9999, kn_9999, kc_10000, kc_12345, kc_65536, kc_252645135, kc_858993459, kc_1103515245, kc_1431655765, kc_2147483647, kc_0, kc_24, kc_28, kc_37, kc_41, kc_42, kc_73, kc_91, kc_95, kc_96, kc_98, kc_100, kc_112, kc_125, kc_150, kc_162, kc_163, kc_168, kc_186, kc_190, kc_250, kc_355, kc_356, kc_404, kc_405, kc_429, kc_573, kc_1002, kc_1100, kc_1891, kc_2200, kc_4719, kc_4869, kc_4881, kc_5148, kc_19741, kc_25433, kc_320403, kc_628412, kc_629093, kc_660401, kc_679843, kc_918640, kc_979410, kc_1178088, kc_6232410, kc_24644941, kc_36238189, kc_38270444, kc_392531318, kc_425693491, kc_1342154595, kc_2147483648, kc_42328242873, kc_891704255789, kc_1722105685577, kc_1858726030364, ct_0, ct_1, ct_2, ct_3, ct_4, ct_5, cf_0, cf_1, cf_2, cf_3, cf_4, cf_5, w_ty6, w_ty7, m_sv, m_z0, m_hd, m_g0, m_gs, m_s0, m_ss, m_ap, m_an, forall_const, true_and, and_true, ne_eq, not_true_eq_false, not_false_eq_true, false_implies, true_implies, implies_true, eq_self, reduceCtorEq, Nat.reduceDiv, Nat.reduceMod, Int.reduceToNat, or_true, true_or, or_false, false_or, or_self, m_it, m_if, m_c1, m_01, m_02, m_03, m_04, m_10, m_12, m_13, m_14, m_20, m_21, m_23, m_24, m_30, m_31, m_32, m_34, m_40, m_41, m_42, m_43, Int.reduceLE, Int.reduceLT, Int.reduceGE, Int.reduceGT, Int.reduceNeg, Int.reduceAdd, Int.reduceSub, Int.reduceMul, Int.reduceEq, Int.reduceNe, Nat.reduceAdd, jun2, ro_0_0, ro_0_1, ro_0_2, ro_0_3, ro_0_4, ro_0_5, ro_0_6, ro_0_7, ro_0_8, ro_0_9, ro_0_10, ro_0_11, ro_0_12, ro_1_0, ro_1_1, ro_2_0, ro_4_0, ro_6_0, ro_6_1, ro_6_2, ro_6_3, ro_6_4, ro_6_5, ro_6_6, ro_6_7, ro_6_8, ro_8_0, ro_10_0, ro_12_0, ro_14_0, ro_16_0, ro_18_0, ro_20_0, ro_22_0, ro_22_1, ro_22_2, ro_23_0, ro_25_0, ro_27_0, ro_29_0, ro_29_1, ro_29_2, ro_29_3, ro_29_4, ro_29_5, ro_29_6, ro_29_7, ro_29_8, ro_31_0, ro_33_0, ro_35_0, ro_37_0, ro_39_0, ro_41_0, ro_43_0, ro_45_0, ro_45_1, ro_45_2, ro_46_0, ro_48_0, ro_50_0, ro_52_0, ro_52_1, ro_52_2, ro_52_3, ro_53_0, ro_55_0, ro_57_0, ro_59_0, ro_61_0, ro_61_1, ro_61_2, ro_61_3, ro_62_0, ro_64_0, ro_66_0, ro_68_0, ro_70_0, ro_70_1, ro_70_2, ro_70_3, ro_70_4, ro_70_5, ro_70_6, ro_70_7, ro_70_8, ro_70_9, ro_71_0, ro_73_0, ro_75_0, ro_77_0, ro_79_0, ro_81_0, ro_83_0, ro_85_0, ro_87_0, ro_89_0, ro_91_0, ro_91_1, ro_91_2, ro_91_3, ro_91_4, ro_91_5, ro_91_6, ro_91_7, ro_91_8, ro_91_9, ro_92_0, ro_94_0, ro_96_0, ro_98_0, ro_100_0, ro_102_0, ro_104_0, ro_106_0, ro_108_0, ro_110_0, ro_112_0, ro_112_1, ro_112_2, ro_112_3, ro_112_4, ro_112_5, ro_112_6, ro_112_7, ro_112_8, ro_112_9, ro_113_0, ro_115_0, ro_117_0, ro_119_0, ro_121_0, ro_123_0, ro_125_0, ro_127_0, ro_129_0, ro_131_0, ro_133_0, ro_133_1, ro_133_2, ro_133_3, ro_133_4, ro_133_5, ro_133_6, ro_133_7, ro_133_8, ro_133_9, ro_134_0, ro_136_0, ro_138_0, ro_140_0, ro_142_0, ro_144_0, ro_146_0, ro_148_0, ro_150_0, ro_152_0, ro_154_0, ro_155_0, ro_157_0, ro_157_1, ro_157_2, ro_157_3, ro_157_4, ro_157_5, ro_157_6, ro_157_7, ro_157_8, ro_157_9, ro_158_0, ro_160_0, ro_162_0, ro_164_0, ro_166_0, ro_168_0, ro_170_0, ro_172_0, ro_174_0, ro_176_0, ro_178_0, ro_180_0, ro_182_1, ro_182_4, ro_182_5, ro_182_6, ro_182_9, ro_182_10, ro_182_11, ro_182_13, ro_182_14, ro_182_15, ro_182_16, ro_182_17, ro_182_20, ro_182_21, ro_182_22, ro_182_23, ro_182_24, ro_182_26, ro_182_27, ro_182_28, lo_3, lo_5, lo_7, lo_9, lo_11, lo_13, lo_15, lo_17, lo_19, lo_21, lo_24, lo_26, lo_28, lo_30, lo_32, lo_34, lo_36, lo_38, lo_40, lo_42, lo_44, lo_47, lo_49, lo_51, lo_54, lo_56, lo_58, lo_60, lo_63, lo_65, lo_67, lo_69, lo_72, lo_74, lo_76, lo_78, lo_80, lo_82, lo_84, lo_86, lo_88, lo_90, lo_93, lo_95, lo_97, lo_99, lo_101, lo_103, lo_105, lo_107, lo_109, lo_111, lo_114, lo_116, lo_118, lo_120, lo_122, lo_124, lo_126, lo_128, lo_130, lo_132, lo_135, lo_137, lo_139, lo_141, lo_143, lo_145, lo_147, lo_149, lo_151, lo_153, lo_156, lo_159, lo_161, lo_163, lo_165, lo_167, lo_169, lo_171, lo_173, lo_175, lo_177, lo_179, lo_181, lo_183, lo_184, lo_185, lo_186, lo_187, lo_188, lo_189, lo_190, lo_191, lo_192, lo_193, lo_194, lo_195, lo_196, lo_197, lo_198, lo_199, lo_200, lo_201, lo_202, lo_203, jp_nn, jp_eq, jp_e1, Classical.not_not, ji0, ji1, ji2, cs15_54, kk_54, cs15_55, kk_55, cs15_64, kk_64, cs15_133, kk_133, cs15_134, kk_134, cs15_137, kk_137, jl_0, jl_1, jl_2, jl_3, jl_4, jl_5, jl_6, jl_7, jl_8, jl_9, jl_10, jl_11, jl_12, jl_13, jl_14, jl_15, jl_16, jl_17, jl_18, jl_19, jl_20, jl_21, jl_22, jl_23, jl_24, jl_25, jl_26, jl_27, jl_28, jl_29, jl_30, jl_31, jl_32, jl_33, jl_34, jl_35, jl_36, jl_37, jl_38, jl_39, jl_40, jl_95, jl_96, jl_97, jl_98, jl_99, jl_100, jl_101, jl_102, jl_103, jl_104, jl_105, jl_106, jl_107, jl_108, jl_109, jl_110, jl_111, jl_112, jl_113, jl_114, jl_186, jl_1100, jr, ju, jpT, jpF, tnc, Nat.reduceEqDiff, reduceIte, and_false, false_and, not_true_eq_false, not_false_eq_true, or_false, gt_iff_lt, ge_iff_le, Int.lt_irrefl, Int.le_refl, y1]
      refine ⟨_, _, n1_w, n2_w, n3_w, fun h1 f1_w a1_w => ⟨T, i + 1, n4_w h1 f1_w a1_w, tg, fun f h2 e f2_w e6_w => q1_w f h2 (by rw [e]; rfl) ((f0_w.tr f1_w.rd.fl).tr f2_w.fl) e6_w, fun l j h2 e f2_w m2_w l12 l1 s2_w _ t2_w => ?_⟩⟩
      have fl2 : FL h h2 := (f0_w.tr f1_w.rd.fl).tr f2_w.fl
      have g1 : ∀ o k : Nat, 29 ≤ o → o ≤ 47 → h2 o k = h o k := fun o k a b => by
        rw [f2_w.1 o k (by omega), f1_w o k (by omega), up_ne (by omega)]
      have cd2 : CD 29 D h2 := cd.fr g1
      have g7 : h2 1 7 = 1 := by rw [f2_w.1 1 7 (by omega), f1_w 1 7 (by omega), up_eq]
      have g8 : h2 1 8 = h 1 8 := by rw [f2_w.1 1 8 (by omega), f1_w 1 8 (by omega), up_ne (by omega)]
      refine qp_lp (fun en h' => ∃ k : Nat, en = [1, 29, (k : Int)] ∧ k ≤ l.length ∧ (∀ o q : Nat, o ≠ 32 → h' o q = h2 o q) ∧ ∀ q : Nat, q < 12 → h' 32 q = if q < k then l.getD q 0 else 0) ⟨0, rfl, Nat.zero_le _, fun _ _ _ => rfl, fun q z => ?_⟩ ?_
      · rw [if_neg (by omega)]
        have := cd2.2.2.1 q z
        rw [y] at this
        exact this
      · intro en h3 ⟨k, e3_w, z1, z2, z3⟩
        subst e3_w
        have m3_w : h3 1 2 = (l.length : Int) := (z2 1 2 (by decide)).trans m2_w
        by_cases yk : (k : Int) < (l.length : Int)
        · have yk2 : ¬ (l.length : Int) ≤ (k : Int) := by omega
          have ek : j32 ((k : Int) + 1) = ((k + 1 : Nat) : Int) := by
            rw [j32_id (by omega) (by omega)]
            omega
          have s3_w : ∀ {h : XH} {v : Int}, rs h 31 (k : Int) v = j_up h 32 k v := fun {h v} => rs_in (o := 31) (c := 32) (n := 12) ro_31_0 lo_32 (by omega)
          obtain ⟨v, hv⟩ : ∃ v, l[k]? = some v := ⟨_, List.getElem?_eq_getElem (by omega)⟩
          have ev_w : rg h3 4 (k : Int) = v := by
            refine (rg_in (o := 4) (c := 5) (n := 12) ro_4_0 lo_5 (by omega)).trans ?_
            rw [z2 5 _ (by decide)]
            exact s2_w k v hv
          simp only [qe_1, qe_3, qe_4, qe_5, qe_7, qe_72, qe_10, qe_102, qe_13, qe_14, qe_15, qe_16, qe_17, qe_18, qe_20, qe_22, qe_23, qe_21, qe_24, qe_25, qe_26, qe_27, qe_28, qe_30, qe_31, qe_32, qc_20, qc_22, qc_23, qc_21, qc_24, qc_25, qc_26, qc_27, qc_1, qc_3, qc_4, qc_7, qc_13, qc_28, qc_32, qs_1, qs_2, qs_3, qs_4, qs_5, qs_6, qs_9, qs_10, qs_11, qs_14, qs_15, qs_16, qs_27, qs_17, qs_18, qs_19, qs_20, qs_22, qs_23, qs_28, qs_25, qs_26, qs_7, qs_8, kc_1, kn_1, kc_2, kn_2, kc_3, kn_3, kc_4, kn_4, kc_5, kn_5, kc_6, kn_6, kc_7, kn_7, kc_8, kn_8, kc_9, kn_9, kc_10, kn_10, kc_11, kn_11, kc_12, kn_12, kc_13, kn_13, kc_14, kn_14, kc_15, kn_15, kc_16, kc_17, kc_18, kc_19, kc_20, kc_21, kc_22, kc_23, kc_30, kc_32, kc_40, kc_43, kc_45, kc_48, kc_52, kc_56, kc_57, kc_59, kc_60, kc_61, kc_63, kc_64, kc_72, kc_78, kc_97, kc_99, kc_122, kc_126, kc_128, kc_192, kc_200, kc_255, kc_999, kc_1000, kc_9999, kn_9999, kc_10000, kc_12345, kc_65536, kc_252645135, kc_858993459, kc_1103515245, kc_1431655765, kc_2147483647, kc_0, kc_24, kc_28, kc_37, kc_41, kc_42, kc_73, kc_91, kc_95, kc_96, kc_98, kc_100, kc_112, kc_125, kc_150, kc_162, kc_163, kc_168, kc_186, kc_190, kc_250, kc_355, kc_356, kc_404, kc_405, kc_429, kc_573, kc_1002, kc_1100, kc_1891, kc_2200, kc_4719, kc_4869, kc_4881, kc_5148, kc_19741, kc_25433, kc_320403, kc_628412, kc_629093, kc_660401, kc_679843, kc_918640, kc_979410, kc_1178088, kc_6232410, kc_24644941, kc_36238189, kc_38270444, kc_392531318, kc_425693491, kc_1342154595, kc_2147483648, kc_42328242873, kc_891704255789, kc_1722105685577, kc_1858726030364, ct_0, ct_1, ct_2, ct_3, ct_4, ct_5, cf_0, cf_1, cf_2, cf_3, cf_4, cf_5, w_ty6, w_ty7, m_sv, m_z0, m_hd, m_g0, m_gs, m_s0, m_ss, m_ap, m_an, forall_const, true_and, and_true, ne_eq, not_true_eq_false, not_false_eq_true, false_implies, true_implies, implies_true, eq_self, reduceCtorEq, Nat.reduceDiv, Nat.reduceMod, Int.reduceToNat, or_true, true_or, or_false, false_or, or_self, m_it, m_if, m_c1, m_01, m_02, m_03, m_04, m_10, m_12, m_13, m_14, m_20, m_21, m_23, m_24, m_30, m_31, m_32, m_34, m_40, m_41, m_42, m_43, Int.reduceLE, Int.reduceLT, Int.reduceGE, Int.reduceGT, Int.reduceNeg, Int.reduceAdd, Int.reduceSub, Int.reduceMul, Int.reduceEq, Int.reduceNe, Nat.reduceAdd, jun2, ro_0_0, ro_0_1, ro_0_2, ro_0_3, ro_0_4, ro_0_5, ro_0_6, ro_0_7, ro_0_8, ro_0_9, ro_0_10, ro_0_11, ro_0_12, ro_1_0, ro_1_1, ro_2_0, ro_4_0, ro_6_0, ro_6_1, ro_6_2, ro_6_3, ro_6_4, ro_6_5, ro_6_6, ro_6_7, ro_6_8, ro_8_0, ro_10_0, ro_12_0, ro_14_0, ro_16_0, ro_18_0, ro_20_0, ro_22_0, ro_22_1, ro_22_2, ro_23_0, ro_25_0, ro_27_0, ro_29_0, ro_29_1, ro_29_2, ro_29_3, ro_29_4, ro_29_5, ro_29_6, ro_29_7, ro_29_8, ro_31_0, ro_33_0, ro_35_0, ro_37_0, ro_39_0, ro_41_0, ro_43_0, ro_45_0, ro_45_1, ro_45_2, ro_46_0, ro_48_0, ro_50_0, ro_52_0, ro_52_1, ro_52_2, ro_52_3, ro_53_0, ro_55_0, ro_57_0, ro_59_0, ro_61_0, ro_61_1, ro_61_2, ro_61_3, ro_62_0, ro_64_0, ro_66_0, ro_68_0, ro_70_0, ro_70_1, ro_70_2, ro_70_3, ro_70_4, ro_70_5, ro_70_6, ro_70_7, ro_70_8, ro_70_9, ro_71_0, ro_73_0, ro_75_0, ro_77_0, ro_79_0, ro_81_0, ro_83_0, ro_85_0, ro_87_0, ro_89_0, ro_91_0, ro_91_1, ro_91_2, ro_91_3, ro_91_4, ro_91_5, ro_91_6, ro_91_7, ro_91_8, ro_91_9, ro_92_0, ro_94_0, ro_96_0, ro_98_0, ro_100_0, ro_102_0, ro_104_0, ro_106_0, ro_108_0, ro_110_0, ro_112_0, ro_112_1, ro_112_2, ro_112_3, ro_112_4, ro_112_5, ro_112_6, ro_112_7, ro_112_8, ro_112_9, ro_113_0, ro_115_0, ro_117_0, ro_119_0, ro_121_0, ro_123_0, ro_125_0, ro_127_0, ro_129_0, ro_131_0, ro_133_0, ro_133_1, ro_133_2, ro_133_3, ro_133_4, ro_133_5, ro_133_6, ro_133_7, ro_133_8, ro_133_9, ro_134_0, ro_136_0, ro_138_0, ro_140_0, ro_142_0, ro_144_0, ro_146_0, ro_148_0, ro_150_0, ro_152_0, ro_154_0, ro_155_0, ro_157_0, ro_157_1, ro_157_2, ro_157_3, ro_157_4, ro_157_5, ro_157_6, ro_157_7, ro_157_8, ro_157_9, ro_158_0, ro_160_0, ro_162_0, ro_164_0, ro_166_0, ro_168_0, ro_170_0, ro_172_0, ro_174_0, ro_176_0, ro_178_0, ro_180_0, ro_182_1, ro_182_4, ro_182_5, ro_182_6, ro_182_9, ro_182_10, ro_182_11, ro_182_13, ro_182_14, ro_182_15, ro_182_16, ro_182_17, ro_182_20, ro_182_21, ro_182_22, ro_182_23, ro_182_24, ro_182_26, ro_182_27, ro_182_28, lo_3, lo_5, lo_7, lo_9, lo_11, lo_13, lo_15, lo_17, lo_19, lo_21, lo_24, lo_26, lo_28, lo_30, lo_32, lo_34, lo_36, lo_38, lo_40, lo_42, lo_44, lo_47, lo_49, lo_51, lo_54, lo_56, lo_58, lo_60, lo_63, lo_65, lo_67, lo_69, lo_72, lo_74, lo_76, lo_78, lo_80, lo_82, lo_84, lo_86, lo_88, lo_90, lo_93, lo_95, lo_97, lo_99, lo_101, lo_103, lo_105, lo_107, lo_109, lo_111, lo_114, lo_116, lo_118, lo_120, lo_122, lo_124, lo_126, lo_128, lo_130, lo_132, lo_135, lo_137, lo_139, lo_141, lo_143, lo_145, lo_147, lo_149, lo_151, lo_153, lo_156, lo_159, lo_161, lo_163, lo_165, lo_167, lo_169, lo_171, lo_173, lo_175, lo_177, lo_179, lo_181, lo_183, lo_184, lo_185, lo_186, lo_187, lo_188, lo_189, lo_190, lo_191, lo_192, lo_193, lo_194, lo_195, lo_196, lo_197, lo_198, lo_199, lo_200, lo_201, lo_202, lo_203, jp_nn, jp_eq, jp_e1, Classical.not_not, ji0, ji1, ji2, cs15_54, kk_54, cs15_55, kk_55, cs15_64, kk_64, cs15_133, kk_133, cs15_134, kk_134, cs15_137, kk_137, jl_0, jl_1, jl_2, jl_3, jl_4, jl_5, jl_6, jl_7, jl_8, jl_9, jl_10, jl_11, jl_12, jl_13, jl_14, jl_15, jl_16, jl_17, jl_18, jl_19, jl_20, jl_21, jl_22, jl_23, jl_24, jl_25, jl_26, jl_27, jl_28, jl_29, jl_30, jl_31, jl_32, jl_33, jl_34, jl_35, jl_36, jl_37, jl_38, jl_39, jl_40, jl_95, jl_96, jl_97, jl_98, jl_99, jl_100, jl_101, jl_102, jl_103, jl_104, jl_105, jl_106, jl_107, jl_108, jl_109, jl_110, jl_111, jl_112, jl_113, jl_114, jl_186, jl_1100, jr, ju, jpT, jpF, tnc, Nat.reduceEqDiff, reduceIte, and_false, false_and, not_true_eq_false, not_false_eq_true, or_false, gt_iff_lt, ge_iff_le, Int.lt_irrefl, Int.le_refl, m3_w, yk, yk2, ek, s3_w, ev_w]
          refine ⟨k + 1, rfl, by omega, fun o q z => ?_, fun q z => ?_⟩
          · rw [if_neg (fun y => z y.1)]
            exact z2 o q z
          · by_cases yq : q = k
            · subst yq
              rw [if_pos rfl, if_pos (by omega), List.getD_eq_getElem?_getD, hv]
              rfl
            · rw [if_neg (by omega), z3 q z]
              by_cases yq2 : q < k
              · rw [if_pos yq2, if_pos (by omega)]
              · rw [if_neg yq2, if_neg (by omega)]
        · have yk2 : (l.length : Int) ≤ (k : Int) := by omega
          have ek : k = l.length := by omega
          subst ek
          have t3_w : TCA T j h3 := TC.ft t2_w (fun o k z => z2 o k (by omega))
          have fl3 : FL h h3 := fl2.tr (fun o k z => z2 o k (by omega))
          have e0 : ∀ o q : Nat, o ≠ 32 → 29 ≤ o → o ≤ 47 → h3 o q = h o q := fun o q a b c => (z2 o q a).trans (g1 o q b c)
          have cd3 : CD 29 (D.1, some l, D.2.2) h3 := by
            obtain ⟨⟨⟨c1_w, c2, c3, l1, l2, l3⟩, r1_w, r2, r3, nd⟩, d1_w, d2_w, d3_w, d4_w, d5⟩ := cd
            refine ⟨⟨⟨(e0 _ _ (by omega) (by omega) (by omega)).trans c1_w, (e0 _ _ (by omega) (by omega) (by omega)).trans c2, (e0 _ _ (by omega) (by omega) (by omega)).trans c3, l1, l2, l3⟩, fun k v z => ⟨(e0 _ _ (by omega) (by omega) (by omega)).trans (r1_w k v z).1, (r1_w k v z).2⟩, fun k v z => ⟨(e0 _ _ (by omega) (by omega) (by omega)).trans (r2 k v z).1, (r2 k v z).2⟩, fun k v z => ⟨(e0 _ _ (by omega) (by omega) (by omega)).trans (r3 k v z).1, (r3 k v z).2⟩, nd⟩, ⟨(e0 _ _ (by omega) (by omega) (by omega)).trans d1_w.1, d1_w.2⟩, fun s z => ?_, d3_w.fr (fun k => e0 _ _ (by omega) (by omega) (by omega)) (fun k => e0 _ _ (by omega) (by omega) (by omega)), d4_w.fr (fun k => e0 _ _ (by omega) (by omega) (by omega)) (fun k => e0 _ _ (by omega) (by omega) (by omega)) (fun k => e0 _ _ (by omega) (by omega) (by omega)) (fun k => e0 _ _ (by omega) (by omega) (by omega)), d5.fr (e0 _ _ (by omega) (by omega) (by omega)) (fun k => e0 _ _ (by omega) (by omega) (by omega))⟩
            show h3 32 s = l.getD s 0
            rw [z3 s z]
            by_cases ys : s < l.length
            · rw [if_pos ys]
            · rw [if_neg ys, List.getD_eq_getElem?_getD, List.getElem?_eq_none (by omega)]
              rfl
          have rf3 : RFD (D.1, some l, D.2.2) h3 := ⟨(z2 1 7 (by decide)).trans g7, ((z2 1 8 (by decide)).trans g8).trans rf.2⟩
          have ee : ∀ x, sSgn (tS T) (tP T) (tV T) 59 j = x → (eB (eB (sRow (tS T) (tP T) (tV T) 9999 14 [] (i + 1)) fun r => .ok ((D.1, some r.1, D.2.2), r.2)) fun r => eB (sSgn (tS T) (tP T) (tV T) 59 r.2) fun j => .ok (r.1, j)) = eB x fun j => .ok ((D.1, some l, D.2.2), j) := fun x e' => by
            rw [e]
            show eB (sSgn (tS T) (tP T) (tV T) 59 j) _ = _
            rw [e']
          simp only [qe_1, qe_3, qe_4, qe_5, qe_7, qe_72, qe_10, qe_102, qe_13, qe_14, qe_15, qe_16, qe_17, qe_18, qe_20, qe_22, qe_23, qe_21, qe_24, qe_25, qe_26, qe_27, qe_28, qe_30, qe_31, qe_32, qc_20, qc_22, qc_23, qc_21, qc_24, qc_25, qc_26, qc_27, qc_1, qc_3, qc_4, qc_7, qc_13, qc_28, qc_32, qs_1, qs_2, qs_3, qs_4, qs_5, qs_6, qs_9, qs_10, qs_11, qs_14, qs_15, qs_16, qs_27, qs_17, qs_18, qs_19, qs_20, qs_22, qs_23, qs_28, qs_25, qs_26, qs_7, qs_8, kc_1, kn_1, kc_2, kn_2, kc_3, kn_3, kc_4, kn_4, kc_5, kn_5, kc_6, kn_6, kc_7, kn_7, kc_8, kn_8, kc_9, kn_9, kc_10, kn_10, kc_11, kn_11, kc_12, kn_12, kc_13, kn_13, kc_14, kn_14, kc_15, kn_15, kc_16, kc_17, kc_18, kc_19, kc_20, kc_21, kc_22, kc_23, kc_30, kc_32, kc_40, kc_43, kc_45, kc_48, kc_52, kc_56, kc_57, kc_59, kc_60, kc_61, kc_63, kc_64, kc_72, kc_78, kc_97, kc_99, kc_122, kc_126, kc_128, kc_192, kc_200, kc_255, kc_999, kc_1000, kc_9999, kn_9999, kc_10000, kc_12345, kc_65536, kc_252645135, kc_858993459, kc_1103515245, kc_1431655765, kc_2147483647, kc_0, kc_24, kc_28, kc_37, kc_41, kc_42, kc_73, kc_91, kc_95, kc_96, kc_98, kc_100, kc_112, kc_125, kc_150, kc_162, kc_163, kc_168, kc_186, kc_190, kc_250, kc_355, kc_356, kc_404, kc_405, kc_429, kc_573, kc_1002, kc_1100, kc_1891, kc_2200, kc_4719, kc_4869, kc_4881, kc_5148, kc_19741, kc_25433, kc_320403, kc_628412, kc_629093, kc_660401, kc_679843, kc_918640, kc_979410, kc_1178088, kc_6232410, kc_24644941, kc_36238189, kc_38270444, kc_392531318, kc_425693491, kc_1342154595, kc_2147483648, kc_42328242873, kc_891704255789, kc_1722105685577, kc_1858726030364, ct_0, ct_1, ct_2, ct_3, ct_4, ct_5, cf_0, cf_1, cf_2, cf_3, cf_4, cf_5, w_ty6, w_ty7, m_sv, m_z0, m_hd, m_g0, m_gs, m_s0, m_ss, m_ap, m_an, forall_const, true_and, and_true, ne_eq, not_true_eq_false, not_false_eq_true, false_implies, true_implies, implies_true, eq_self, reduceCtorEq, Nat.reduceDiv, Nat.reduceMod, Int.reduceToNat, or_true, true_or, or_false, false_or, or_self, m_it, m_if, m_c1, m_01, m_02, m_03, m_04, m_10, m_12, m_13, m_14, m_20, m_21, m_23, m_24, m_30, m_31, m_32, m_34, m_40, m_41, m_42, m_43, Int.reduceLE, Int.reduceLT, Int.reduceGE, Int.reduceGT, Int.reduceNeg, Int.reduceAdd, Int.reduceSub, Int.reduceMul, Int.reduceEq, Int.reduceNe, Nat.reduceAdd, jun2, ro_0_0, ro_0_1, ro_0_2, ro_0_3, ro_0_4, ro_0_5, ro_0_6, ro_0_7, ro_0_8, ro_0_9, ro_0_10, ro_0_11, ro_0_12, ro_1_0, ro_1_1, ro_2_0, ro_4_0, ro_6_0, ro_6_1, ro_6_2, ro_6_3, ro_6_4, ro_6_5, ro_6_6, ro_6_7, ro_6_8, ro_8_0, ro_10_0, ro_12_0, ro_14_0, ro_16_0, ro_18_0, ro_20_0, ro_22_0, ro_22_1, ro_22_2, ro_23_0, ro_25_0, ro_27_0, ro_29_0, ro_29_1, ro_29_2, ro_29_3, ro_29_4, ro_29_5, ro_29_6, ro_29_7, ro_29_8, ro_31_0, ro_33_0, ro_35_0, ro_37_0, ro_39_0, ro_41_0, ro_43_0, ro_45_0, ro_45_1, ro_45_2, ro_46_0, ro_48_0, ro_50_0, ro_52_0, ro_52_1, ro_52_2, ro_52_3, ro_53_0, ro_55_0, ro_57_0, ro_59_0, ro_61_0, ro_61_1, ro_61_2, ro_61_3, ro_62_0, ro_64_0, ro_66_0, ro_68_0, ro_70_0, ro_70_1, ro_70_2, ro_70_3, ro_70_4, ro_70_5, ro_70_6, ro_70_7, ro_70_8, ro_70_9, ro_71_0, ro_73_0, ro_75_0, ro_77_0, ro_79_0, ro_81_0, ro_83_0, ro_85_0, ro_87_0, ro_89_0, ro_91_0, ro_91_1, ro_91_2, ro_91_3, ro_91_4, ro_91_5, ro_91_6, ro_91_7, ro_91_8, ro_91_9, ro_92_0, ro_94_0, ro_96_0, ro_98_0, ro_100_0, ro_102_0, ro_104_0, ro_106_0, ro_108_0, ro_110_0, ro_112_0, ro_112_1, ro_112_2, ro_112_3, ro_112_4, ro_112_5, ro_112_6, ro_112_7, ro_112_8, ro_112_9, ro_113_0, ro_115_0, ro_117_0, ro_119_0, ro_121_0, ro_123_0, ro_125_0, ro_127_0, ro_129_0, ro_131_0, ro_133_0, ro_133_1, ro_133_2, ro_133_3, ro_133_4, ro_133_5, ro_133_6, ro_133_7, ro_133_8, ro_133_9, ro_134_0, ro_136_0, ro_138_0, ro_140_0, ro_142_0, ro_144_0, ro_146_0, ro_148_0, ro_150_0, ro_152_0, ro_154_0, ro_155_0, ro_157_0, ro_157_1, ro_157_2, ro_157_3, ro_157_4, ro_157_5, ro_157_6, ro_157_7, ro_157_8, ro_157_9, ro_158_0, ro_160_0, ro_162_0, ro_164_0, ro_166_0, ro_168_0, ro_170_0, ro_172_0, ro_174_0, ro_176_0, ro_178_0, ro_180_0, ro_182_1, ro_182_4, ro_182_5, ro_182_6, ro_182_9, ro_182_10, ro_182_11, ro_182_13, ro_182_14, ro_182_15, ro_182_16, ro_182_17, ro_182_20, ro_182_21, ro_182_22, ro_182_23, ro_182_24, ro_182_26, ro_182_27, ro_182_28, lo_3, lo_5, lo_7, lo_9, lo_11, lo_13, lo_15, lo_17, lo_19, lo_21, lo_24, lo_26, lo_28, lo_30, lo_32, lo_34, lo_36, lo_38, lo_40, lo_42, lo_44, lo_47, lo_49, lo_51, lo_54, lo_56, lo_58, lo_60, lo_63, lo_65, lo_67, lo_69, lo_72, lo_74, lo_76, lo_78, lo_80, lo_82, lo_84, lo_86, lo_88, lo_90, lo_93, lo_95, lo_97, lo_99, lo_101, lo_103, lo_105, lo_107, lo_109, lo_111, lo_114, lo_116, lo_118, lo_120, lo_122, lo_124, lo_126, lo_128, lo_130, lo_132, lo_135, lo_137, lo_139, lo_141, lo_143, lo_145, lo_147, lo_149, lo_151, lo_153, lo_156, lo_159, lo_161, lo_163, lo_165, lo_167, lo_169, lo_171, lo_173, lo_175, lo_177, lo_179, lo_181, lo_183, lo_184, lo_185, lo_186, lo_187, lo_188, lo_189, lo_190, lo_191, lo_192, lo_193, lo_194, lo_195, lo_196, lo_197, lo_198, lo_199, lo_200, lo_201, lo_202, lo_203, jp_nn, jp_eq, jp_e1, Classical.not_not, ji0, ji1, ji2, cs15_54, kk_54, cs15_55, kk_55, cs15_64, kk_64, cs15_133, kk_133, cs15_134, kk_134, cs15_137, kk_137, jl_0, jl_1, jl_2, jl_3, jl_4, jl_5, jl_6, jl_7, jl_8, jl_9, jl_10, jl_11, jl_12, jl_13, jl_14, jl_15, jl_16, jl_17, jl_18, jl_19, jl_20, jl_21, jl_22, jl_23, jl_24, jl_25, jl_26, jl_27, jl_28, jl_29, jl_30, jl_31, jl_32, jl_33, jl_34, jl_35, jl_36, jl_37, jl_38, jl_39, jl_40, jl_95, jl_96, jl_97, jl_98, jl_99, jl_100, jl_101, jl_102, jl_103, jl_104, jl_105, jl_106, jl_107, jl_108, jl_109, jl_110, jl_111, jl_112, jl_113, jl_114, jl_186, jl_1100, jr, ju, jpT, jpF, tnc, Nat.reduceEqDiff, reduceIte, and_false, false_and, not_true_eq_false, not_false_eq_true, or_false, gt_iff_lt, ge_iff_le, Int.lt_irrefl, Int.le_refl, m3_w, yk, yk2]
          exact ⟨T, j, t3_w, fun f h4 e' f4_w e6_w => q1_w f h4 (by rw [ee _ e']; rfl) (fl3.tr f4_w.fl) e6_w, fun j2_w h4 e' f4_w t4_w => q2_w _ j2_w h4 (by rw [ee _ e']; rfl) (fl3.tr f4_w.fl) (f4_w.2.trans ((z2 1 6 (by decide)).trans (f2_w.2.trans ((f1_w 1 6 (by omega)).trans (up_ne (by omega)))))) (cd3.ro f4_w) (rf3.ro f4_w) t4_w⟩
    | some x =>
      have y1 : h 1 7 = 1 := by rw [rf.1, y]; rfl
      have ew : sEnd (fun S P V _ => sFeed S P V) T D i = .error (er (tP T) 3 i) := by
        show eB (sFeed (tS T) (tP T) (tV T) D i) _ = _
        unfold sFeed
        rw [if_pos (by rw [y]; exact fun z => by cases z)]
        rfl
      have e3_w := t.fa (c := 3) (by decide) (by decide)
      unfold bb_123
      simp only [qe_1, qe_3, qe_4, qe_5, qe_7, qe_72, qe_10, qe_102, qe_13, qe_14, qe_15, qe_16, qe_17, qe_18, qe_20, qe_22, qe_23, qe_21, qe_24, qe_25, qe_26, qe_27, qe_28, qe_30, qe_31, qe_32, qc_20, qc_22, qc_23, qc_21, qc_24, qc_25, qc_26, qc_27, qc_1, qc_3, qc_4, qc_7, qc_13, qc_28, qc_32, qs_1, qs_2, qs_3, qs_4, qs_5, qs_6, qs_9, qs_10, qs_11, qs_14, qs_15, qs_16, qs_27, qs_17, qs_18, qs_19, qs_20, qs_22, qs_23, qs_28, qs_25, qs_26, qs_7, qs_8, kc_1, kn_1, kc_2, kn_2, kc_3, kn_3, kc_4, kn_4, kc_5, kn_5, kc_6, kn_6, kc_7, kn_7, kc_8, kn_8, kc_9, kn_9, kc_10, kn_10, kc_11, kn_11, kc_12, kn_12, kc_13, kn_13, kc_14, kn_14, kc_15, kn_15, kc_16, kc_17, kc_18, kc_19, kc_20, kc_21, kc_22, kc_23, kc_30, kc_32, kc_40, kc_43, kc_45, kc_48, kc_52, kc_56, kc_57, kc_59, kc_60, kc_61, kc_63, kc_64, kc_72, kc_78, kc_97, kc_99, kc_122, kc_126, kc_128, kc_192, kc_200, kc_255, kc_999, kc_1000, kc_9999, kn_9999, kc_10000, kc_12345, kc_65536, kc_252645135, kc_858993459, kc_1103515245, kc_1431655765, kc_2147483647, kc_0, kc_24, kc_28, kc_37, kc_41, kc_42, kc_73, kc_91, kc_95, kc_96, kc_98, kc_100, kc_112, kc_125, kc_150, kc_162, kc_163, kc_168, kc_186, kc_190, kc_250, kc_355, kc_356, kc_404, kc_405, kc_429, kc_573, kc_1002, kc_1100, kc_1891, kc_2200, kc_4719, kc_4869, kc_4881, kc_5148, kc_19741, kc_25433, kc_320403, kc_628412, kc_629093, kc_660401, kc_679843, kc_918640, kc_979410, kc_1178088, kc_6232410, kc_24644941, kc_36238189, kc_38270444, kc_392531318, kc_425693491, kc_1342154595, kc_2147483648, kc_42328242873, kc_891704255789, kc_1722105685577, kc_1858726030364, ct_0, ct_1, ct_2, ct_3, ct_4, ct_5, cf_0, cf_1, cf_2, cf_3, cf_4, cf_5, w_ty6, w_ty7, m_sv, m_z0, m_hd, m_g0, m_gs, m_s0, m_ss, m_ap, m_an, forall_const, true_and, and_true, ne_eq, not_true_eq_false, not_false_eq_true, false_implies, true_implies, implies_true, eq_self, reduceCtorEq, Nat.reduceDiv, Nat.reduceMod, Int.reduceToNat, or_true, true_or, or_false, false_or, or_self, m_it, m_if, m_c1, m_01, m_02, m_03, m_04, m_10, m_12, m_13, m_14, m_20, m_21, m_23, m_24, m_30, m_31, m_32, m_34, m_40, m_41, m_42, m_43, Int.reduceLE, Int.reduceLT, Int.reduceGE, Int.reduceGT, Int.reduceNeg, Int.reduceAdd, Int.reduceSub, Int.reduceMul, Int.reduceEq, Int.reduceNe, Nat.reduceAdd, jun2, ro_0_0, ro_0_1, ro_0_2, ro_0_3, ro_0_4, ro_0_5, ro_0_6, ro_0_7, ro_0_8, ro_0_9, ro_0_10, ro_0_11, ro_0_12, ro_1_0, ro_1_1, ro_2_0, ro_4_0, ro_6_0, ro_6_1, ro_6_2, ro_6_3, ro_6_4, ro_6_5, ro_6_6, ro_6_7, ro_6_8, ro_8_0, ro_10_0, ro_12_0, ro_14_0, ro_16_0, ro_18_0, ro_20_0, ro_22_0, ro_22_1, ro_22_2, ro_23_0, ro_25_0, ro_27_0, ro_29_0, ro_29_1, ro_29_2, ro_29_3, ro_29_4, ro_29_5, ro_29_6, ro_29_7, ro_29_8, ro_31_0, ro_33_0, ro_35_0, ro_37_0, ro_39_0, ro_41_0, ro_43_0, ro_45_0, ro_45_1, ro_45_2, ro_46_0, ro_48_0, ro_50_0, ro_52_0, ro_52_1, ro_52_2, ro_52_3, ro_53_0, ro_55_0, ro_57_0, ro_59_0, ro_61_0, ro_61_1, ro_61_2, ro_61_3, ro_62_0, ro_64_0, ro_66_0, ro_68_0, ro_70_0, ro_70_1, ro_70_2, ro_70_3, ro_70_4, ro_70_5, ro_70_6, ro_70_7, ro_70_8, ro_70_9, ro_71_0, ro_73_0, ro_75_0, ro_77_0, ro_79_0, ro_81_0, ro_83_0, ro_85_0, ro_87_0, ro_89_0, ro_91_0, ro_91_1, ro_91_2, ro_91_3, ro_91_4, ro_91_5, ro_91_6, ro_91_7, ro_91_8, ro_91_9, ro_92_0, ro_94_0, ro_96_0, ro_98_0, ro_100_0, ro_102_0, ro_104_0, ro_106_0, ro_108_0, ro_110_0, ro_112_0, ro_112_1, ro_112_2, ro_112_3, ro_112_4, ro_112_5, ro_112_6, ro_112_7, ro_112_8, ro_112_9, ro_113_0, ro_115_0, ro_117_0, ro_119_0, ro_121_0, ro_123_0, ro_125_0, ro_127_0, ro_129_0, ro_131_0, ro_133_0, ro_133_1, ro_133_2, ro_133_3, ro_133_4, ro_133_5, ro_133_6, ro_133_7, ro_133_8, ro_133_9, ro_134_0, ro_136_0, ro_138_0, ro_140_0, ro_142_0, ro_144_0, ro_146_0, ro_148_0, ro_150_0, ro_152_0, ro_154_0, ro_155_0, ro_157_0, ro_157_1, ro_157_2, ro_157_3, ro_157_4, ro_157_5, ro_157_6, ro_157_7, ro_157_8, ro_157_9, ro_158_0, ro_160_0, ro_162_0, ro_164_0, ro_166_0, ro_168_0, ro_170_0, ro_172_0, ro_174_0, ro_176_0, ro_178_0, ro_180_0, ro_182_1, ro_182_4, ro_182_5, ro_182_6, ro_182_9, ro_182_10, ro_182_11, ro_182_13, ro_182_14, ro_182_15, ro_182_16, ro_182_17, ro_182_20, ro_182_21, ro_182_22, ro_182_23, ro_182_24, ro_182_26, ro_182_27, ro_182_28, lo_3, lo_5, lo_7, lo_9, lo_11, lo_13, lo_15, lo_17, lo_19, lo_21, lo_24, lo_26, lo_28, lo_30, lo_32, lo_34, lo_36, lo_38, lo_40, lo_42, lo_44, lo_47, lo_49, lo_51, lo_54, lo_56, lo_58, lo_60, lo_63, lo_65, lo_67, lo_69, lo_72, lo_74, lo_76, lo_78, lo_80, lo_82, lo_84, lo_86, lo_88, lo_90, lo_93, lo_95, lo_97, lo_99, lo_101, lo_103, lo_105, lo_107, lo_109, lo_111, lo_114, lo_116, lo_118, lo_120, lo_122, lo_124, lo_126, lo_128, lo_130, lo_132, lo_135, lo_137, lo_139, lo_141, lo_143, lo_145, lo_147, lo_149, lo_151, lo_153, lo_156, lo_159, lo_161, lo_163, lo_165, lo_167, lo_169, lo_171, lo_173, lo_175, lo_177, lo_179, lo_181, lo_183, lo_184, lo_185, lo_186, lo_187, lo_188, lo_189, lo_190, lo_191, lo_192, lo_193, lo_194, lo_195, lo_196, lo_197, lo_198, lo_199, lo_200, lo_201, lo_202, lo_203, jp_nn, jp_eq, jp_e1, Classical.not_not, ji0, ji1, ji2, cs15_54, kk_54, cs15_55, kk_55, cs15_64, kk_64, cs15_133, kk_133, cs15_134, kk_134, cs15_137, kk_137, jl_0, jl_1, jl_2, jl_3, jl_4, jl_5, jl_6, jl_7, jl_8, jl_9, jl_10, jl_11, jl_12, jl_13, jl_14, jl_15, jl_16, jl_17, jl_18, jl_19, jl_20, jl_21, jl_22, jl_23, jl_24, jl_25, jl_26, jl_27, jl_28, jl_29, jl_30, jl_31, jl_32, jl_33, jl_34, jl_35, jl_36, jl_37, jl_38, jl_39, jl_40, jl_95, jl_96, jl_97, jl_98, jl_99, jl_100, jl_101, jl_102, jl_103, jl_104, jl_105, jl_106, jl_107, jl_108, jl_109, jl_110, jl_111, jl_112, jl_113, jl_114, jl_186, jl_1100, jr, ju, jpT, jpF, tnc, Nat.reduceEqDiff, reduceIte, and_false, false_and, not_true_eq_false, not_false_eq_true, or_false, gt_iff_lt, ge_iff_le, Int.lt_irrefl, Int.le_refl, y1, e3_w]
      exact q1_w _ _ ew (FL.up (by omega)) up_eq
  · exact hQ.elim
theorem m_124 : BodyOK CS15 CS15 124 := fun av h Q hQ => by
  rw [cs15_124] at hQ
  unfold k124 kCL at hQ
  split at hQ
  · rename_i o p
    obtain ⟨rfl, rfl, T, i, D, t, tg, lt, cd, rf, q1_w, q2_w⟩ := hQ
    have c1_w := cd.1.1.1
    have l1 := cd.1.1.2.2.2.1
    show pS CS15 bb_124 [1, 29, 0, 0, 0] h _
    by_cases y : D.2.2.1.length = 4
    · have y1 : h 29 10 = 4 := by omega
      have e5_w := t.fa (c := 5) (by decide) (by decide)
      have ew : sEnd sClass T D i = .error (er (tP T) 5 i) := by
        show eB (sClass (tS T) (tP T) (tV T) wl D i) _ = _
        unfold sClass
        rw [if_pos y]
        rfl
      unfold bb_124
      simp only [qe_1, qe_3, qe_4, qe_5, qe_7, qe_72, qe_10, qe_102, qe_13, qe_14, qe_15, qe_16, qe_17, qe_18, qe_20, qe_22, qe_23, qe_21, qe_24, qe_25, qe_26, qe_27, qe_28, qe_30, qe_31, qe_32, qc_20, qc_22, qc_23, qc_21, qc_24, qc_25, qc_26, qc_27, qc_1, qc_3, qc_4, qc_7, qc_13, qc_28, qc_32, qs_1, qs_2, qs_3, qs_4, qs_5, qs_6, qs_9, qs_10, qs_11, qs_14, qs_15, qs_16, qs_27, qs_17, qs_18, qs_19, qs_20, qs_22, qs_23, qs_28, qs_25, qs_26, qs_7, qs_8, kc_1, kn_1, kc_2, kn_2, kc_3, kn_3, kc_4, kn_4, kc_5, kn_5, kc_6, kn_6, kc_7, kn_7, kc_8, kn_8, kc_9, kn_9, kc_10, kn_10, kc_11, kn_11, kc_12, kn_12, kc_13, kn_13, kc_14, kn_14, kc_15, kn_15, kc_16, kc_17, kc_18, kc_19, kc_20, kc_21, kc_22, kc_23, kc_30, kc_32, kc_40, kc_43, kc_45, kc_48, kc_52, kc_56, kc_57, kc_59, kc_60, kc_61, kc_63, kc_64, kc_72, kc_78, kc_97, kc_99, kc_122, kc_126, kc_128, kc_192, kc_200, kc_255, kc_999, kc_1000, kc_9999, kn_9999, kc_10000, kc_12345, kc_65536, kc_252645135, kc_858993459, kc_1103515245, kc_1431655765, kc_2147483647, kc_0, kc_24, kc_28, kc_37, kc_41, kc_42, kc_73, kc_91, kc_95, kc_96, kc_98, kc_100, kc_112, kc_125, kc_150, kc_162, kc_163, kc_168, kc_186, kc_190, kc_250, kc_355, kc_356, kc_404, kc_405, kc_429, kc_573, kc_1002, kc_1100, kc_1891, kc_2200, kc_4719, kc_4869, kc_4881, kc_5148, kc_19741, kc_25433, kc_320403, kc_628412, kc_629093, kc_660401, kc_679843, kc_918640, kc_979410, kc_1178088, kc_6232410, kc_24644941, kc_36238189, kc_38270444, kc_392531318, kc_425693491, kc_1342154595, kc_2147483648, kc_42328242873, kc_891704255789, kc_1722105685577, kc_1858726030364, ct_0, ct_1, ct_2, ct_3, ct_4, ct_5, cf_0, cf_1, cf_2, cf_3, cf_4, cf_5, w_ty6, w_ty7, m_sv, m_z0, m_hd, m_g0, m_gs, m_s0, m_ss, m_ap, m_an, forall_const, true_and, and_true, ne_eq, not_true_eq_false, not_false_eq_true, false_implies, true_implies, implies_true, eq_self, reduceCtorEq, Nat.reduceDiv, Nat.reduceMod, Int.reduceToNat, or_true, true_or, or_false, false_or, or_self, m_it, m_if, m_c1, m_01, m_02, m_03, m_04, m_10, m_12, m_13, m_14, m_20, m_21, m_23, m_24, m_30, m_31, m_32, m_34, m_40, m_41, m_42, m_43, Int.reduceLE, Int.reduceLT, Int.reduceGE, Int.reduceGT, Int.reduceNeg, Int.reduceAdd, Int.reduceSub, Int.reduceMul, Int.reduceEq, Int.reduceNe, Nat.reduceAdd, jun2, ro_0_0, ro_0_1, ro_0_2, ro_0_3, ro_0_4, ro_0_5, ro_0_6, ro_0_7, ro_0_8, ro_0_9, ro_0_10, ro_0_11, ro_0_12, ro_1_0, ro_1_1, ro_2_0, ro_4_0, ro_6_0, ro_6_1, ro_6_2, ro_6_3, ro_6_4, ro_6_5, ro_6_6, ro_6_7, ro_6_8, ro_8_0, ro_10_0, ro_12_0, ro_14_0, ro_16_0, ro_18_0, ro_20_0, ro_22_0, ro_22_1, ro_22_2, ro_23_0, ro_25_0, ro_27_0, ro_29_0, ro_29_1, ro_29_2, ro_29_3, ro_29_4, ro_29_5, ro_29_6, ro_29_7, ro_29_8, ro_31_0, ro_33_0, ro_35_0, ro_37_0, ro_39_0, ro_41_0, ro_43_0, ro_45_0, ro_45_1, ro_45_2, ro_46_0, ro_48_0, ro_50_0, ro_52_0, ro_52_1, ro_52_2, ro_52_3, ro_53_0, ro_55_0, ro_57_0, ro_59_0, ro_61_0, ro_61_1, ro_61_2, ro_61_3, ro_62_0, ro_64_0, ro_66_0, ro_68_0, ro_70_0, ro_70_1, ro_70_2, ro_70_3, ro_70_4, ro_70_5, ro_70_6, ro_70_7, ro_70_8, ro_70_9, ro_71_0, ro_73_0, ro_75_0, ro_77_0, ro_79_0, ro_81_0, ro_83_0, ro_85_0, ro_87_0, ro_89_0, ro_91_0, ro_91_1, ro_91_2, ro_91_3, ro_91_4, ro_91_5, ro_91_6, ro_91_7, ro_91_8, ro_91_9, ro_92_0, ro_94_0, ro_96_0, ro_98_0, ro_100_0, ro_102_0, ro_104_0, ro_106_0, ro_108_0, ro_110_0, ro_112_0, ro_112_1, ro_112_2, ro_112_3, ro_112_4, ro_112_5, ro_112_6, ro_112_7, ro_112_8, ro_112_9, ro_113_0, ro_115_0, ro_117_0, ro_119_0, ro_121_0, ro_123_0, ro_125_0, ro_127_0, ro_129_0, ro_131_0, ro_133_0, ro_133_1, ro_133_2, ro_133_3, ro_133_4, ro_133_5, ro_133_6, ro_133_7, ro_133_8, ro_133_9, ro_134_0, ro_136_0, ro_138_0, ro_140_0, ro_142_0, ro_144_0, ro_146_0, ro_148_0, ro_150_0, ro_152_0, ro_154_0, ro_155_0, ro_157_0, ro_157_1, ro_157_2, ro_157_3, ro_157_4, ro_157_5, ro_157_6, ro_157_7, ro_157_8, ro_157_9, ro_158_0, ro_160_0, ro_162_0, ro_164_0, ro_166_0, ro_168_0, ro_170_0, ro_172_0, ro_174_0, ro_176_0, ro_178_0, ro_180_0, ro_182_1, ro_182_4, ro_182_5, ro_182_6, ro_182_9, ro_182_10, ro_182_11, ro_182_13, ro_182_14, ro_182_15, ro_182_16, ro_182_17, ro_182_20, ro_182_21, ro_182_22, ro_182_23, ro_182_24, ro_182_26, ro_182_27, ro_182_28, lo_3, lo_5, lo_7, lo_9, lo_11, lo_13, lo_15, lo_17, lo_19, lo_21, lo_24, lo_26, lo_28, lo_30, lo_32, lo_34, lo_36, lo_38, lo_40, lo_42, lo_44, lo_47, lo_49, lo_51, lo_54, lo_56, lo_58, lo_60, lo_63, lo_65, lo_67, lo_69, lo_72, lo_74, lo_76, lo_78, lo_80, lo_82, lo_84, lo_86, lo_88, lo_90, lo_93, lo_95, lo_97, lo_99, lo_101, lo_103, lo_105, lo_107, lo_109, lo_111, lo_114, lo_116, lo_118, lo_120, lo_122, lo_124, lo_126, lo_128, lo_130, lo_132, lo_135, lo_137, lo_139, lo_141, lo_143, lo_145, lo_147, lo_149, lo_151, lo_153, lo_156, lo_159, lo_161, lo_163, lo_165, lo_167, lo_169, lo_171, lo_173, lo_175, lo_177, lo_179, lo_181, lo_183, lo_184, lo_185, lo_186, lo_187, lo_188, lo_189, lo_190, lo_191, lo_192, lo_193, lo_194, lo_195, lo_196, lo_197, lo_198, lo_199, lo_200, lo_201, lo_202, lo_203, jp_nn, jp_eq, jp_e1, Classical.not_not, ji0, ji1, ji2, cs15_64, kk_64, cs15_133, kk_133, cs15_134, kk_134, cs15_135, kk_135, cs15_136, kk_136, cs15_140, kk_140, cs15_137, kk_137, cs15_98, kk_98, jl_0, jl_1, jl_2, jl_3, jl_4, jl_5, jl_6, jl_7, jl_8, jl_9, jl_10, jl_11, jl_12, jl_13, jl_14, jl_15, jl_16, jl_17, jl_18, jl_19, jl_20, jl_21, jl_22, jl_23, jl_24, jl_25, jl_26, jl_27, jl_28, jl_29, jl_30, jl_31, jl_32, jl_33, jl_34, jl_35, jl_36, jl_37, jl_38, jl_39, jl_40, jl_95, jl_96, jl_97, jl_98, jl_99, jl_100, jl_101, jl_102, jl_103, jl_104, jl_105, jl_106, jl_107, jl_108, jl_109, jl_110, jl_111, jl_112, jl_113, jl_114, jl_186, jl_1100, jr, ju, jpT, jpF, tnc, Nat.reduceEqDiff, reduceIte, and_false, false_and, not_true_eq_false, not_false_eq_true, or_false, gt_iff_lt, ge_iff_le, Int.lt_irrefl, Int.le_refl, y1, e5_w]
      exact q1_w _ _ ew (FL.up (by omega)) up_eq
    · have y1 : ¬ 4 ≤ h 29 10 := by omega
      have y2 : h 29 10 < 4 := by omega
      have ew : sEnd sClass T D i = eB (eB (sNew (tS T) (tP T) (tV T) wl D (i + 1)) fun a => eB (sWrd (tS T) (tP T) (tV T) wl 3 a.2) fun j => eB (sNum (tS T) (tP T) (tV T) 0 999 j) fun b => eB (sWrd (tS T) (tP T) (tV T) wl 4 b.2) fun j2_w => eB (sRow (tS T) (tP T) (tV T) 99 14 [] j2_w) fun r => .ok ((D.1, D.2.1, D.2.2.1 ++ [(a.1, b.1, r.1)], D.2.2.2), r.2)) fun r => eB (sSgn (tS T) (tP T) (tV T) 59 r.2) fun j => .ok (r.1, j) := by
        show eB (sClass (tS T) (tP T) (tV T) wl D i) _ = _
        unfold sClass
        rw [if_neg y]
      obtain ⟨n1_w, n2_w, n3_w, n4_w⟩ := t.nx lt rfl rfl
      unfold bb_124
      simp only [qe_1, qe_3, qe_4, qe_5, qe_7, qe_72, qe_10, qe_102, qe_13, qe_14, qe_15, qe_16, qe_17, qe_18, qe_20, qe_22, qe_23, qe_21, qe_24, qe_25, qe_26, qe_27, qe_28, qe_30, qe_31, qe_32, qc_20, qc_22, qc_23, qc_21, qc_24, qc_25, qc_26, qc_27, qc_1, qc_3, qc_4, qc_7, qc_13, qc_28, qc_32, qs_1, qs_2, qs_3, qs_4, qs_5, qs_6, qs_9, qs_10, qs_11, qs_14, qs_15, qs_16, qs_27, qs_17, qs_18, qs_19, qs_20, qs_22, qs_23, qs_28, qs_25, qs_26, qs_7, qs_8, kc_1, kn_1, kc_2, kn_2, kc_3, kn_3, kc_4, kn_4, kc_5, kn_5, kc_6, kn_6, kc_7, kn_7, kc_8, kn_8, kc_9, kn_9, kc_10, kn_10, kc_11, kn_11, kc_12, kn_12, kc_13, kn_13, kc_14, kn_14, kc_15, kn_15, kc_16, kc_17, kc_18, kc_19, kc_20, kc_21, kc_22, kc_23, kc_30, kc_32, kc_40, kc_43, kc_45, kc_48, kc_52, kc_56, kc_57, kc_59, kc_60, kc_61, kc_63, kc_64, kc_72, kc_78, kc_97, kc_99, kc_122, kc_126, kc_128, kc_192, kc_200, kc_255, kc_999, kc_1000, kc_9999, kn_9999, kc_10000, kc_12345, kc_65536, kc_252645135, kc_858993459, kc_1103515245, kc_1431655765, kc_2147483647, kc_0, kc_24, kc_28, kc_37, kc_41, kc_42, kc_73, kc_91, kc_95, kc_96, kc_98, kc_100, kc_112, kc_125, kc_150, kc_162, kc_163, kc_168, kc_186, kc_190, kc_250, kc_355, kc_356, kc_404, kc_405, kc_429, kc_573, kc_1002, kc_1100, kc_1891, kc_2200, kc_4719, kc_4869, kc_4881, kc_5148, kc_19741, kc_25433, kc_320403, kc_628412, kc_629093, kc_660401, kc_679843, kc_918640, kc_979410, kc_1178088, kc_6232410, kc_24644941, kc_36238189, kc_38270444, kc_392531318, kc_425693491, kc_1342154595, kc_2147483648, kc_42328242873, kc_891704255789, kc_1722105685577, kc_1858726030364, ct_0, ct_1, ct_2, ct_3, ct_4, ct_5, cf_0, cf_1, cf_2, cf_3, cf_4, cf_5, w_ty6, w_ty7, m_sv, m_z0, m_hd, m_g0, m_gs, m_s0, m_ss, m_ap, m_an, forall_const, true_and, and_true, ne_eq, not_true_eq_false, not_false_eq_true, false_implies, true_implies, implies_true, eq_self, reduceCtorEq, Nat.reduceDiv, Nat.reduceMod, Int.reduceToNat, or_true, true_or, or_false, false_or, or_self, m_it, m_if, m_c1, m_01, m_02, m_03, m_04, m_10, m_12, m_13, m_14, m_20, m_21, m_23, m_24, m_30, m_31, m_32, m_34, m_40, m_41, m_42, m_43, Int.reduceLE, Int.reduceLT, Int.reduceGE, Int.reduceGT, Int.reduceNeg, Int.reduceAdd, Int.reduceSub, Int.reduceMul, Int.reduceEq, Int.reduceNe, Nat.reduceAdd, jun2, ro_0_0, ro_0_1, ro_0_2, ro_0_3, ro_0_4, ro_0_5, ro_0_6, ro_0_7, ro_0_8, ro_0_9, ro_0_10, ro_0_11, ro_0_12, ro_1_0, ro_1_1, ro_2_0, ro_4_0, ro_6_0, ro_6_1, ro_6_2, ro_6_3, ro_6_4, ro_6_5, ro_6_6, ro_6_7, ro_6_8, ro_8_0, ro_10_0, ro_12_0, ro_14_0, ro_16_0, ro_18_0, ro_20_0, ro_22_0, ro_22_1, ro_22_2, ro_23_0, ro_25_0, ro_27_0, ro_29_0, ro_29_1, ro_29_2, ro_29_3, ro_29_4, ro_29_5, ro_29_6, ro_29_7, ro_29_8, ro_31_0, ro_33_0, ro_35_0, ro_37_0, ro_39_0, ro_41_0, ro_43_0, ro_45_0, ro_45_1, ro_45_2, ro_46_0, ro_48_0, ro_50_0, ro_52_0, ro_52_1, ro_52_2, ro_52_3, ro_53_0, ro_55_0, ro_57_0, ro_59_0, ro_61_0, ro_61_1, ro_61_2, ro_61_3, ro_62_0, ro_64_0, ro_66_0, ro_68_0, ro_70_0, ro_70_1, ro_70_2, ro_70_3, ro_70_4, ro_70_5, ro_70_6, ro_70_7, ro_70_8, ro_70_9, ro_71_0, ro_73_0, ro_75_0, ro_77_0, ro_79_0, ro_81_0, ro_83_0, ro_85_0, ro_87_0, ro_89_0, ro_91_0, ro_91_1, ro_91_2, ro_91_3, ro_91_4, ro_91_5, ro_91_6, ro_91_7, ro_91_8, ro_91_9, ro_92_0, ro_94_0, ro_96_0, ro_98_0, ro_100_0, ro_102_0, ro_104_0, ro_106_0, ro_108_0, ro_110_0, ro_112_0, ro_112_1, ro_112_2, ro_112_3, ro_112_4, ro_112_5, ro_112_6, ro_112_7, ro_112_8, ro_112_9, ro_113_0, ro_115_0, ro_117_0, ro_119_0, ro_121_0, ro_123_0, ro_125_0, ro_127_0, ro_129_0, ro_131_0, ro_133_0, ro_133_1, ro_133_2, ro_133_3, ro_133_4, ro_133_5, ro_133_6, ro_133_7, ro_133_8, ro_133_9, ro_134_0, ro_136_0, ro_138_0, ro_140_0, ro_142_0, ro_144_0, ro_146_0, ro_148_0, ro_150_0, ro_152_0, ro_154_0, ro_155_0, ro_157_0, ro_157_1, ro_157_2, ro_157_3, ro_157_4, ro_157_5, ro_157_6, ro_157_7, ro_157_8, ro_157_9, ro_158_0, ro_160_0, ro_162_0, ro_164_0, ro_166_0, ro_168_0, ro_170_0, ro_172_0, ro_174_0, ro_176_0, ro_178_0, ro_180_0, ro_182_1, ro_182_4, ro_182_5, ro_182_6, ro_182_9, ro_182_10, ro_182_11, ro_182_13, ro_182_14, ro_182_15, ro_182_16, ro_182_17, ro_182_20, ro_182_21, ro_182_22, ro_182_23, ro_182_24, ro_182_26, ro_182_27, ro_182_28, lo_3, lo_5, lo_7, lo_9, lo_11, lo_13, lo_15, lo_17, lo_19, lo_21, lo_24, lo_26, lo_28, lo_30, lo_32, lo_34, lo_36, lo_38, lo_40, lo_42, lo_44, lo_47, lo_49, lo_51, lo_54, lo_56, lo_58, lo_60, lo_63, lo_65, lo_67, lo_69, lo_72, lo_74, lo_76, lo_78, lo_80, lo_82, lo_84, lo_86, lo_88, lo_90, lo_93, lo_95, lo_97, lo_99, lo_101, lo_103, lo_105, lo_107, lo_109, lo_111, lo_114, lo_116, lo_118, lo_120, lo_122, lo_124, lo_126, lo_128, lo_130, lo_132, lo_135, lo_137, lo_139, lo_141, lo_143, lo_145, lo_147, lo_149, lo_151, lo_153, lo_156, lo_159, lo_161, lo_163, lo_165, lo_167, lo_169, lo_171, lo_173, lo_175, lo_177, lo_179, lo_181, lo_183, lo_184, lo_185, lo_186, lo_187, lo_188, lo_189, lo_190, lo_191, lo_192, lo_193, lo_194, lo_195, lo_196, lo_197, lo_198, lo_199, lo_200, lo_201, lo_202, lo_203, jp_nn, jp_eq, jp_e1, Classical.not_not, ji0, ji1, ji2, cs15_64, kk_64, cs15_133, kk_133, cs15_134, kk_134, cs15_135, kk_135, cs15_136, kk_136, cs15_140, kk_140, cs15_137, kk_137, cs15_98, kk_98, jl_0, jl_1, jl_2, jl_3, jl_4, jl_5, jl_6, jl_7, jl_8, jl_9, jl_10, jl_11, jl_12, jl_13, jl_14, jl_15, jl_16, jl_17, jl_18, jl_19, jl_20, jl_21, jl_22, jl_23, jl_24, jl_25, jl_26, jl_27, jl_28, jl_29, jl_30, jl_31, jl_32, jl_33, jl_34, jl_35, jl_36, jl_37, jl_38, jl_39, jl_40, jl_95, jl_96, jl_97, jl_98, jl_99, jl_100, jl_101, jl_102, jl_103, jl_104, jl_105, jl_106, jl_107, jl_108, jl_109, jl_110, jl_111, jl_112, jl_113, jl_114, jl_186, jl_1100, jr, ju, jpT, jpF, tnc, Nat.reduceEqDiff, reduceIte, and_false, false_and, not_true_eq_false, not_false_eq_true, or_false, gt_iff_lt, ge_iff_le, Int.lt_irrefl, Int.le_refl, y1, y2]
      refine ⟨_, _, n1_w, n2_w, n3_w, fun h1 f1_w a1_w => ⟨Or.inr rfl, T, i + 1, D, n4_w h1 f1_w a1_w, (cd.rd f1_w.rd).1, fun f h2 e f2_w e6_w => q1_w f h2 (by rw [ew, e]; rfl) (f1_w.rd.fl.tr f2_w.fl) e6_w, fun v j h2 e f2_w e5_w w t2_w => ?_⟩⟩
      have g2 : FL h h2 := f1_w.rd.fl.tr f2_w.fl
      refine ⟨T, j, 3, by decide, rfl, t2_w, fun f h3 e3_w f3_w e6_w => q1_w f h3 (by simp only [ew, e, e3_w, eB]) (g2.tr f3_w.fl) e6_w, fun j3_w h3 e3_w f3_w k3 t3_w => ?_⟩
      have g3_w : FL h h3 := g2.tr f3_w.fl
      refine ⟨T, j3_w, t3_w, fun f h4 e4_w f4_w e6_w => q1_w f h4 (by simp only [ew, e, e3_w, e4_w, eB]) (g3_w.tr f4_w.fl) e6_w, fun b j4_w h4 e4_w f4_w v4_w k4 t4_w => ?_⟩
      have g4 : FL h h4 := g3_w.tr f4_w.fl
      refine ⟨T, j4_w, 4, by decide, rfl, t4_w, fun f h5 e5_w f5_w e6_w => q1_w f h5 (by simp only [ew, e, e3_w, e4_w, e5_w, eB]) (g4.tr f5_w.fl) e6_w, fun j5_w h5 e5' f5_w k5 t5_w => ?_⟩
      have g5_w : FL h h5 := g4.tr f5_w.fl
      refine ⟨T, j5_w, t5_w, tg, fun f h6 e6' f6_w e6_w => q1_w f h6 (by simp only [ew, e, e3_w, e4_w, e5', e6', eB]) (g5_w.tr f6_w.fl) e6_w, fun l j6_w h6 e6' f6_w m6_w l12 l1' s6_w k6 t6 => ?_⟩
      have g6 : FL h h6 := g5_w.tr f6_w.fl
      have cd6 : CD 29 D h6 := (((((cd.rd f1_w.rd).ro f2_w).ro f3_w).ro f4_w).ro f5_w).rz f6_w
      have rf6 : RFD D h6 := (((((rf.rd f1_w.rd).ro f2_w).ro f3_w).ro f4_w).ro f5_w).rz f6_w
      have lv := sRow_ok _ _ _ _ _ e6' (fun v z => by cases z)
      refine ⟨D, v, l, cd6, by omega, by rw [k4.1, k3, e5_w], w, sNew_ok e, m6_w, l1', l12, fun k x z => ⟨s6_w k x z, lv x (List.mem_of_getElem? z)⟩, fun h7 f7_w cd7 => ?_⟩
      rw [v4_w] at cd7
      have rf7 : RFD (D.1, D.2.1, D.2.2.1 ++ [(v, b, l)], D.2.2.2) h7 := rf6.fp f7_w
      exact ⟨T, j6_w, f7_w.tca t6, fun f h8 e8 f8_w e6_w => q1_w f h8 (by simp only [ew, e, e3_w, e4_w, e5', e6', e8, eB]) ((g6.tr f7_w.fl).tr f8_w.fl) e6_w, fun j8_w h8 e8 f8_w t8 => q2_w _ j8_w h8 (by simp only [ew, e, e3_w, e4_w, e5', e6', e8, eB]) ((g6.tr f7_w.fl).tr f8_w.fl) (f8_w.2.trans ((f7_w 1 6 (by omega)).trans (f6_w.2.trans (f5_w.2.trans (f4_w.2.trans (f3_w.2.trans (f2_w.2.trans (f1_w 1 6 (by omega))))))))) (cd7.ro f8_w) (rf7.ro f8_w) t8⟩
  · exact hQ.elim
end
section
/-! ===== the class's lines: meter ===== -/
theorem TC.kd {n N : Nat} {S P V : Nat → Int} {i : Nat} {h : XH} (t : TC n N S P V i h) : (if wrd (h 2 3) (h 2 6) = 13 then (0 : Int) else if wrd (h 2 3) (h 2 6) = 14 then 1 else if wrd (h 2 3) (h 2 6) = 15 then 2 else if wrd (h 2 3) (h 2 6) = 16 then 3 else -1) = wHere S V wl 13 4 i := by
  have a0_w : wrd (h 2 3) (h 2 6) = 13 ↔ sWd S V wl 13 i := t.wd (w := 13) (by decide)
  have a1_w : wrd (h 2 3) (h 2 6) = 14 ↔ sWd S V wl 14 i := t.wd (w := 14) (by decide)
  have a2 : wrd (h 2 3) (h 2 6) = 15 ↔ sWd S V wl 15 i := t.wd (w := 15) (by decide)
  have a3 : wrd (h 2 3) (h 2 6) = 16 ↔ sWd S V wl 16 i := t.wd (w := 16) (by decide)
  show _ = (if decide (sWd S V wl 16 i) = true then (3 : Int) else if decide (sWd S V wl 15 i) = true then (2 : Int) else if decide (sWd S V wl 14 i) = true then (1 : Int) else if decide (sWd S V wl 13 i) = true then (0 : Int) else -1)
  by_cases y16 : wrd (h 2 3) (h 2 6) = 16
  · rw [if_pos (decide_eq_true (a3.mp y16)), y16]
    rfl
  · rw [if_neg (fun z => y16 (a3.mpr (of_decide_eq_true z)))]
    by_cases y15 : wrd (h 2 3) (h 2 6) = 15
    · rw [if_pos (decide_eq_true (a2.mp y15)), y15]
      rfl
    · rw [if_neg (fun z => y15 (a2.mpr (of_decide_eq_true z)))]
      by_cases y14 : wrd (h 2 3) (h 2 6) = 14
      · rw [if_pos (decide_eq_true (a1_w.mp y14)), y14]
        rfl
      · rw [if_neg (fun z => y14 (a1_w.mpr (of_decide_eq_true z)))]
        by_cases y13 : wrd (h 2 3) (h 2 6) = 13
        · rw [if_pos (decide_eq_true (a0_w.mp y13)), y13]
          rfl
        · rw [if_neg (fun z => y13 (a0_w.mpr (of_decide_eq_true z))), if_neg y13, if_neg y14, if_neg y15, if_neg y16]
theorem TCA.kd {T : TA} {i : Nat} {h : XH} (t : TCA T i h) : (if wrd (h 2 3) (h 2 6) = 13 then (0 : Int) else if wrd (h 2 3) (h 2 6) = 14 then 1 else if wrd (h 2 3) (h 2 6) = 15 then 2 else if wrd (h 2 3) (h 2 6) = 16 then 3 else -1) = wHere (tS T) (tV T) wl 13 4 i := TC.kd t
theorem m_126 : BodyOK CS15 CS15 126 := fun av h Q hQ => by
  rw [cs15_126] at hQ
  unfold k126 kCL at hQ
  split at hQ
  · rename_i o p
    obtain ⟨rfl, rfl, T, i, D, t, tg, lt, cd, rf, q1_w, q2_w⟩ := hQ
    have c3 := cd.1.1.2.2.1
    have l3 := cd.1.1.2.2.2.2.2
    show pS CS15 bb_126 [1, 29, 0, 0, 0, 0] h _
    by_cases y : D.2.2.2.2.1.length = 6
    · have y1 : h 29 12 = 6 := by omega
      have e5_w := t.fa (c := 5) (by decide) (by decide)
      have ew : sEnd sMeter T D i = .error (er (tP T) 5 i) := by
        show eB (sMeter (tS T) (tP T) (tV T) wl D i) _ = _
        unfold sMeter
        rw [if_pos y]
        rfl
      unfold bb_126
      simp only [qe_1, qe_3, qe_4, qe_5, qe_7, qe_72, qe_10, qe_102, qe_13, qe_14, qe_15, qe_16, qe_17, qe_18, qe_20, qe_22, qe_23, qe_21, qe_24, qe_25, qe_26, qe_27, qe_28, qe_30, qe_31, qe_32, qc_20, qc_22, qc_23, qc_21, qc_24, qc_25, qc_26, qc_27, qc_1, qc_3, qc_4, qc_7, qc_13, qc_28, qc_32, qs_1, qs_2, qs_3, qs_4, qs_5, qs_6, qs_9, qs_10, qs_11, qs_14, qs_15, qs_16, qs_27, qs_17, qs_18, qs_19, qs_20, qs_22, qs_23, qs_28, qs_25, qs_26, qs_7, qs_8, kc_1, kn_1, kc_2, kn_2, kc_3, kn_3, kc_4, kn_4, kc_5, kn_5, kc_6, kn_6, kc_7, kn_7, kc_8, kn_8, kc_9, kn_9, kc_10, kn_10, kc_11, kn_11, kc_12, kn_12, kc_13, kn_13, kc_14, kn_14, kc_15, kn_15, kc_16, kc_17, kc_18, kc_19, kc_20, kc_21, kc_22, kc_23, kc_30, kc_32, kc_40, kc_43, kc_45, kc_48, kc_52, kc_56, kc_57, kc_59, kc_60, kc_61, kc_63, kc_64, kc_72, kc_78, kc_97, kc_99, kc_122, kc_126, kc_128, kc_192, kc_200, kc_255, kc_999, kc_1000, kc_9999, kn_9999, kc_10000, kc_12345, kc_65536, kc_252645135, kc_858993459, kc_1103515245, kc_1431655765, kc_2147483647, kc_0, kc_24, kc_28, kc_37, kc_41, kc_42, kc_73, kc_91, kc_95, kc_96, kc_98, kc_100, kc_112, kc_125, kc_150, kc_162, kc_163, kc_168, kc_186, kc_190, kc_250, kc_355, kc_356, kc_404, kc_405, kc_429, kc_573, kc_1002, kc_1100, kc_1891, kc_2200, kc_4719, kc_4869, kc_4881, kc_5148, kc_19741, kc_25433, kc_320403, kc_628412, kc_629093, kc_660401, kc_679843, kc_918640, kc_979410, kc_1178088, kc_6232410, kc_24644941, kc_36238189, kc_38270444, kc_392531318, kc_425693491, kc_1342154595, kc_2147483648, kc_42328242873, kc_891704255789, kc_1722105685577, kc_1858726030364, ct_0, ct_1, ct_2, ct_3, ct_4, ct_5, cf_0, cf_1, cf_2, cf_3, cf_4, cf_5, w_ty6, w_ty7, m_sv, m_z0, m_hd, m_g0, m_gs, m_s0, m_ss, m_ap, m_an, forall_const, true_and, and_true, ne_eq, not_true_eq_false, not_false_eq_true, false_implies, true_implies, implies_true, eq_self, reduceCtorEq, Nat.reduceDiv, Nat.reduceMod, Int.reduceToNat, or_true, true_or, or_false, false_or, or_self, m_it, m_if, m_c1, m_01, m_02, m_03, m_04, m_10, m_12, m_13, m_14, m_20, m_21, m_23, m_24, m_30, m_31, m_32, m_34, m_40, m_41, m_42, m_43, Int.reduceLE, Int.reduceLT, Int.reduceGE, Int.reduceGT, Int.reduceNeg, Int.reduceAdd, Int.reduceSub, Int.reduceMul, Int.reduceEq, Int.reduceNe, Nat.reduceAdd, jun2, ro_0_0, ro_0_1, ro_0_2, ro_0_3, ro_0_4, ro_0_5, ro_0_6, ro_0_7, ro_0_8, ro_0_9, ro_0_10, ro_0_11, ro_0_12, ro_1_0, ro_1_1, ro_2_0, ro_4_0, ro_6_0, ro_6_1, ro_6_2, ro_6_3, ro_6_4, ro_6_5, ro_6_6, ro_6_7, ro_6_8, ro_8_0, ro_10_0, ro_12_0, ro_14_0, ro_16_0, ro_18_0, ro_20_0, ro_22_0, ro_22_1, ro_22_2, ro_23_0, ro_25_0, ro_27_0, ro_29_0, ro_29_1, ro_29_2, ro_29_3, ro_29_4, ro_29_5, ro_29_6, ro_29_7, ro_29_8, ro_31_0, ro_33_0, ro_35_0, ro_37_0, ro_39_0, ro_41_0, ro_43_0, ro_45_0, ro_45_1, ro_45_2, ro_46_0, ro_48_0, ro_50_0, ro_52_0, ro_52_1, ro_52_2, ro_52_3, ro_53_0, ro_55_0, ro_57_0, ro_59_0, ro_61_0, ro_61_1, ro_61_2, ro_61_3, ro_62_0, ro_64_0, ro_66_0, ro_68_0, ro_70_0, ro_70_1, ro_70_2, ro_70_3, ro_70_4, ro_70_5, ro_70_6, ro_70_7, ro_70_8, ro_70_9, ro_71_0, ro_73_0, ro_75_0, ro_77_0, ro_79_0, ro_81_0, ro_83_0, ro_85_0, ro_87_0, ro_89_0, ro_91_0, ro_91_1, ro_91_2, ro_91_3, ro_91_4, ro_91_5, ro_91_6, ro_91_7, ro_91_8, ro_91_9, ro_92_0, ro_94_0, ro_96_0, ro_98_0, ro_100_0, ro_102_0, ro_104_0, ro_106_0, ro_108_0, ro_110_0, ro_112_0, ro_112_1, ro_112_2, ro_112_3, ro_112_4, ro_112_5, ro_112_6, ro_112_7, ro_112_8, ro_112_9, ro_113_0, ro_115_0, ro_117_0, ro_119_0, ro_121_0, ro_123_0, ro_125_0, ro_127_0, ro_129_0, ro_131_0, ro_133_0, ro_133_1, ro_133_2, ro_133_3, ro_133_4, ro_133_5, ro_133_6, ro_133_7, ro_133_8, ro_133_9, ro_134_0, ro_136_0, ro_138_0, ro_140_0, ro_142_0, ro_144_0, ro_146_0, ro_148_0, ro_150_0, ro_152_0, ro_154_0, ro_155_0, ro_157_0, ro_157_1, ro_157_2, ro_157_3, ro_157_4, ro_157_5, ro_157_6, ro_157_7, ro_157_8, ro_157_9, ro_158_0, ro_160_0, ro_162_0, ro_164_0, ro_166_0, ro_168_0, ro_170_0, ro_172_0, ro_174_0, ro_176_0, ro_178_0, ro_180_0, ro_182_1, ro_182_4, ro_182_5, ro_182_6, ro_182_9, ro_182_10, ro_182_11, ro_182_13, ro_182_14, ro_182_15, ro_182_16, ro_182_17, ro_182_20, ro_182_21, ro_182_22, ro_182_23, ro_182_24, ro_182_26, ro_182_27, ro_182_28, lo_3, lo_5, lo_7, lo_9, lo_11, lo_13, lo_15, lo_17, lo_19, lo_21, lo_24, lo_26, lo_28, lo_30, lo_32, lo_34, lo_36, lo_38, lo_40, lo_42, lo_44, lo_47, lo_49, lo_51, lo_54, lo_56, lo_58, lo_60, lo_63, lo_65, lo_67, lo_69, lo_72, lo_74, lo_76, lo_78, lo_80, lo_82, lo_84, lo_86, lo_88, lo_90, lo_93, lo_95, lo_97, lo_99, lo_101, lo_103, lo_105, lo_107, lo_109, lo_111, lo_114, lo_116, lo_118, lo_120, lo_122, lo_124, lo_126, lo_128, lo_130, lo_132, lo_135, lo_137, lo_139, lo_141, lo_143, lo_145, lo_147, lo_149, lo_151, lo_153, lo_156, lo_159, lo_161, lo_163, lo_165, lo_167, lo_169, lo_171, lo_173, lo_175, lo_177, lo_179, lo_181, lo_183, lo_184, lo_185, lo_186, lo_187, lo_188, lo_189, lo_190, lo_191, lo_192, lo_193, lo_194, lo_195, lo_196, lo_197, lo_198, lo_199, lo_200, lo_201, lo_202, lo_203, jp_nn, jp_eq, jp_e1, Classical.not_not, ji0, ji1, ji2, cs15_64, kk_64, cs15_77, kk_77, cs15_133, kk_133, cs15_134, kk_134, cs15_135, kk_135, cs15_138, kk_138, cs15_139, kk_139, cs15_102, kk_102, cs15_103, kk_103, cs15_140, kk_140, cs15_127, kk_127, cs15_100, kk_100, jl_0, jl_1, jl_2, jl_3, jl_4, jl_5, jl_6, jl_7, jl_8, jl_9, jl_10, jl_11, jl_12, jl_13, jl_14, jl_15, jl_16, jl_17, jl_18, jl_19, jl_20, jl_21, jl_22, jl_23, jl_24, jl_25, jl_26, jl_27, jl_28, jl_29, jl_30, jl_31, jl_32, jl_33, jl_34, jl_35, jl_36, jl_37, jl_38, jl_39, jl_40, jl_95, jl_96, jl_97, jl_98, jl_99, jl_100, jl_101, jl_102, jl_103, jl_104, jl_105, jl_106, jl_107, jl_108, jl_109, jl_110, jl_111, jl_112, jl_113, jl_114, jl_186, jl_1100, jr, ju, jpT, jpF, tnc, Nat.reduceEqDiff, reduceIte, and_false, false_and, not_true_eq_false, not_false_eq_true, or_false, gt_iff_lt, ge_iff_le, Int.lt_irrefl, Int.le_refl, y1, e5_w]
      exact q1_w _ _ ew (FL.up (by omega)) up_eq
    · have y1 : ¬ 6 ≤ h 29 12 := by omega
      have y2 : h 29 12 < 6 := by omega
      obtain ⟨n1_w, n2_w, n3_w, n4_w⟩ := t.nx lt rfl rfl
      unfold bb_126
      simp only [qe_1, qe_3, qe_4, qe_5, qe_7, qe_72, qe_10, qe_102, qe_13, qe_14, qe_15, qe_16, qe_17, qe_18, qe_20, qe_22, qe_23, qe_21, qe_24, qe_25, qe_26, qe_27, qe_28, qe_30, qe_31, qe_32, qc_20, qc_22, qc_23, qc_21, qc_24, qc_25, qc_26, qc_27, qc_1, qc_3, qc_4, qc_7, qc_13, qc_28, qc_32, qs_1, qs_2, qs_3, qs_4, qs_5, qs_6, qs_9, qs_10, qs_11, qs_14, qs_15, qs_16, qs_27, qs_17, qs_18, qs_19, qs_20, qs_22, qs_23, qs_28, qs_25, qs_26, qs_7, qs_8, kc_1, kn_1, kc_2, kn_2, kc_3, kn_3, kc_4, kn_4, kc_5, kn_5, kc_6, kn_6, kc_7, kn_7, kc_8, kn_8, kc_9, kn_9, kc_10, kn_10, kc_11, kn_11, kc_12, kn_12, kc_13, kn_13, kc_14, kn_14, kc_15, kn_15, kc_16, kc_17, kc_18, kc_19, kc_20, kc_21, kc_22, kc_23, kc_30, kc_32, kc_40, kc_43, kc_45, kc_48, kc_52, kc_56, kc_57, kc_59, kc_60, kc_61, kc_63, kc_64, kc_72, kc_78, kc_97, kc_99, kc_122, kc_126, kc_128, kc_192, kc_200, kc_255, kc_999, kc_1000, kc_9999, kn_9999, kc_10000, kc_12345, kc_65536, kc_252645135, kc_858993459, kc_1103515245, kc_1431655765, kc_2147483647, kc_0, kc_24, kc_28, kc_37, kc_41, kc_42, kc_73, kc_91, kc_95, kc_96, kc_98, kc_100, kc_112, kc_125, kc_150, kc_162, kc_163, kc_168, kc_186, kc_190, kc_250, kc_355, kc_356, kc_404, kc_405, kc_429, kc_573, kc_1002, kc_1100, kc_1891, kc_2200, kc_4719, kc_4869, kc_4881, kc_5148, kc_19741, kc_25433, kc_320403, kc_628412, kc_629093, kc_660401, kc_679843, kc_918640, kc_979410, kc_1178088, kc_6232410, kc_24644941, kc_36238189, kc_38270444, kc_392531318, kc_425693491, kc_1342154595, kc_2147483648, kc_42328242873, kc_891704255789, kc_1722105685577, kc_1858726030364, ct_0, ct_1, ct_2, ct_3, ct_4, ct_5, cf_0, cf_1, cf_2, cf_3, cf_4, cf_5, w_ty6, w_ty7, m_sv, m_z0, m_hd, m_g0, m_gs, m_s0, m_ss, m_ap, m_an, forall_const, true_and, and_true, ne_eq, not_true_eq_false, not_false_eq_true, false_implies, true_implies, implies_true, eq_self, reduceCtorEq, Nat.reduceDiv, Nat.reduceMod, Int.reduceToNat, or_true, true_or, or_false, false_or, or_self, m_it, m_if, m_c1, m_01, m_02, m_03, m_04, m_10, m_12, m_13, m_14, m_20, m_21, m_23, m_24, m_30, m_31, m_32, m_34, m_40, m_41, m_42, m_43, Int.reduceLE, Int.reduceLT, Int.reduceGE, Int.reduceGT, Int.reduceNeg, Int.reduceAdd, Int.reduceSub, Int.reduceMul, Int.reduceEq, Int.reduceNe, Nat.reduceAdd, jun2, ro_0_0, ro_0_1, ro_0_2, ro_0_3, ro_0_4, ro_0_5, ro_0_6, ro_0_7, ro_0_8, ro_0_9, ro_0_10, ro_0_11, ro_0_12, ro_1_0, ro_1_1, ro_2_0, ro_4_0, ro_6_0, ro_6_1, ro_6_2, ro_6_3, ro_6_4, ro_6_5, ro_6_6, ro_6_7, ro_6_8, ro_8_0, ro_10_0, ro_12_0, ro_14_0, ro_16_0, ro_18_0, ro_20_0, ro_22_0, ro_22_1, ro_22_2, ro_23_0, ro_25_0, ro_27_0, ro_29_0, ro_29_1, ro_29_2, ro_29_3, ro_29_4, ro_29_5, ro_29_6, ro_29_7, ro_29_8, ro_31_0, ro_33_0, ro_35_0, ro_37_0, ro_39_0, ro_41_0, ro_43_0, ro_45_0, ro_45_1, ro_45_2, ro_46_0, ro_48_0, ro_50_0, ro_52_0, ro_52_1, ro_52_2, ro_52_3, ro_53_0, ro_55_0, ro_57_0, ro_59_0, ro_61_0, ro_61_1, ro_61_2, ro_61_3, ro_62_0, ro_64_0, ro_66_0, ro_68_0, ro_70_0, ro_70_1, ro_70_2, ro_70_3, ro_70_4, ro_70_5, ro_70_6, ro_70_7, ro_70_8, ro_70_9, ro_71_0, ro_73_0, ro_75_0, ro_77_0, ro_79_0, ro_81_0, ro_83_0, ro_85_0, ro_87_0, ro_89_0, ro_91_0, ro_91_1, ro_91_2, ro_91_3, ro_91_4, ro_91_5, ro_91_6, ro_91_7, ro_91_8, ro_91_9, ro_92_0, ro_94_0, ro_96_0, ro_98_0, ro_100_0, ro_102_0, ro_104_0, ro_106_0, ro_108_0, ro_110_0, ro_112_0, ro_112_1, ro_112_2, ro_112_3, ro_112_4, ro_112_5, ro_112_6, ro_112_7, ro_112_8, ro_112_9, ro_113_0, ro_115_0, ro_117_0, ro_119_0, ro_121_0, ro_123_0, ro_125_0, ro_127_0, ro_129_0, ro_131_0, ro_133_0, ro_133_1, ro_133_2, ro_133_3, ro_133_4, ro_133_5, ro_133_6, ro_133_7, ro_133_8, ro_133_9, ro_134_0, ro_136_0, ro_138_0, ro_140_0, ro_142_0, ro_144_0, ro_146_0, ro_148_0, ro_150_0, ro_152_0, ro_154_0, ro_155_0, ro_157_0, ro_157_1, ro_157_2, ro_157_3, ro_157_4, ro_157_5, ro_157_6, ro_157_7, ro_157_8, ro_157_9, ro_158_0, ro_160_0, ro_162_0, ro_164_0, ro_166_0, ro_168_0, ro_170_0, ro_172_0, ro_174_0, ro_176_0, ro_178_0, ro_180_0, ro_182_1, ro_182_4, ro_182_5, ro_182_6, ro_182_9, ro_182_10, ro_182_11, ro_182_13, ro_182_14, ro_182_15, ro_182_16, ro_182_17, ro_182_20, ro_182_21, ro_182_22, ro_182_23, ro_182_24, ro_182_26, ro_182_27, ro_182_28, lo_3, lo_5, lo_7, lo_9, lo_11, lo_13, lo_15, lo_17, lo_19, lo_21, lo_24, lo_26, lo_28, lo_30, lo_32, lo_34, lo_36, lo_38, lo_40, lo_42, lo_44, lo_47, lo_49, lo_51, lo_54, lo_56, lo_58, lo_60, lo_63, lo_65, lo_67, lo_69, lo_72, lo_74, lo_76, lo_78, lo_80, lo_82, lo_84, lo_86, lo_88, lo_90, lo_93, lo_95, lo_97, lo_99, lo_101, lo_103, lo_105, lo_107, lo_109, lo_111, lo_114, lo_116, lo_118, lo_120, lo_122, lo_124, lo_126, lo_128, lo_130, lo_132, lo_135, lo_137, lo_139, lo_141, lo_143, lo_145, lo_147, lo_149, lo_151, lo_153, lo_156, lo_159, lo_161, lo_163, lo_165, lo_167, lo_169, lo_171, lo_173, lo_175, lo_177, lo_179, lo_181, lo_183, lo_184, lo_185, lo_186, lo_187, lo_188, lo_189, lo_190, lo_191, lo_192, lo_193, lo_194, lo_195, lo_196, lo_197, lo_198, lo_199, lo_200, lo_201, lo_202, lo_203, jp_nn, jp_eq, jp_e1, Classical.not_not, ji0, ji1, ji2, cs15_64, kk_64, cs15_77, kk_77, cs15_133, kk_133, cs15_134, kk_134, cs15_135, kk_135, cs15_138, kk_138, cs15_139, kk_139, cs15_102, kk_102, cs15_103, kk_103, cs15_140, kk_140, cs15_127, kk_127, cs15_100, kk_100, jl_0, jl_1, jl_2, jl_3, jl_4, jl_5, jl_6, jl_7, jl_8, jl_9, jl_10, jl_11, jl_12, jl_13, jl_14, jl_15, jl_16, jl_17, jl_18, jl_19, jl_20, jl_21, jl_22, jl_23, jl_24, jl_25, jl_26, jl_27, jl_28, jl_29, jl_30, jl_31, jl_32, jl_33, jl_34, jl_35, jl_36, jl_37, jl_38, jl_39, jl_40, jl_95, jl_96, jl_97, jl_98, jl_99, jl_100, jl_101, jl_102, jl_103, jl_104, jl_105, jl_106, jl_107, jl_108, jl_109, jl_110, jl_111, jl_112, jl_113, jl_114, jl_186, jl_1100, jr, ju, jpT, jpF, tnc, Nat.reduceEqDiff, reduceIte, and_false, false_and, not_true_eq_false, not_false_eq_true, or_false, gt_iff_lt, ge_iff_le, Int.lt_irrefl, Int.le_refl, y1, y2]
      have ew : sEnd sMeter T D i = eB (eB (sNew (tS T) (tP T) (tV T) wl D (i + 1)) fun a => eB (sOne (tS T) (tP T) (tV T) wl 13 4 a.2) fun k => eB (sWrd (tS T) (tP T) (tV T) wl 2 k.2) fun j => eB (sTold (tS T) (tP T) (tV T) wl (D.2.2.1.map (·.1)) j) fun c => eB (sWrd (tS T) (tP T) (tV T) wl 7 c.2) fun j2_w => eB (sTold (tS T) (tP T) (tV T) wl D.2.2.2.1 j2_w) fun s => .ok ((D.1, D.2.1, D.2.2.1, D.2.2.2.1, D.2.2.2.2.1 ++ [(a.1, k.1, c.1, s.1)], D.2.2.2.2.2), s.2)) fun r => eB (sSgn (tS T) (tP T) (tV T) 59 r.2) fun j => .ok (r.1, j) := by
        show eB (sMeter (tS T) (tP T) (tV T) wl D i) _ = _
        unfold sMeter
        rw [if_neg y]
      refine ⟨_, _, n1_w, n2_w, n3_w, fun h1 f1_w a1_w => ⟨Or.inr rfl, T, i + 1, D, n4_w h1 f1_w a1_w, (cd.rd f1_w.rd).1, fun f h2 e f2_w e6_w => q1_w f h2 (by simp only [ew, e, eB]) (f1_w.rd.fl.tr f2_w.fl) e6_w, fun v j h2 e f2_w e5_w w t2_w => ?_⟩⟩
      have g2 : FL h h2 := f1_w.rd.fl.tr f2_w.fl
      have kd := t2_w.kd
      rw [kd]
      have ef := t2_w.fa (c := 1) (by decide) (by decide)
      refine ⟨fun z => ?_, fun z => ?_⟩
      · have e3_w : sOne (tS T) (tP T) (tV T) wl 13 4 j = .error (er (tP T) 1 j) := by
          unfold sOne
          rw [if_pos (by omega)]
        exact q1_w _ _ (by simp only [ew, e, e3_w, eB]) (g2.tr (FL.up (by omega))) (up_eq.trans ef)
      · have e3_w : sOne (tS T) (tP T) (tV T) wl 13 4 j = .ok (wHere (tS T) (tV T) wl 13 4 j, j + 1) := by
          unfold sOne
          have := lst_ge (p := fun k => decide (sWd (tS T) (tV T) wl (13 + k) j)) 4
          rw [if_neg (fun y => z (by unfold wHere at y ⊢; omega))]
        have lt2 : j < T.2.1 := t2_w.lt (fun y => z (by
          have a := kd
          have : h2 2 3 = 0 := t2_w.2.1.trans y
          rw [this] at a
          exact a.symm.trans rfl))
        obtain ⟨m1_w, m2_w, m3_w, m4_w⟩ := t2_w.nx lt2 rfl rfl
        refine ⟨_, _, m1_w, m2_w, m3_w, fun h3 f3_w a3 => ?_⟩
        have t3_w := m4_w h3 f3_w a3
        have g3_w : FL h h3 := g2.tr f3_w.rd.fl
        have n3_w : h3 1 5 = h2 1 5 := f3_w 1 5 (by omega)
        refine ⟨T, j + 1, 2, by decide, rfl, t3_w, fun f h4 e4_w f4_w e6_w => q1_w f h4 (by simp only [ew, e, e3_w, e4_w, eB]) (g3_w.tr f4_w.fl) e6_w, fun j4_w h4 e4_w f4_w k4 t4_w => ?_⟩
        have g4 : FL h h4 := g3_w.tr f4_w.fl
        have st : ∀ (l : List Int) (j : Nat), sTold (tS T) (tP T) (tV T) wl l j = (if ¬ isNm (tS T) (tV T) wl j then .error (er (tP T) 1 j) else if nmAt l (tV T j) < 0 then .error (er (tP T) 2 j) else .ok (nmAt l (tV T j), j + 1)) := fun _ _ => rfl
        have cd4 : CD 29 D h4 := (((cd.rd f1_w.rd).ro f2_w).rd f3_w.rd).ro f4_w
        have rf4 : RFD D h4 := (((rf.rd f1_w.rd).ro f2_w).rd f3_w.rd).ro f4_w
        have nn : ∀ l u, nmAt l u = -1 ↔ nmAt l u < 0 := fun l u => by
          have := lst_ge (p := fun k => decide (l[k]? = some u)) l.length
          unfold nmAt
          omega
        refine ⟨T, j4_w, t4_w, fun h5 nm f5_w e6_w => q1_w _ h5 (by simp only [ew, e, e3_w, e4_w, eB, st, if_pos nm]) (g4.tr f5_w.fl) e6_w, fun h5 nm f5_w k5 w5 t5_w => ?_⟩
        have g5_w : FL h h5 := g4.tr f5_w.fl
        have lt5 : j4_w < T.2.1 := t5_w.lt (by rw [nm.1]; decide)
        refine ⟨Or.inr rfl, D, tV T j4_w, (cd4.ro f5_w).1, k5, w5, T, j4_w, t5_w, lt5, fun h6 x6 f6_w e6_w => q1_w _ h6 (by simp only [ew, e, e3_w, e4_w, eB, st, if_neg (fun z => z nm : ¬ ¬ isNm (tS T) (tV T) wl j4_w), if_pos ((nn _ _).mp x6)]) (g5_w.tr f6_w.fl) e6_w, fun h6 x6 f6_w v6 k6 _ t6 => ?_⟩
        have g6 : FL h h6 := g5_w.tr f6_w.fl
        have e6t : sTold (tS T) (tP T) (tV T) wl (D.2.2.1.map (·.1)) j4_w = .ok (nmAt (D.2.2.1.map (·.1)) (tV T j4_w), j4_w + 1) := by
          rw [st, if_neg (fun z => z nm), if_neg (fun z => x6 ((nn _ _).mpr z))]
        refine ⟨T, j4_w + 1, 7, by decide, rfl, t6, fun f h7 e7_w f7_w e6_w => q1_w f h7 (by simp only [ew, e, e3_w, e4_w, e6t, e7_w, eB]) (g6.tr f7_w.fl) e6_w, fun j7_w h7 e7_w f7_w k7 t7 => ?_⟩
        have g7 : FL h h7 := g6.tr f7_w.fl
        refine ⟨T, j7_w, t7, fun h8 nm8 f8_w e6_w => q1_w _ h8 (by simp only [ew, e, e3_w, e4_w, e6t, e7_w, eB, st, if_pos nm8]) (g7.tr f8_w.fl) e6_w, fun h8 nm8 f8_w k8 w8 t8 => ?_⟩
        have g8 : FL h h8 := g7.tr f8_w.fl
        have cd8 : CD 29 D h8 := (((cd4.ro f5_w).ro f6_w).ro f7_w).ro f8_w
        have rf8 : RFD D h8 := (((rf4.ro f5_w).ro f6_w).ro f7_w).ro f8_w
        have lt8 : j7_w < T.2.1 := t8.lt (by rw [nm8.1]; decide)
        refine ⟨Or.inr rfl, D, tV T j7_w, cd8.1, k8, w8, T, j7_w, t8, lt8, fun h9 x9 f9_w e6_w => q1_w _ h9 (by simp only [ew, e, e3_w, e4_w, e6t, e7_w, eB, st, if_neg (fun z => z nm8 : ¬ ¬ isNm (tS T) (tV T) wl j7_w), if_pos ((nn _ _).mp x9)]) (g8.tr f9_w.fl) e6_w, fun h9 x9 f9_w v9 k9 _ t9 => ?_⟩
        have g9 : FL h h9 := g8.tr f9_w.fl
        have e9t : sTold (tS T) (tP T) (tV T) wl D.2.2.2.1 j7_w = .ok (nmAt D.2.2.2.1 (tV T j7_w), j7_w + 1) := by
          rw [st, if_neg (fun z => z nm8), if_neg (fun z => x9 ((nn _ _).mpr z))]
        have gb : 0 ≤ nmAt (D.2.2.1.map (·.1)) (tV T j4_w) := by
          rcases Int.lt_or_le (nmAt (D.2.2.1.map (·.1)) (tV T j4_w)) 0 with z | z
          · exact absurd ((nn (D.2.2.1.map (·.1)) (tV T j4_w)).mpr z) x6
          · exact z
        have gl : nmAt (D.2.2.1.map (·.1)) (tV T j4_w) < 4 := by
          have a := lst_lt (p := fun k => decide ((D.2.2.1.map (·.1))[k]? = some (tV T j4_w))) (D.2.2.1.map (·.1)).length
          have b : (D.2.2.1.map (·.1)).length ≤ 4 := by rw [lenM.1]; exact cd.1.1.2.2.2.1
          unfold nmAt
          omega
        refine ⟨D, v, (nmAt (D.2.2.1.map (·.1)) (tV T j4_w)).toNat, cd8.ro f9_w, by omega, e5_w, w, sNew_ok e, by rw [v6]; omega, by omega, fun h10 f10 cd10 => ?_⟩
        rw [v6, v9] at cd10
        have rf10 : RFD (D.1, D.2.1, D.2.2.1, D.2.2.2.1, D.2.2.2.2.1 ++ [(v, wHere (tS T) (tV T) wl 13 4 j, nmAt (D.2.2.1.map (·.1)) (tV T j4_w), nmAt D.2.2.2.1 (tV T j7_w))], D.2.2.2.2.2) h10 := (rf8.ro f9_w).fp f10
        exact ⟨T, j7_w + 1, f10.tca t9, fun f h11 e11_w f11_w e6_w => q1_w f h11 (by simp only [ew, e, e3_w, e4_w, e6t, e7_w, e9t, e11_w, eB]) ((g9.tr f10.fl).tr f11_w.fl) e6_w, fun j11_w h11 e11_w f11_w t11 => q2_w _ j11_w h11 (by simp only [ew, e, e3_w, e4_w, e6t, e7_w, e9t, e11_w, eB]) ((g9.tr f10.fl).tr f11_w.fl) (f11_w.2.trans ((f10 1 6 (by omega)).trans (f9_w.2.trans (f8_w.2.trans (f7_w.2.trans (f6_w.2.trans (f5_w.2.trans (f4_w.2.trans ((f3_w 1 6 (by omega)).trans (f2_w.2.trans (f1_w 1 6 (by omega)))))))))))) (cd10.ro f11_w) (rf10.ro f11_w) t11⟩
  · exact hQ.elim
theorem snd_15 {xs : Nat → Int} {L K : Nat} : ∀ n, SndC CS15 (evF xs L g_ck K g_cW g_M n) := snd_all snd_14 (fun f av h Q hQ => by
  unfold CS15 at hQ
  split at hQ
  · exact Or.inr m_122
  · exact Or.inr m_123
  · exact Or.inr m_124
  · exact Or.inr m_125
  · exact Or.inr m_126
  · exact Or.inl hQ)
end
section
/-! ===== contracts: the class's law_w, how strongly a sign binds ===== -/
def rkn (t : Int) : Int := if t = -6 ∨ t = -7 then 1 else if t = -8 ∨ t = -9 then 2 else if t = -10 ∨ t = -11 then 3 else if t = -12 then 4 else if t = -5 then 5 else 0
def k84 : KT := fun av h Q => match av with
  | [t] => Q 1 [rkn t] h
  | _ => False
theorem kk_84 {t : Int} {h : XH} {Q : Nat → List Int → XH → Prop} : k84 [t] h Q = Q 1 [rkn t] h := id rfl
def CS16 : CSt := fun f => match f with
  | 84 => k84
  | _ => CS15 f
theorem cs16_84 {av : List Int} {h : XH} {Q : Nat → List Int → XH → Prop} : CS16 84 av h Q = k84 av h Q := id rfl
theorem m_84 : BodyOK CS16 CS16 84 := fun av h Q hQ => by
  rw [cs16_84] at hQ
  unfold k84 at hQ
  split at hQ
  · rename_i t
    unfold rkn at hQ
    show pS CS16 bb_84 [t] h _
    unfold bb_84
    simp only [qe_1, qe_3, qe_4, qe_5, qe_7, qe_72, qe_10, qe_102, qe_13, qe_14, qe_15, qe_16, qe_17, qe_18, qe_20, qe_22, qe_23, qe_21, qe_24, qe_25, qe_26, qe_27, qe_28, qe_30, qe_31, qe_32, qc_20, qc_22, qc_23, qc_21, qc_24, qc_25, qc_26, qc_27, qc_1, qc_3, qc_4, qc_7, qc_13, qc_28, qc_32, qs_1, qs_2, qs_3, qs_4, qs_5, qs_6, qs_9, qs_10, qs_11, qs_14, qs_15, qs_16, qs_27, qs_17, qs_18, qs_19, qs_20, qs_22, qs_23, qs_28, qs_25, qs_26, qs_7, qs_8, kc_1, kn_1, kc_2, kn_2, kc_3, kn_3, kc_4, kn_4, kc_5, kn_5, kc_6, kn_6, kc_7, kn_7, kc_8, kn_8, kc_9, kn_9, kc_10, kn_10, kc_11, kn_11, kc_12, kn_12, kc_13, kn_13, kc_14, kn_14, kc_15, kn_15, kc_16, kc_17, kc_18, kc_19, kc_20, kc_21, kc_22, kc_23, kc_30, kc_32, kc_40, kc_43, kc_45, kc_48, kc_52, kc_56, kc_57, kc_59, kc_60, kc_61, kc_63, kc_64, kc_72, kc_78, kc_97, kc_99, kc_122, kc_126, kc_128, kc_192, kc_200, kc_255, kc_999, kc_1000, kc_9999, kn_9999, kc_10000, kc_12345, kc_65536, kc_252645135, kc_858993459, kc_1103515245, kc_1431655765, kc_2147483647, kc_0, kc_24, kc_28, kc_37, kc_41, kc_42, kc_73, kc_91, kc_95, kc_96, kc_98, kc_100, kc_112, kc_125, kc_150, kc_162, kc_163, kc_168, kc_186, kc_190, kc_250, kc_355, kc_356, kc_404, kc_405, kc_429, kc_573, kc_1002, kc_1100, kc_1891, kc_2200, kc_4719, kc_4869, kc_4881, kc_5148, kc_19741, kc_25433, kc_320403, kc_628412, kc_629093, kc_660401, kc_679843, kc_918640, kc_979410, kc_1178088, kc_6232410, kc_24644941, kc_36238189, kc_38270444, kc_392531318, kc_425693491, kc_1342154595, kc_2147483648, kc_42328242873, kc_891704255789, kc_1722105685577, kc_1858726030364, ct_0, ct_1, ct_2, ct_3, ct_4, ct_5, cf_0, cf_1, cf_2, cf_3, cf_4, cf_5, w_ty6, w_ty7, m_sv, m_z0, m_hd, m_g0, m_gs, m_s0, m_ss, m_ap, m_an, forall_const, true_and, and_true, ne_eq, not_true_eq_false, not_false_eq_true, false_implies, true_implies, implies_true, eq_self, reduceCtorEq, Nat.reduceDiv, Nat.reduceMod, Int.reduceToNat, or_true, true_or, or_false, false_or, or_self, m_it, m_if, m_c1, m_01, m_02, m_03, m_04, m_10, m_12, m_13, m_14, m_20, m_21, m_23, m_24, m_30, m_31, m_32, m_34, m_40, m_41, m_42, m_43, Int.reduceLE, Int.reduceLT, Int.reduceGE, Int.reduceGT, Int.reduceNeg, Int.reduceAdd, Int.reduceSub, Int.reduceMul, Int.reduceEq, Int.reduceNe, Nat.reduceAdd, jun2, ro_0_0, ro_0_1, ro_0_2, ro_0_3, ro_0_4, ro_0_5, ro_0_6, ro_0_7, ro_0_8, ro_0_9, ro_0_10, ro_0_11, ro_0_12, ro_1_0, ro_1_1, ro_2_0, ro_4_0, ro_6_0, ro_6_1, ro_6_2, ro_6_3, ro_6_4, ro_6_5, ro_6_6, ro_6_7, ro_6_8, ro_8_0, ro_10_0, ro_12_0, ro_14_0, ro_16_0, ro_18_0, ro_20_0, ro_22_0, ro_22_1, ro_22_2, ro_23_0, ro_25_0, ro_27_0, ro_29_0, ro_29_1, ro_29_2, ro_29_3, ro_29_4, ro_29_5, ro_29_6, ro_29_7, ro_29_8, ro_31_0, ro_33_0, ro_35_0, ro_37_0, ro_39_0, ro_41_0, ro_43_0, ro_45_0, ro_45_1, ro_45_2, ro_46_0, ro_48_0, ro_50_0, ro_52_0, ro_52_1, ro_52_2, ro_52_3, ro_53_0, ro_55_0, ro_57_0, ro_59_0, ro_61_0, ro_61_1, ro_61_2, ro_61_3, ro_62_0, ro_64_0, ro_66_0, ro_68_0, ro_70_0, ro_70_1, ro_70_2, ro_70_3, ro_70_4, ro_70_5, ro_70_6, ro_70_7, ro_70_8, ro_70_9, ro_71_0, ro_73_0, ro_75_0, ro_77_0, ro_79_0, ro_81_0, ro_83_0, ro_85_0, ro_87_0, ro_89_0, ro_91_0, ro_91_1, ro_91_2, ro_91_3, ro_91_4, ro_91_5, ro_91_6, ro_91_7, ro_91_8, ro_91_9, ro_92_0, ro_94_0, ro_96_0, ro_98_0, ro_100_0, ro_102_0, ro_104_0, ro_106_0, ro_108_0, ro_110_0, ro_112_0, ro_112_1, ro_112_2, ro_112_3, ro_112_4, ro_112_5, ro_112_6, ro_112_7, ro_112_8, ro_112_9, ro_113_0, ro_115_0, ro_117_0, ro_119_0, ro_121_0, ro_123_0, ro_125_0, ro_127_0, ro_129_0, ro_131_0, ro_133_0, ro_133_1, ro_133_2, ro_133_3, ro_133_4, ro_133_5, ro_133_6, ro_133_7, ro_133_8, ro_133_9, ro_134_0, ro_136_0, ro_138_0, ro_140_0, ro_142_0, ro_144_0, ro_146_0, ro_148_0, ro_150_0, ro_152_0, ro_154_0, ro_155_0, ro_157_0, ro_157_1, ro_157_2, ro_157_3, ro_157_4, ro_157_5, ro_157_6, ro_157_7, ro_157_8, ro_157_9, ro_158_0, ro_160_0, ro_162_0, ro_164_0, ro_166_0, ro_168_0, ro_170_0, ro_172_0, ro_174_0, ro_176_0, ro_178_0, ro_180_0, ro_182_1, ro_182_4, ro_182_5, ro_182_6, ro_182_9, ro_182_10, ro_182_11, ro_182_13, ro_182_14, ro_182_15, ro_182_16, ro_182_17, ro_182_20, ro_182_21, ro_182_22, ro_182_23, ro_182_24, ro_182_26, ro_182_27, ro_182_28, lo_3, lo_5, lo_7, lo_9, lo_11, lo_13, lo_15, lo_17, lo_19, lo_21, lo_24, lo_26, lo_28, lo_30, lo_32, lo_34, lo_36, lo_38, lo_40, lo_42, lo_44, lo_47, lo_49, lo_51, lo_54, lo_56, lo_58, lo_60, lo_63, lo_65, lo_67, lo_69, lo_72, lo_74, lo_76, lo_78, lo_80, lo_82, lo_84, lo_86, lo_88, lo_90, lo_93, lo_95, lo_97, lo_99, lo_101, lo_103, lo_105, lo_107, lo_109, lo_111, lo_114, lo_116, lo_118, lo_120, lo_122, lo_124, lo_126, lo_128, lo_130, lo_132, lo_135, lo_137, lo_139, lo_141, lo_143, lo_145, lo_147, lo_149, lo_151, lo_153, lo_156, lo_159, lo_161, lo_163, lo_165, lo_167, lo_169, lo_171, lo_173, lo_175, lo_177, lo_179, lo_181, lo_183, lo_184, lo_185, lo_186, lo_187, lo_188, lo_189, lo_190, lo_191, lo_192, lo_193, lo_194, lo_195, lo_196, lo_197, lo_198, lo_199, lo_200, lo_201, lo_202, lo_203, jp_nn, jp_eq, jp_e1, Classical.not_not, ji0, ji1, ji2, jl_0, jl_1, jl_2, jl_3, jl_4, jl_5, jl_6, jl_7, jl_8, jl_9, jl_10, jl_11, jl_12, jl_13, jl_14, jl_15, jl_16, jl_17, jl_18, jl_19, jl_20, jl_21, jl_22, jl_23, jl_24, jl_25, jl_26, jl_27, jl_28, jl_29, jl_30, jl_31, jl_32, jl_33, jl_34, jl_35, jl_36, jl_37, jl_38, jl_39, jl_40, jl_95, jl_96, jl_97, jl_98, jl_99, jl_100, jl_101, jl_102, jl_103, jl_104, jl_105, jl_106, jl_107, jl_108, jl_109, jl_110, jl_111, jl_112, jl_113, jl_114, jl_186, jl_1100, jr, ju, jpT, jpF, tnc, Nat.reduceEqDiff, reduceIte, and_false, false_and, not_true_eq_false, not_false_eq_true, or_false, gt_iff_lt, ge_iff_le, Int.lt_irrefl, Int.le_refl]
    have two : ∀ a b : Int, ((decide (t = a) || (decide (t = b) || false)) = true) = (t = a ∨ t = b) := fun a b => by simp
    have one : ∀ a : Int, ((decide (t = a) || false) = true) = (t = a) := fun a => by simp
    have nt : ∀ b : Bool, (b = false) = ¬ (b = true) := fun b => by cases b <;> simp
    simp only [nt]
    show ((decide (t = -6) || (decide (t = -7) || false)) = true → Q 1 [1] h) ∧ (¬ (decide (t = -6) || (decide (t = -7) || false)) = true → ((decide (t = -8) || (decide (t = -9) || false)) = true → Q 1 [2] h) ∧ (¬ (decide (t = -8) || (decide (t = -9) || false)) = true → ((decide (t = -10) || (decide (t = -11) || false)) = true → Q 1 [3] h) ∧ (¬ (decide (t = -10) || (decide (t = -11) || false)) = true → ((decide (t = -12) || false) = true → Q 1 [4] h) ∧ (¬ (decide (t = -12) || false) = true → ((decide (t = -5) || false) = true → Q 1 [5] h) ∧ (¬ (decide (t = -5) || false) = true → Q 1 [0] h)))))
    rw [two, two, two, one, one]
    refine ⟨fun z => ?_, fun z => ⟨fun z2 => ?_, fun z2 => ⟨fun z3 => ?_, fun z3 => ⟨fun z4 => ?_, fun z4 => ⟨fun z5 => ?_, fun z5 => ?_⟩⟩⟩⟩⟩
    · rw [if_pos z] at hQ; exact hQ
    · rw [if_neg z, if_pos z2] at hQ; exact hQ
    · rw [if_neg z, if_neg z2, if_pos z3] at hQ; exact hQ
    · rw [if_neg z, if_neg z2, if_neg z3, if_pos z4] at hQ; exact hQ
    · rw [if_neg z, if_neg z2, if_neg z3, if_neg z4, if_pos z5] at hQ; exact hQ
    · rw [if_neg z, if_neg z2, if_neg z3, if_neg z4, if_neg z5] at hQ; exact hQ
  · exact hQ.elim
theorem snd_16 {xs : Nat → Int} {L K : Nat} : ∀ n, SndC CS16 (evF xs L g_ck K g_cW g_M n) := snd_all snd_15 (fun f av h Q hQ => by
  unfold CS16 at hQ
  split at hQ
  · exact Or.inr m_84
  · exact Or.inl hQ)
end
section
/-! ===== the law_w as_w a machine_w: what waits is_w what the reference_w has_w still_w to do ===== -/
def rkk (t : Int) : Nat := if t = -6 ∨ t = -7 then 1 else if t = -8 ∨ t = -9 then 2 else if t = -10 ∨ t = -11 then 3 else if t = -12 then 4 else if t = -5 then 5 else 0
/-- the reference's code of one that waits -/
def cdt (t : Int) : Int := if t = -12 then 6 else if t = -10 then 4 else if t = -11 then 5 else if t = -8 then 7 else if t = -9 then 8 else if t = -6 then 9 else if t = -7 then 10 else 3
def dpw : List Int → Nat
  | [] => 0
  | w :: l => (if w = -5 ∨ w = -13 then 1 else 0) + dpw l
def hrw : List Int → Nat
  | [] => 0
  | w :: _ => rkk w
/-- how those that wait may_w lie, the last_w one first -/
def shp : List Int → Prop
  | [] => True
  | w :: l => shp l ∧ (w = -13 ∨ w = -5 ∨ (1 ≤ rkk w ∧ rkk w ≤ 4 ∧ hrw l < rkk w))
abbrev LZ : Type := XZ (List Int × Nat)
def Prg (N : Nat) (f : Nat → LZ) : Prop := ∀ i c j, i ≤ N → f i = .ok (c, j) → i < j ∧ j ≤ N
section SLP
variable {N : Nat} {sub : Nat → LZ} {op_w : Nat → Option Int}
theorem eB_cg {α β : Type} {x : XZ α} {f g : α → XZ β} (h : ∀ a, x = .ok a → f a = g a) : eB x f = eB x g := by
  cases x with
  | error e => rfl
  | ok a => exact h a rfl
theorem sLoop_prg (hs : Prg N sub) (ho : ∀ i, i ≤ N → op_w i ≠ none → i < N) : ∀ (k : Nat) (c : List Int) (i : Nat) (c' : List Int) (j : Nat), i ≤ N → sLoop sub op_w k c i = .ok (c', j) → i ≤ j ∧ j ≤ N
  | 0, c, i, c', j, hi_w, e => by
    cases e
    exact ⟨Nat.le_refl _, hi_w⟩
  | k + 1, c, i, c', j, hi_w, e => by
    rw [sLoop] at e
    split at e
    · cases e
      exact ⟨Nat.le_refl _, hi_w⟩
    · rename_i o eo
      obtain ⟨⟨r, m⟩, e1_w, e2_w⟩ := eB_ok e
      have z := hs (i + 1) r m (ho i hi_w (by rw [eo]; exact fun y => by cases y)) e1_w
      have z2 := sLoop_prg hs ho k _ _ _ _ z.2 e2_w
      omega
theorem sLoop_fu (hs : Prg N sub) (ho : ∀ i, i ≤ N → op_w i ≠ none → i < N) : ∀ (k k' : Nat) (c : List Int) (i : Nat), i ≤ N → N ≤ i + k → N ≤ i + k' → sLoop sub op_w k c i = sLoop sub op_w k' c i
  | 0, 0, _, _, _, _, _ => rfl
  | 0, k' + 1, c, i, hi_w, h1, _ => by
    rw [sLoop, sLoop]
    split
    · rfl
    · rename_i o eo
      have := ho i hi_w (by rw [eo]; exact fun y => by cases y)
      omega
  | k + 1, 0, c, i, hi_w, _, h2 => by
    rw [sLoop, sLoop]
    split
    · rfl
    · rename_i o eo
      have := ho i hi_w (by rw [eo]; exact fun y => by cases y)
      omega
  | k + 1, k' + 1, c, i, hi_w, h1, h2 => by
    rw [sLoop, sLoop]
    split
    · rfl
    · rename_i o eo
      refine eB_cg fun a ea => ?_
      have z := hs (i + 1) a.1 a.2 (ho i hi_w (by rw [eo]; exact fun y => by cases y)) ea
      exact sLoop_fu hs ho k k' _ _ z.2 (by omega) (by omega)
/-- one turn_w of it, the fuel aside -/
theorem sLoop_st (hs : Prg N sub) (ho : ∀ i, i ≤ N → op_w i ≠ none → i < N) {c : List Int} {i : Nat} (hi_w : i ≤ N) (hf : N ≤ i + 1102) {o : Int} (eo : op_w i = some o) : sLoop sub op_w 1102 c i = eB (sub (i + 1)) fun r => sLoop sub op_w 1102 (c ++ (r.1 ++ [o])) r.2 := by
  rw [sLoop, eo]
  refine eB_cg fun a ea => ?_
  have z := hs (i + 1) a.1 a.2 (ho i hi_w (by rw [eo]; exact fun y => by cases y)) ea
  exact sLoop_fu hs ho 1101 1102 _ _ z.2 (by omega) (by omega)
theorem sLoop_no {c : List Int} {i : Nat} (eo : op_w i = none) : sLoop sub op_w 1102 c i = .ok (c, i) := by
  rw [sLoop, eo]
theorem sLoop_pf {p : List Int} : ∀ (k : Nat) (c : List Int) (i : Nat), sLoop sub op_w k (p ++ c) i = eB (sLoop sub op_w k c i) fun r => .ok (p ++ r.1, r.2)
  | 0, _, _ => rfl
  | k + 1, c, i => by
    rw [sLoop, sLoop]
    split
    · rfl
    · rw [eB_as]
      refine eB_cg fun a _ => ?_
      rw [List.append_assoc, sLoop_pf k]
end SLP
section LAWM
variable (S P V W : Nat → Int)
/-- a sign behind_w a part, as_w the class has_w it -/
def jt (i : Nat) : Int := if sSn S V 60 i then -8 else if sSn S V 61 i then -9 else if sSn S V 43 i then -10 else if sSn S V 45 i then -11 else if sSn S V 42 i then -12 else if sSn S V 41 i then -14 else if sWd S V W 18 i then -6 else if sWd S V W 19 i then -7 else -15
def opS (s i : Nat) : Option Int := if s = 1 then opT S V i else if s = 2 then opA S V i else if s = 3 then opC S V i else opL S V W i
def stC (x : Option Int) (y : LZ) (O : List Int) (i : Nat) : LZ := match x with
  | none => .ok (O, i)
  | some o => eB y fun q => .ok (O ++ (q.1 ++ [o]), q.2)
def stg (part : Nat → LZ) (s : Nat) (O : List Int) (i : Nat) : LZ := if s = 1 then sLoop part (opT S V) 1102 O i else if s = 2 then sLoop (sProd S V part) (opA S V) 1102 O i else if s = 3 then stC (opC S V i) (sSums S V part (i + 1)) O i else sLoop (sTest S V part) (opL S V W) 1102 O i
def csc (part : Nat → LZ) : Nat → Nat → List Int → Nat → LZ
  | _, 0, O, i => .ok (O, i)
  | s, n + 1, O, i => eB (stg S V W part s O i) fun r => csc part (s + 1) n r.1 r.2
def ptd (d : Nat) : Nat → LZ := (sD S P V W (5 - d)).2
/-- what the reference_w answers_w, where a part has_w ended_w and these wait -/
def den : List Int → Nat → List Int → Nat → LZ
  | [], s, O, i => csc S V W (ptd S P V W 0) s (5 - s) O i
  | w :: l, s, O, i => if w = -5 then den l 1 (O ++ [3]) i
    else if w = -13 then eB (csc S V W (ptd S P V W (dpw l + 1)) s (5 - s) O i) fun r => eB (sSgn S P V 41 r.2) fun j => den l 1 r.1 j
    else eB (csc S V W (ptd S P V W (dpw l)) s (5 - rkk w - s) O i) fun r => den l (if rkk w = 2 then 4 else 5 - rkk w) (r.1 ++ [cdt w]) r.2
/-- where a part is_w due -/
def denT (l : List Int) (O : List Int) (i : Nat) : LZ := eB (ptd S P V W (dpw l) i) fun r => den S P V W l 1 (O ++ r.1) r.2
end LAWM
section LAWP
variable {S P V W : Nat → Int} {N i s : Nat} {O : List Int} {l : List Int} {part : Nat → LZ}
theorem opS_jt (h1 : 1 ≤ s) (h4 : s ≤ 4) : opS S V W s i = if rkk (jt S V W i) = 5 - s then some (cdt (jt S V W i)) else none := by
  have hs : s = 1 ∨ s = 2 ∨ s = 3 ∨ s = 4 := by omega
  unfold jt
  by_cases a3 : S i = 3
  · have a1_w : ¬ sWd S V W 18 i := fun z => by have := z.1; omega
    have a2 : ¬ sWd S V W 19 i := fun z => by have := z.1; omega
    rw [if_neg a1_w, if_neg a2]
    by_cases b1 : V i = 60
    · rcases hs with rfl | rfl | rfl | rfl <;> simp [opS, opT, opA, opC, opL, a1_w, a2, a3, b1, rkk, cdt, sSn]
    · by_cases b2 : V i = 61
      · rcases hs with rfl | rfl | rfl | rfl <;> simp [opS, opT, opA, opC, opL, a1_w, a2, a3, b2, rkk, cdt, sSn]
      · by_cases b3 : V i = 43
        · rcases hs with rfl | rfl | rfl | rfl <;> simp [opS, opT, opA, opC, opL, a1_w, a2, a3, b3, rkk, cdt, sSn]
        · by_cases b4 : V i = 45
          · rcases hs with rfl | rfl | rfl | rfl <;> simp [opS, opT, opA, opC, opL, a1_w, a2, a3, b4, rkk, cdt, sSn]
          · by_cases b5 : V i = 42
            · rcases hs with rfl | rfl | rfl | rfl <;> simp [opS, opT, opA, opC, opL, a1_w, a2, a3, b5, rkk, cdt, sSn]
            · by_cases b6 : V i = 41
              · rcases hs with rfl | rfl | rfl | rfl <;> simp [opS, opT, opA, opC, opL, a1_w, a2, a3, b6, rkk, cdt, sSn]
              · rcases hs with rfl | rfl | rfl | rfl <;> simp [opS, opT, opA, opC, opL, a1_w, a2, a3, b1, b2, b3, b4, b5, b6, rkk, cdt, sSn]
  · have ns : ∀ c, ¬ sSn S V c i := fun c z => a3 z.1
    rw [if_neg (ns _), if_neg (ns _), if_neg (ns _), if_neg (ns _), if_neg (ns _), if_neg (ns _)]
    by_cases c1_w : sWd S V W 18 i
    · rw [if_pos c1_w]
      rcases hs with rfl | rfl | rfl | rfl
      · simp [opS, opT, ns, rkk]
      · simp [opS, opA, ns, rkk]
      · simp [opS, opC, ns, rkk]
      · exact if_pos c1_w
    · rw [if_neg c1_w]
      by_cases c2 : sWd S V W 19 i
      · rw [if_pos c2]
        rcases hs with rfl | rfl | rfl | rfl
        · simp [opS, opT, ns, rkk]
        · simp [opS, opA, ns, rkk]
        · simp [opS, opC, ns, rkk]
        · exact (if_neg c1_w).trans (if_pos c2)
      · rw [if_neg c2]
        rcases hs with rfl | rfl | rfl | rfl
        · simp [opS, opT, ns, rkk]
        · simp [opS, opA, ns, rkk]
        · simp [opS, opC, ns, rkk]
        · exact (if_neg c1_w).trans (if_neg c2)
theorem opS_lt (h0 : S N = 0) (hi_w : i ≤ N) (h : opS S V W s i ≠ none) : i < N := by
  rcases Nat.lt_or_eq_of_le hi_w with z | rfl
  · exact z
  · refine absurd ?_ h
    have ns : ∀ c, ¬ sSn S V c i := fun c z => by have := z.1; omega
    have nw : ∀ c, ¬ sWd S V W c i := fun c z => by have := z.1; omega
    unfold opS opT opA opC opL
    simp [ns, nw]
theorem opT_lt (h0 : S N = 0) : ∀ i, i ≤ N → opT S V i ≠ none → i < N := fun i hi_w h => opS_lt (s := 1) (W := V) h0 hi_w h
theorem opA_lt (h0 : S N = 0) : ∀ i, i ≤ N → opA S V i ≠ none → i < N := fun i hi_w h => opS_lt (s := 2) (W := V) h0 hi_w h
theorem opC_lt (h0 : S N = 0) : ∀ i, i ≤ N → opC S V i ≠ none → i < N := fun i hi_w h => opS_lt (s := 3) (W := V) h0 hi_w h
theorem opL_lt (h0 : S N = 0) : ∀ i, i ≤ N → opL S V W i ≠ none → i < N := fun i hi_w h => opS_lt (s := 4) (W := W) h0 hi_w h
theorem prod_prg (h0 : S N = 0) (hp : Prg N part) : Prg N (sProd S V part) := fun i c j hi_w e => by
  obtain ⟨⟨r, m⟩, e1_w, e2_w⟩ := eB_ok e
  have z := hp i r m hi_w e1_w
  have z2 := sLoop_prg hp (opT_lt h0) _ _ _ _ _ z.2 e2_w
  omega
theorem sums_prg (h0 : S N = 0) (hp : Prg N part) : Prg N (sSums S V part) := fun i c j hi_w e => by
  obtain ⟨⟨r, m⟩, e1_w, e2_w⟩ := eB_ok e
  have z := prod_prg h0 hp i r m hi_w e1_w
  have z2 := sLoop_prg (prod_prg h0 hp) (opA_lt h0) _ _ _ _ _ z.2 e2_w
  omega
theorem test_prg (h0 : S N = 0) (hp : Prg N part) : Prg N (sTest S V part) := fun i c j hi_w e => by
  obtain ⟨⟨r, m⟩, e1_w, e2_w⟩ := eB_ok e
  have z := sums_prg h0 hp i r m hi_w e1_w
  dsimp only at e2_w
  split at e2_w
  · cases e2_w
    exact z
  · rename_i o eo
    obtain ⟨⟨q, m2_w⟩, e3_w, e4_w⟩ := eB_ok e2_w
    cases e4_w
    have z2 := sums_prg h0 hp (m + 1) q m2_w (opC_lt h0 m z.2 (by rw [eo]; exact fun y => by cases y)) e3_w
    omega
theorem all_prg (h0 : S N = 0) (hp : Prg N part) : Prg N (sAll S V W part) := fun i c j hi_w e => by
  obtain ⟨⟨r, m⟩, e1_w, e2_w⟩ := eB_ok e
  have z := test_prg h0 hp i r m hi_w e1_w
  have z2 := sLoop_prg (test_prg h0 hp) (opL_lt h0) _ _ _ _ _ z.2 e2_w
  omega
theorem sD_all : ∀ k, (sD S P V W k).1 = sAll S V W (sD S P V W k).2
  | 0 => rfl
  | _ + 1 => rfl
theorem isPt_lt (h0 : S N = 0) (hi_w : i ≤ N) (h : isPt S V W i) : i < N := by
  rcases Nat.lt_or_eq_of_le hi_w with z | rfl
  · exact z
  · exfalso
    rcases h with z | z | z | z
    · omega
    · unfold fct wHere at z
      have nw : ∀ k, decide (sWd S V W (20 + k) i) = false := fun k => decide_eq_false (fun z => by have := z.1; omega)
      have : lst (fun k => decide (sWd S V W (20 + k) i)) 4 = -1 := by
        simp only [lst, nw]
        rfl
      omega
    · have := z.1; omega
    · have := z.1; omega
theorem sD_prg (h0 : S N = 0) : ∀ k, Prg N (sD S P V W k).2
  | 0 => fun i c j hi_w e => by
    have e' : sPart0 S P V W i = .ok (c, j) := e
    unfold sPart0 at e'
    split at e' <;> cases e'
  | k + 1 => fun i c j hi_w e => by
    have e' : sPart S P V W (sD S P V W k).1 (sD S P V W k).2 i = .ok (c, j) := e
    unfold sPart at e'
    split at e'
    · cases e'
    · rename_i ip
      have ip' : i < N := isPt_lt h0 hi_w (Decidable.not_not.mp ip)
      split at e'
      · obtain ⟨⟨r, m⟩, e1_w, e2_w⟩ := eB_ok e'
        cases e2_w
        have z := sD_prg h0 k (i + 1) r m ip' e1_w
        show i < m ∧ m ≤ N
        omega
      · split at e'
        · obtain ⟨⟨r, m⟩, e1_w, e2_w⟩ := eB_ok e'
          obtain ⟨m2_w, e3_w, e4_w⟩ := eB_ok e2_w
          cases e4_w
          rw [sD_all] at e1_w
          have z := all_prg h0 (sD_prg h0 k) (i + 1) r m ip' e1_w
          unfold sSgn at e3_w
          split at e3_w
          · rename_i y
            cases e3_w
            have : m < N := by
              rcases Nat.lt_or_eq_of_le z.2 with z3 | rfl
              · exact z3
              · have y3 : S m = 3 := y.1
                omega
            omega
          · cases e3_w
        · cases e'
          omega
/-- what is_w taken_w behind_w a part, one stage_w after_w the other_w -/
theorem stg_op (h1 : 1 ≤ s) (h4 : s ≤ 4) (h : opS S V W s i = none) : stg S V W part s O i = .ok (O, i) := by
  have hs : s = 1 ∨ s = 2 ∨ s = 3 ∨ s = 4 := by omega
  rcases hs with rfl | rfl | rfl | rfl
  · exact sLoop_no (op_w := opT S V) h
  · exact sLoop_no (op_w := opA S V) h
  · have h' : opC S V i = none := h
    show stC (opC S V i) _ O i = _
    rw [h']
    rfl
  · exact sLoop_no (op_w := opL S V W) h
theorem stg_pf {p : List Int} (h1 : 1 ≤ s) (h4 : s ≤ 4) : stg S V W part s (p ++ O) i = eB (stg S V W part s O i) fun r => .ok (p ++ r.1, r.2) := by
  have hs : s = 1 ∨ s = 2 ∨ s = 3 ∨ s = 4 := by omega
  rcases hs with rfl | rfl | rfl | rfl
  · exact sLoop_pf 1102 O i
  · exact sLoop_pf 1102 O i
  · show stC (opC S V i) (sSums S V part (i + 1)) (p ++ O) i = eB (stC (opC S V i) (sSums S V part (i + 1)) O i) fun r => .ok (p ++ r.1, r.2)
    cases opC S V i with
    | none => rfl
    | some o =>
      unfold stC
      rw [eB_as]
      refine eB_cg fun a _ => ?_
      show (.ok (p ++ O ++ (a.1 ++ [o]), a.2) : LZ) = .ok (p ++ (O ++ (a.1 ++ [o])), a.2)
      rw [List.append_assoc]
  · exact sLoop_pf 1102 O i
theorem csc_pf {p : List Int} : ∀ (n s : Nat) (O : List Int) (i : Nat), 1 ≤ s → s + n ≤ 5 → csc S V W part s n (p ++ O) i = eB (csc S V W part s n O i) fun r => .ok (p ++ r.1, r.2)
  | 0, _, _, _, _, _ => rfl
  | n + 1, s, O, i, h1, h5 => by
    rw [csc, csc, stg_pf h1 (by omega), eB_as, eB_as]
    refine eB_cg fun a _ => ?_
    exact csc_pf n (s + 1) a.1 a.2 (by omega) (by omega)
theorem csc_no : ∀ (n s : Nat), 1 ≤ s → s + n ≤ 5 → (∀ q, s ≤ q → q < s + n → opS S V W q i = none) → csc S V W part s n O i = .ok (O, i)
  | 0, _, _, _, _ => rfl
  | n + 1, s, h1, h5, h => by
    rw [csc, stg_op h1 (by omega) (h s (Nat.le_refl _) (by omega))]
    exact csc_no n (s + 1) (by omega) (by omega) (fun q z1 z2 => h q (by omega) (by omega))
/-- what is_w joined at a stage_w -/
def sbs (S V : Nat → Int) (part : Nat → LZ) (s : Nat) : Nat → LZ := if s = 1 then part else if s = 2 then sProd S V part else if s = 3 then sSums S V part else sTest S V part
theorem eB_id {α : Type} {x : XZ α} : eB x (fun a => .ok a) = x := by
  cases x with
  | error e => rfl
  | ok a => rfl
theorem sbs_csc (h1 : 1 ≤ s) (h4 : s ≤ 4) : sbs S V part s i = eB (part i) fun r => csc S V W part 1 (s - 1) r.1 r.2 := by
  have hs : s = 1 ∨ s = 2 ∨ s = 3 ∨ s = 4 := by omega
  rcases hs with rfl | rfl | rfl | rfl
  · exact (eB_id (x := part i)).symm
  · refine eB_cg fun a _ => ?_
    exact (eB_id (x := sLoop part (opT S V) 1102 a.1 a.2)).symm
  · show eB (sProd S V part i) _ = _
    unfold sProd
    rw [eB_as]
    refine eB_cg fun a _ => ?_
    show eB (sLoop part (opT S V) 1102 a.1 a.2) _ = eB (sLoop part (opT S V) 1102 a.1 a.2) _
    refine eB_cg fun b _ => ?_
    exact (eB_id (x := sLoop (sProd S V part) (opA S V) 1102 b.1 b.2)).symm
  · show eB (sSums S V part i) _ = _
    unfold sSums
    rw [eB_as]
    unfold sProd
    rw [eB_as]
    refine eB_cg fun a _ => ?_
    show eB (sLoop part (opT S V) 1102 a.1 a.2) _ = eB (sLoop part (opT S V) 1102 a.1 a.2) _
    refine eB_cg fun b _ => ?_
    show eB (sLoop (sProd S V part) (opA S V) 1102 b.1 b.2) _ = eB (sLoop (sProd S V part) (opA S V) 1102 b.1 b.2) _
    refine eB_cg fun c _ => ?_
    refine Eq.trans ?_ (eB_id (x := stC (opC S V c.2) (sSums S V part (c.2 + 1)) c.1 c.2)).symm
    cases opC S V c.2 with
    | none => rfl
    | some o => rfl
theorem all_csc : sAll S V W part i = eB (part i) fun r => csc S V W part 1 4 r.1 r.2 := by
  show eB (sTest S V part i) _ = _
  have e : sTest S V part i = eB (part i) fun r => csc S V W part 1 3 r.1 r.2 := sbs_csc (s := 4) (by decide) (by decide)
  rw [e, eB_as]
  refine eB_cg fun a _ => ?_
  show eB (eB (stg S V W part 1 a.1 a.2) _) _ = eB (stg S V W part 1 a.1 a.2) _
  rw [eB_as]
  refine eB_cg fun b _ => ?_
  show eB (eB (stg S V W part 2 b.1 b.2) _) _ = eB (stg S V W part 2 b.1 b.2) _
  rw [eB_as]
  refine eB_cg fun c _ => ?_
  show eB (eB (stg S V W part 3 c.1 c.2) _) _ = eB (stg S V W part 3 c.1 c.2) _
  rw [eB_as]
  refine eB_cg fun d _ => ?_
  exact (eB_id (x := sLoop (sTest S V part) (opL S V W) 1102 d.1 d.2)).symm
/-- a stage_w at its sign -/
theorem stg_some (h0 : S N = 0) (hp : Prg N part) (h1 : 1 ≤ s) (h4 : s ≤ 4) (hi_w : i ≤ N) (hf : N ≤ i + 1102) {o : Int} (h : opS S V W s i = some o) : stg S V W part s O i = eB (sbs S V part s (i + 1)) fun (r : List Int × Nat) => if s = 3 then (.ok (O ++ (r.1 ++ [o]), r.2) : LZ) else stg S V W part s (O ++ (r.1 ++ [o])) r.2 := by
  have hs : s = 1 ∨ s = 2 ∨ s = 3 ∨ s = 4 := by omega
  rcases hs with rfl | rfl | rfl | rfl
  · exact sLoop_st hp (opT_lt h0) hi_w hf h
  · exact sLoop_st (prod_prg h0 hp) (opA_lt h0) hi_w hf h
  · have h' : opC S V i = some o := h
    show stC (opC S V i) _ O i = _
    rw [h']
    rfl
  · exact sLoop_st (test_prg h0 hp) (opL_lt h0) hi_w hf h
theorem rkk_nt {w : Int} (h : rkk w ≤ 4) : w ≠ -5 := fun z => by rw [z] at h; exact absurd h (by decide)
theorem rkk_op {w : Int} (h : 1 ≤ rkk w) : w ≠ -13 := fun z => by rw [z] at h; exact absurd h (by decide)
/-- one stage_w, where none waits for_w it -/
theorem den_st (hh : hrw l + s < 5) (hl : shp l) : den S P V W l s O i = eB (stg S V W (ptd S P V W (dpw l)) s O i) fun r => den S P V W l (s + 1) r.1 r.2 := by
  match l, hh, hl with
  | [], hh, _ =>
    show csc S V W (ptd S P V W 0) s (5 - s) O i = eB (stg S V W (ptd S P V W 0) s O i) fun (r : List Int × Nat) => csc S V W (ptd S P V W 0) (s + 1) (5 - (s + 1)) r.1 r.2
    rw [show 5 - s = (5 - (s + 1)) + 1 by have : hrw [] = 0 := rfl; omega, csc]
  | w :: l, hh, hl =>
    have hr : hrw (w :: l) = rkk w := rfl
    have n5_w : w ≠ -5 := rkk_nt (by omega)
    by_cases n13 : w = -13
    · have d : dpw (w :: l) = dpw l + 1 := by
        show (if w = -5 ∨ w = -13 then 1 else 0) + dpw l = _
        rw [if_pos (Or.inr n13)]
        omega
      rw [d, den, if_neg n5_w, if_pos n13, show 5 - s = (5 - (s + 1)) + 1 by omega, csc, eB_as]
      refine eB_cg fun a _ => ?_
      rw [den, if_neg n5_w, if_pos n13]
    · have d : dpw (w :: l) = dpw l := by
        show (if w = -5 ∨ w = -13 then 1 else 0) + dpw l = _
        rw [if_neg (by omega)]
        omega
      rw [d, den, if_neg n5_w, if_neg n13, show 5 - rkk w - s = (5 - rkk w - (s + 1)) + 1 by omega, csc, eB_as]
      refine eB_cg fun a _ => ?_
      rw [den, if_neg n5_w, if_neg n13]
theorem den_up : ∀ (n s : Nat), 1 ≤ s → hrw l + s + n ≤ 5 → shp l → (∀ q, s ≤ q → q < s + n → opS S V W q i = none) → den S P V W l s O i = den S P V W l (s + n) O i
  | 0, _, _, _, _, _ => rfl
  | n + 1, s, h1, h5, hl, h => by
    rw [den_st (by omega) hl, stg_op h1 (by omega) (h s (Nat.le_refl _) (by omega)), show s + (n + 1) = (s + 1) + n by omega]
    exact den_up n (s + 1) (by omega) (by omega) hl (fun q z1 z2 => h q (by omega) (by omega))
theorem ops_no {t : Int} (e : jt S V W i = t) (h1 : 1 ≤ s) (h4 : s ≤ 4) (h : rkk t ≠ 5 - s) : opS S V W s i = none := by
  rw [opS_jt h1 h4, e, if_neg h]
/-- one that waits goes_w, where the sign here_w binds no stronger -/
theorem den_rel {w t : Int} (e : jt S V W i = t) (hl : shp (w :: l)) (w1_w : 1 ≤ rkk w) (w4_w : rkk w ≤ 4) (ht : rkk t ≤ rkk w) (h2 : ¬ (rkk w = 2 ∧ rkk t = 2)) : den S P V W (w :: l) 1 O i = den S P V W l 1 (O ++ [cdt w]) i := by
  have hs : shp l := hl.1
  have hw : hrw l < rkk w := by
    rcases hl.2 with z | z | z
    · exact absurd z (rkk_op w1_w)
    · exact absurd z (rkk_nt w4_w)
    · exact z.2.2
  rw [den, if_neg (rkk_nt w4_w), if_neg (rkk_op w1_w), csc_no _ _ (by decide) (by omega) (fun q z1 z2 => ops_no e z1 (by omega) (by omega))]
  show den S P V W l (if rkk w = 2 then 4 else 5 - rkk w) (O ++ [cdt w]) i = _
  by_cases y : rkk w = 2
  · rw [if_pos y]
    exact (den_up 3 1 (by decide) (by omega) hs (fun q z1 z2 => ops_no e z1 (by omega) (by omega))).symm
  · rw [if_neg y]
    have k := den_up (S := S) (P := P) (V := V) (W := W) (O := O ++ [cdt w]) (4 - rkk w) 1 (by decide) (by omega) hs (fun q z1 z2 => ops_no e z1 (by omega) (by omega))
    rw [k, show 1 + (4 - rkk w) = 5 - rkk w by omega]
/-- a sign that joins_w waits -/
theorem den_pu {t : Int} (h0 : S N = 0) (hi_w : i ≤ N) (hf : N ≤ i + 1102) (e : jt S V W i = t) (hl : shp l) (t1_w : 1 ≤ rkk t) (t4_w : rkk t ≤ 4) (hw : hrw l < rkk t) : den S P V W l 1 O i = denT S P V W (t :: l) O (i + 1) := by
  have d : dpw (t :: l) = dpw l := by
    show (if t = -5 ∨ t = -13 then 1 else 0) + dpw l = _
    have a := rkk_nt t4_w
    have b := rkk_op t1_w
    rw [if_neg (by omega)]
    omega
  have hp : Prg N (ptd S P V W (dpw l)) := sD_prg h0 _
  have es : opS S V W (5 - rkk t) i = some (cdt t) := by
    rw [opS_jt (by omega) (by omega), e, if_pos (by omega)]
  have k := den_up (S := S) (P := P) (V := V) (W := W) (O := O) (4 - rkk t) 1 (by decide) (by omega) hl (fun q z1 z2 => ops_no e z1 (by omega) (by omega))
  rw [k, show 1 + (4 - rkk t) = 5 - rkk t by omega, den_st (by omega) hl, stg_some h0 hp (by omega) (by omega) hi_w hf es, sbs_csc (W := W) (by omega) (by omega), eB_as, eB_as]
  unfold denT
  rw [d]
  refine eB_cg fun a _ => ?_
  rw [den, if_neg (rkk_nt t4_w), if_neg (rkk_op t1_w), show 5 - rkk t - 1 = 4 - rkk t by omega, csc_pf _ _ _ _ (by decide) (by omega), eB_as]
  refine eB_cg fun b _ => ?_
  show eB (if 5 - rkk t = 3 then .ok (O ++ (b.1 ++ [cdt t]), b.2) else stg S V W (ptd S P V W (dpw l)) (5 - rkk t) (O ++ (b.1 ++ [cdt t])) b.2) (fun r => den S P V W l (5 - rkk t + 1) r.1 r.2) = den S P V W l (if rkk t = 2 then 4 else 5 - rkk t) (O ++ b.1 ++ [cdt t]) b.2
  rw [List.append_assoc]
  by_cases y : rkk t = 2
  · rw [if_pos (by omega), if_pos y, y]
    rfl
  · rw [if_neg (by omega), if_neg y]
    exact (den_st (by omega) hl).symm
/-- a bracket shuts -/
theorem den_cl (e : jt S V W i = -14) (hl : shp (-13 :: l)) : den S P V W (-13 :: l) 1 O i = den S P V W l 1 O (i + 1) := by
  rw [den, if_neg (by decide), if_pos rfl, csc_no _ _ (by decide) (by decide) (fun q z1 z2 => ops_no e z1 (by omega) (by have : rkk (-14) = 0 := rfl; omega))]
  show eB (sSgn S P V 41 i) _ = _
  have k : sSn S V 41 i := by
    refine Decidable.byContradiction fun n => ?_
    unfold jt at e
    rw [if_neg n] at e
    split at e
    · exact absurd e (by decide)
    · split at e
      · exact absurd e (by decide)
      · split at e
        · exact absurd e (by decide)
        · split at e
          · exact absurd e (by decide)
          · split at e
            · exact absurd e (by decide)
            · split at e
              · exact absurd e (by decide)
              · split at e <;> exact absurd e (by decide)
  unfold sSgn
  rw [if_pos k]
  rfl
theorem jt_cl {t : Int} (e : jt S V W i = t) (h : t ≠ -14) : ¬ sSn S V 41 i := fun z => by
  have a3 := z.1
  have a5 := z.2
  unfold jt at e
  rw [if_neg (fun y => by have := y.2; omega), if_neg (fun y => by have := y.2; omega), if_neg (fun y => by have := y.2; omega), if_neg (fun y => by have := y.2; omega), if_neg (fun y => by have := y.2; omega), if_pos z] at e
  exact h e.symm
/-- no stage_w goes_w on_w here_w -/
theorem den_en {t : Int} (e : jt S V W i = t) (ht : t ≠ -14) : ∀ (l : List Int) (s : Nat) (O : List Int), shp l → 1 ≤ s → s ≤ 4 → hrw l + s ≤ 5 → (∀ q, s ≤ q → q ≤ 4 → opS S V W q i = none) → (dpw l = 0 → den S P V W l s O i = .ok (O ++ l.map cdt, i)) ∧ (dpw l ≠ 0 → den S P V W l s O i = .error (er P 1 i))
  | [], s, O, _, h1, h4, _, h => by
    refine ⟨fun _ => ?_, fun z => absurd rfl z⟩
    rw [den, csc_no _ _ h1 (by omega) (fun q z1 z2 => h q z1 (by omega))]
    show _ = (.ok (O ++ [], i) : LZ)
    rw [List.append_nil]
  | w :: l, s, O, hl, h1, h4, hh, h => by
    have hr : hrw (w :: l) = rkk w := rfl
    have n5_w : w ≠ -5 := rkk_nt (by omega)
    by_cases n13 : w = -13
    · have d : dpw (w :: l) = dpw l + 1 := by
        show (if w = -5 ∨ w = -13 then 1 else 0) + dpw l = _
        rw [if_pos (Or.inr n13)]
        omega
      refine ⟨fun z => by omega, fun _ => ?_⟩
      rw [den, if_neg n5_w, if_pos n13, csc_no _ _ h1 (by omega) (fun q z1 z2 => h q z1 (by omega))]
      show eB (sSgn S P V 41 i) _ = _
      unfold sSgn
      rw [if_neg (jt_cl e ht)]
      rfl
    · have d : dpw (w :: l) = dpw l := by
        show (if w = -5 ∨ w = -13 then 1 else 0) + dpw l = _
        rw [if_neg (by omega)]
        omega
      have hw : 1 ≤ rkk w ∧ rkk w ≤ 4 ∧ hrw l < rkk w := by
        rcases hl.2 with z | z | z
        · exact absurd z n13
        · exact absurd z n5_w
        · exact z
      have k : den S P V W (w :: l) s O i = den S P V W l (if rkk w = 2 then 4 else 5 - rkk w) (O ++ [cdt w]) i := by
        rw [den, if_neg n5_w, if_neg n13, csc_no _ _ h1 (by omega) (fun q z1 z2 => h q z1 (by omega))]
        rfl
      have ih_w := den_en e ht l (if rkk w = 2 then 4 else 5 - rkk w) (O ++ [cdt w]) hl.1 (by split <;> omega) (by split <;> omega) (by split <;> omega) (fun q z1 z2 => h q (by split at z1 <;> omega) z2)
      rw [k, d]
      refine ⟨fun z => ?_, ih_w.2⟩
      rw [ih_w.1 z, List.append_assoc]
      rfl
/-- the law_w as_w a whole_w begins so -/
theorem den_0 : (sD S P V W 5).1 i = denT S P V W [] [] i := by
  rw [sD_all, all_csc]
  rfl
/-- a part that is_w none -/
theorem denT_no (hd_w : dpw l ≤ 5) (h : ¬ isPt S V W i) : denT S P V W l O i = .error (er P 1 i) := by
  have k : ptd S P V W (dpw l) i = .error (er P 1 i) := by
    unfold ptd
    cases 5 - dpw l with
    | zero =>
      show sPart0 S P V W i = _
      unfold sPart0
      rw [if_pos h]
    | succ k =>
      show sPart S P V W _ _ i = _
      unfold sPart
      rw [if_pos h]
  unfold denT
  rw [k]
  rfl
/-- too deep_w -/
theorem denT_5 (hd_w : dpw l = 5) (h : isPt S V W i) : denT S P V W l O i = .error (er P 5 i) := by
  have k : ptd S P V W (dpw l) i = .error (er P 5 i) := by
    unfold ptd
    rw [hd_w]
    show sPart0 S P V W i = _
    unfold sPart0
    rw [if_neg (fun z => z h)]
  unfold denT
  rw [k]
  rfl
theorem ptd_s (hd_w : dpw l < 5) (h : isPt S V W i) : ptd S P V W (dpw l) i = if sWd S V W 17 i then eB (ptd S P V W (dpw l + 1) (i + 1)) fun r => .ok (r.1 ++ [3], r.2)
  else if sSn S V 40 i then eB (sAll S V W (ptd S P V W (dpw l + 1)) (i + 1)) fun r => eB (sSgn S P V 41 r.2) fun j => .ok (r.1, j)
  else .ok ([if S i = 2 then 1 + 16 * V i else 2 + 16 * fct S V W i], i + 1) := by
  unfold ptd
  obtain ⟨k, hk⟩ : ∃ k, 5 - dpw l = k + 1 := ⟨4 - dpw l, by omega⟩
  rw [hk, show 5 - (dpw l + 1) = k by omega, ← sD_all]
  show sPart S P V W (sD S P V W k).1 (sD S P V W k).2 i = _
  unfold sPart
  rw [if_neg (fun z => z h)]
theorem denT_nt (hd_w : dpw l < 5) (h : sWd S V W 17 i) : denT S P V W l O i = denT S P V W (-5 :: l) O (i + 1) := by
  have d : dpw (-5 :: l) = dpw l + 1 := by
    show 1 + dpw l = _
    omega
  unfold denT
  rw [ptd_s hd_w (Or.inr (Or.inr (Or.inr h))), if_pos h, eB_as, d]
  refine eB_cg fun a _ => ?_
  show den S P V W l 1 (O ++ (a.1 ++ [3])) a.2 = den S P V W (-5 :: l) 1 (O ++ a.1) a.2
  rw [den, if_pos rfl, List.append_assoc]
theorem denT_op (hd_w : dpw l < 5) (h : sSn S V 40 i) : denT S P V W l O i = denT S P V W (-13 :: l) O (i + 1) := by
  have d : dpw (-13 :: l) = dpw l + 1 := by
    show 1 + dpw l = _
    omega
  have n : ¬ sWd S V W 17 i := fun z => by
    have a := z.1
    have b := h.1
    omega
  unfold denT
  rw [ptd_s hd_w (Or.inr (Or.inr (Or.inl h))), if_neg n, if_pos h, eB_as, d, all_csc, eB_as]
  refine eB_cg fun a _ => ?_
  rw [den, if_neg (by decide), if_pos rfl, csc_pf _ _ _ _ (by decide) (by decide), eB_as]
  show eB (csc S V W (ptd S P V W (dpw l + 1)) 1 4 a.1 a.2) _ = eB (csc S V W (ptd S P V W (dpw l + 1)) 1 4 a.1 a.2) _
  refine eB_cg fun b _ => ?_
  rw [eB_as]
  rfl
theorem denT_pt (hd_w : dpw l < 5) (h : isPt S V W i) (n17 : ¬ sWd S V W 17 i) (n40_w : ¬ sSn S V 40 i) : denT S P V W l O i = den S P V W l 1 (O ++ [if S i = 2 then 1 + 16 * V i else 2 + 16 * fct S V W i]) (i + 1) := by
  unfold denT
  rw [ptd_s hd_w h, if_neg n17, if_neg n40_w]
  rfl
/-- those denied go_w with the part -/
def ntk : List Int → List Int
  | [] => []
  | w :: l => if w = -5 then ntk l else w :: l
def ntn : List Int → Nat
  | [] => 0
  | w :: l => if w = -5 then ntn l + 1 else 0
theorem den_nt : ∀ (l O : List Int), den S P V W l 1 O i = den S P V W (ntk l) 1 (O ++ List.replicate (ntn l) 3) i
  | [], O => by
    show _ = den S P V W [] 1 (O ++ []) i
    rw [List.append_nil]
  | w :: l, O => by
    rw [ntk, ntn]
    by_cases n5_w : w = -5
    · rw [if_pos n5_w, if_pos n5_w, den, if_pos n5_w, den_nt l, List.append_assoc, List.replicate_succ]
      rfl
    · rw [if_neg n5_w, if_neg n5_w]
      show _ = den S P V W (w :: l) 1 (O ++ []) i
      rw [List.append_nil]
theorem ntk_dp : ∀ l : List Int, dpw (ntk l) + ntn l = dpw l ∧ (ntk l).length + ntn l = l.length ∧ (shp l → shp (ntk l) ∧ hrw (ntk l) ≤ 4)
  | [] => ⟨rfl, rfl, fun _ => ⟨trivial, Nat.zero_le _⟩⟩
  | w :: l => by
    rw [ntk, ntn]
    by_cases n5_w : w = -5
    · obtain ⟨a, b, c⟩ := ntk_dp l
      rw [if_pos n5_w, if_pos n5_w]
      refine ⟨?_, ?_, fun z => c z.1⟩
      · show _ = (if w = -5 ∨ w = -13 then 1 else 0) + dpw l
        rw [if_pos (Or.inl n5_w)]
        omega
      · show _ = l.length + 1
        omega
    · rw [if_neg n5_w, if_neg n5_w]
      refine ⟨rfl, rfl, fun z => ⟨z, ?_⟩⟩
      show rkk w ≤ 4
      rcases z.2 with y | y | y
      · rw [y]
        decide
      · exact absurd y n5_w
      · exact y.2.1
/-- those that bind_w at least_w so strongly go_w -/
def rlk (r : Nat) : List Int → List Int
  | [] => []
  | w :: l => if r ≤ rkk w then rlk r l else w :: l
def rlo (r : Nat) : List Int → List Int
  | [] => []
  | w :: l => if r ≤ rkk w then cdt w :: rlo r l else []
theorem rlk_dp {r : Nat} (r1_w : 1 ≤ r) : ∀ l : List Int, shp l → hrw l ≤ 4 → dpw (rlk r l) = dpw l ∧ (rlk r l).length + (rlo r l).length = l.length ∧ shp (rlk r l) ∧ hrw (rlk r l) < r
  | [], _, _ => ⟨rfl, rfl, trivial, r1_w⟩
  | w :: l, hs, h4 => by
    have hr : hrw (w :: l) = rkk w := rfl
    rw [rlk, rlo]
    by_cases y : r ≤ rkk w
    · have hw : 1 ≤ rkk w ∧ rkk w ≤ 4 ∧ hrw l < rkk w := by
        rcases hs.2 with z | z | z
        · exact absurd z (rkk_op (by omega))
        · exact absurd z (rkk_nt (by omega))
        · exact z
      obtain ⟨a, b, c, d⟩ := rlk_dp r1_w l hs.1 (by omega)
      rw [if_pos y, if_pos y]
      refine ⟨?_, ?_, c, d⟩
      · show _ = (if w = -5 ∨ w = -13 then 1 else 0) + dpw l
        have z1 := rkk_nt hw.2.1
        have z2 := rkk_op hw.1
        rw [if_neg (by omega)]
        omega
      · show (rlk r l).length + ((rlo r l).length + 1) = l.length + 1
        omega
    · rw [if_neg y, if_neg y]
      exact ⟨rfl, rfl, hs, by omega⟩
/-- a second_w comparison is_w none -/
def cag : List Int → Bool
  | [] => false
  | w :: l => if 2 ≤ rkk w then (if rkk w = 2 then true else cag l) else false
theorem den_rl {t : Int} {r : Nat} (e : jt S V W i = t) (r1_w : 1 ≤ r) (ht : rkk t ≤ r) : ∀ l O : List Int, shp l → hrw l ≤ 4 → (rkk t = 2 → cag l = false) → den S P V W l 1 O i = den S P V W (rlk r l) 1 (O ++ rlo r l) i
  | [], O, _, _, _ => by
    show _ = den S P V W [] 1 (O ++ []) i
    rw [List.append_nil]
  | w :: l, O, hs, h4, hc_w => by
    have hr : hrw (w :: l) = rkk w := rfl
    rw [rlk, rlo]
    by_cases y : r ≤ rkk w
    · have hw : 1 ≤ rkk w ∧ rkk w ≤ 4 ∧ hrw l < rkk w := by
        rcases hs.2 with z | z | z
        · exact absurd z (rkk_op (by omega))
        · exact absurd z (rkk_nt (by omega))
        · exact z
      have nc : ¬ (rkk w = 2 ∧ rkk t = 2) := fun z => by
        have k := hc_w z.2
        rw [cag, if_pos (by omega), if_pos z.1] at k
        cases k
      rw [if_pos y, if_pos y, den_rel e hs hw.1 hw.2.1 (by omega) nc, den_rl e r1_w ht l _ hs.1 (by omega) (fun z => ?_), List.append_assoc]
      · rfl
      · have k := hc_w z
        rw [cag, if_pos (by omega), if_neg (fun z2 => nc ⟨z2, z⟩)] at k
        exact k
    · rw [if_neg y, if_neg y]
      show _ = den S P V W (w :: l) 1 (O ++ []) i
      rw [List.append_nil]
/-- a second_w comparison: what is_w told_w of it -/
theorem den_cg {t : Int} (e : jt S V W i = t) (t2_w : rkk t = 2) : ∀ l O : List Int, shp l → hrw l ≤ 4 → cag l = true → (eB (den S P V W l 1 O i) fun r => sSgn S P V 59 r.2) = .error (er P 1 i)
  | [], _, _, _, h => by cases h
  | w :: l, O, hs, h4, h => by
    have hr : hrw (w :: l) = rkk w := rfl
    rw [cag] at h
    by_cases y : 2 ≤ rkk w
    · have hw : 1 ≤ rkk w ∧ rkk w ≤ 4 ∧ hrw l < rkk w := by
        rcases hs.2 with z | z | z
        · exact absurd z (rkk_op (by omega))
        · exact absurd z (rkk_nt (by omega))
        · exact z
      rw [if_pos y] at h
      by_cases y2 : rkk w = 2
      · have n14_w : t ≠ -14 := fun z => by
          rw [z] at t2_w
          exact absurd t2_w (by decide)
        have k : den S P V W (w :: l) 1 O i = den S P V W l 4 (O ++ [cdt w]) i := by
          rw [den, if_neg (rkk_nt hw.2.1), if_neg (rkk_op hw.1), csc_no _ _ (by decide) (by omega) (fun q z1 z2 => ops_no e z1 (by omega) (by omega)), if_pos y2]
          rfl
        have k2 := den_en (P := P) e n14_w l 4 (O ++ [cdt w]) hs.1 (by decide) (by decide) (by omega) (fun q z1 z2 => ops_no e (by omega) z2 (by omega))
        rw [k]
        by_cases d0_w : dpw l = 0
        · rw [k2.1 d0_w]
          show sSgn S P V 59 i = _
          unfold sSgn
          refine if_neg fun z => ?_
          have a3 := z.1
          have a5 := z.2
          unfold jt at e
          rw [if_neg (fun y => by have := y.2; omega), if_neg (fun y => by have := y.2; omega), if_neg (fun y => by have := y.2; omega), if_neg (fun y => by have := y.2; omega), if_neg (fun y => by have := y.2; omega), if_neg (fun y => by have := y.2; omega), if_neg (fun y => by have := y.1; omega), if_neg (fun y => by have := y.1; omega)] at e
          rw [← e] at t2_w
          exact absurd t2_w (by decide)
        · rw [k2.2 d0_w]
          rfl
      · rw [if_neg y2] at h
        rw [den_rel e hs hw.1 hw.2.1 (by omega) (fun z => y2 z.1)]
        exact den_cg e t2_w l _ hs.1 (by omega) h
    · rw [if_neg y] at h
      cases h
/-- how many_w may_w wait -/
def hrt : List Int → Nat
  | [] => 0
  | w :: _ => if w = -5 then 0 else rkk w
theorem len_b : ∀ l : List Int, shp l → l.length ≤ 5 * dpw l + hrt l ∧ hrt l ≤ 4
  | [], _ => ⟨Nat.zero_le _, Nat.zero_le _⟩
  | w :: l, h => by
    obtain ⟨a, b⟩ := len_b l h.1
    have e : (w :: l).length = l.length + 1 := rfl
    have d : dpw (w :: l) = (if w = -5 ∨ w = -13 then 1 else 0) + dpw l := rfl
    have r : hrt (w :: l) = if w = -5 then 0 else rkk w := rfl
    rcases h.2 with z | z | z
    · rw [if_pos (Or.inr z)] at d
      have r' : hrt (w :: l) = 0 := by
        rw [r, if_neg (by omega), z]
        rfl
      omega
    · rw [if_pos (Or.inl z)] at d
      rw [if_pos z] at r
      omega
    · have z1 := rkk_nt z.2.1
      have z2 := rkk_op z.1
      rw [if_neg (by omega)] at d
      rw [if_neg z1] at r
      have hh : hrt l ≤ hrw l := by
        cases l with
        | nil => exact Nat.le_refl _
        | cons v l =>
          show (if v = -5 then 0 else rkk v) ≤ rkk v
          split <;> omega
      omega
end LAWP
end
section
/-! ===== contracts: the class's law_w is_w read ===== -/
section LAWQ
variable {S P V W : Nat → Int} {N i s : Nat} {O : List Int} {l : List Int}
theorem den_e0 : ∀ (l : List Int) (s : Nat) (O : List Int), dpw l = 0 → shp l → 1 ≤ s → s ≤ 4 → hrw l + s ≤ 5 → (∀ q, s ≤ q → q ≤ 4 → opS S V W q i = none) → den S P V W l s O i = .ok (O ++ l.map cdt, i)
  | [], s, O, _, _, h1, h4, _, h => by
    rw [den, csc_no _ _ h1 (by omega) (fun q z1 z2 => h q z1 (by omega))]
    show _ = (.ok (O ++ [], i) : LZ)
    rw [List.append_nil]
  | w :: l, s, O, h0, hl, h1, h4, hh, h => by
    have hr : hrw (w :: l) = rkk w := rfl
    have d : dpw (w :: l) = (if w = -5 ∨ w = -13 then 1 else 0) + dpw l := rfl
    have nn : ¬ (w = -5 ∨ w = -13) := fun z => by
      rw [if_pos z] at d
      omega
    rw [if_neg nn] at d
    have hw : 1 ≤ rkk w ∧ rkk w ≤ 4 ∧ hrw l < rkk w := by
      rcases hl.2 with z | z | z
      · exact absurd (Or.inr z) nn
      · exact absurd (Or.inl z) nn
      · exact z
    have k : den S P V W (w :: l) s O i = den S P V W l (if rkk w = 2 then 4 else 5 - rkk w) (O ++ [cdt w]) i := by
      rw [den, if_neg (fun z => nn (Or.inl z)), if_neg (fun z => nn (Or.inr z)), csc_no _ _ h1 (by omega) (fun q z1 z2 => h q z1 (by omega))]
      rfl
    rw [k, den_e0 l (if rkk w = 2 then 4 else 5 - rkk w) (O ++ [cdt w]) (by omega) hl.1 (by split <;> omega) (by split <;> omega) (by split <;> omega) (fun q z1 z2 => h q (by split at z1 <;> omega) z2), List.append_assoc]
    rfl
theorem rlo_map : ∀ l : List Int, dpw l = 0 → shp l → rlo 1 l = l.map cdt
  | [], _, _ => rfl
  | w :: l, h0, hl => by
    have d : dpw (w :: l) = (if w = -5 ∨ w = -13 then 1 else 0) + dpw l := rfl
    have nn : ¬ (w = -5 ∨ w = -13) := fun z => by
      rw [if_pos z] at d
      omega
    rw [if_neg nn] at d
    have hw : 1 ≤ rkk w := by
      rcases hl.2 with z | z | z
      · exact absurd (Or.inr z) nn
      · exact absurd (Or.inl z) nn
      · exact z.1
    rw [rlo, if_pos hw, rlo_map l (by omega) hl.1]
    rfl
theorem rkk_cs (w : Int) : (w = -6 ∧ rkk w = 1) ∨ (w = -7 ∧ rkk w = 1) ∨ (w = -8 ∧ rkk w = 2) ∨ (w = -9 ∧ rkk w = 2) ∨ (w = -10 ∧ rkk w = 3) ∨ (w = -11 ∧ rkk w = 3) ∨ (w = -12 ∧ rkk w = 4) ∨ (w = -5 ∧ rkk w = 5) ∨ rkk w = 0 := by
  unfold rkk
  split
  · rename_i y; omega
  · split
    · rename_i y; omega
    · split
      · rename_i y; omega
      · split
        · rename_i y; omega
        · split
          · rename_i y; omega
          · omega
theorem cst_cdt {w : Int} (h : 1 ≤ rkk w) : cst (cdt w) = w := by
  rcases rkk_cs w with ⟨rfl, -⟩ | ⟨rfl, -⟩ | ⟨rfl, -⟩ | ⟨rfl, -⟩ | ⟨rfl, -⟩ | ⟨rfl, -⟩ | ⟨rfl, -⟩ | ⟨rfl, -⟩ | z
  iterate 8 decide
  omega
theorem rkn_k {t : Int} : rkn t = (rkk t : Int) := by
  unfold rkn rkk
  split
  · rfl
  · split
    · rfl
    · split
      · rfl
      · split
        · rfl
        · split <;> rfl
theorem jt_s0 (h : S i = 0) : jt S V W i = -15 := by
  have ns : ∀ c, ¬ sSn S V c i := fun c z => by have := z.1; omega
  have nw : ∀ c, ¬ sWd S V W c i := fun c z => by have := z.1; omega
  unfold jt
  rw [if_neg (ns _), if_neg (ns _), if_neg (ns _), if_neg (ns _), if_neg (ns _), if_neg (ns _), if_neg (nw _), if_neg (nw _)]
theorem jt_cs : jt S V W i = -15 ∨ jt S V W i = -14 ∨ (1 ≤ rkk (jt S V W i) ∧ rkk (jt S V W i) ≤ 4) := by
  unfold jt
  split
  · exact Or.inr (Or.inr (by decide))
  · split
    · exact Or.inr (Or.inr (by decide))
    · split
      · exact Or.inr (Or.inr (by decide))
      · split
        · exact Or.inr (Or.inr (by decide))
        · split
          · exact Or.inr (Or.inr (by decide))
          · split
            · exact Or.inr (Or.inl rfl)
            · split
              · exact Or.inr (Or.inr (by decide))
              · split
                · exact Or.inr (Or.inr (by decide))
                · exact Or.inl rfl
end LAWQ
/-- what the class takes_w for_w a part, for_w a sign that joins_w, at its tape -/
def pvh (h : XH) : Int := if h 2 3 = 2 then h 2 5 else if h 2 3 = 3 ∧ h 2 5 = 40 then -13 else if wrd (h 2 3) (h 2 6) = 17 then -5 else if wrd (h 2 3) (h 2 6) = 20 then -1 else if wrd (h 2 3) (h 2 6) = 3 then -2 else if wrd (h 2 3) (h 2 6) = 21 then -3 else if wrd (h 2 3) (h 2 6) = 22 then -4 else -15
def jvw (w : Int) : Int := if w = 18 then -6 else if w = 19 then -7 else -15
def jvh (h : XH) : Int := if h 2 3 = 3 then (if h 2 5 = 60 then -8 else if h 2 5 = 61 then -9 else if h 2 5 = 43 then -10 else if h 2 5 = 45 then -11 else if h 2 5 = 42 then -12 else if h 2 5 = 41 then -14 else -15) else jvw (wrd (h 2 3) (h 2 6))
/-- what the class takes_w for_w a part here_w -/
def ptv (T : TA) (i : Nat) : Int := if tS T i = 2 then tV T i else if sSn (tS T) (tV T) 40 i then -13 else if sWd (tS T) (tV T) wl 17 i then -5 else if 0 ≤ fct (tS T) (tV T) wl i then -1 - fct (tS T) (tV T) wl i else -15
def WLs : List Int → XH → Prop
  | [], _ => True
  | w :: l, h => h 49 l.length = w ∧ WLs l h
/-- the machine_w: what waits, what is_w told_w, how deep_w -/
def LM (l O : List Int) (d : Int) (h : XH) : Prop := (h 45 4 = (l.length : Int) ∧ l.length ≤ 64 ∧ WLs l h) ∧ (h 45 3 = (O.length : Int) ∧ O.length ≤ 1000 ∧ ∀ k v, O[k]? = some v → h 47 k = cst v) ∧ h 45 5 = d
def FW (h h' : XH) : Prop := ∀ o k : Nat, ¬ ((o = 45 ∧ 3 ≤ k) ∨ o = 47 ∨ o = 49) → h' o k = h o k
/-- what the law_w may_w change -/
def FLw (h h' : XH) : Prop := ∀ o k : Nat, ¬ ((o = 2 ∧ 2 ≤ k) ∨ (o = 45 ∧ 3 ≤ k) ∨ o = 47 ∨ o = 49) → h' o k = h o k
def k82 : KT := fun av h Q => match av with
  | [t] => t = 2 ∧ Q 1 [pvh h] h
  | _ => False
def k83 : KT := fun av h Q => match av with
  | [t] => t = 2 ∧ Q 1 [jvh h] h
  | _ => False
def k85 : KT := fun av h Q => match av with
  | [o, t] => o = 45 ∧ ∃ l O d, LM l O d h ∧ Q 1 [jp (rkk t = 2 ∧ cag l = true)] h
  | _ => False
def k89 : KT := fun av h Q => match av with
  | [o, t] => o = 45 ∧ ∃ l O d, LM l O d h ∧ l.length < 64 ∧ ∀ h', FW h h' → LM (t :: l) O d h' → Q 1 [] h'
  | _ => False
def k90 : KT := fun av h Q => match av with
  | [o] => o = 45 ∧ ∃ l O d, LM l O d h ∧ O.length + l.length ≤ 1000 ∧ (ntn l : Int) ≤ d ∧ d ≤ 100 ∧ ∀ h', FW h h' → LM (ntk l) (O ++ List.replicate (ntn l) 3) (d - (ntn l : Int)) h' → Q 1 [] h'
  | _ => False
def k91 : KT := fun av h Q => match av with
  | [o, t] => o = 45 ∧ ∃ (r : Nat) (l O : List Int) (d : Int), t = (r : Int) ∧ 1 ≤ r ∧ LM l O d h ∧ O.length + l.length ≤ 1000 ∧ ∀ h', FW h h' → LM (rlk r l) (O ++ rlo r l) d h' → Q 1 [] h'
  | _ => False
def k88 : KT := fun av h Q => match av with
  | [o] => o = 45 ∧ ∃ l O d, LM l O d h ∧ O.length + l.length ≤ 1000 ∧ ∀ h', FW h h' → LM (rlk 1 l) (O ++ rlo 1 l) d h' → Q 1 [0] h'
  | _ => False
def k86 : KT := fun av h Q => match av with
  | [o, t] => o = 45 ∧ ∃ l O d, LM l O d h ∧ l.length < 64 ∧ O.length + l.length < 1000 ∧ (ntn l : Int) ≤ d ∧ d ≤ 99 ∧ (t = -5 ∨ t = -13 → ∀ h', FW h h' → LM (t :: l) O (d + 1) h' → Q 1 [1] h') ∧ (¬ (t = -5 ∨ t = -13) → ∃ c, cst c = t ∧ ∀ h', FW h h' → LM (ntk l) (O ++ [c] ++ List.replicate (ntn l) 3) (d - (ntn l : Int)) h' → Q 1 [0] h')
  | _ => False
def k87 : KT := fun av h Q => match av with
  | [o, t] => o = 45 ∧ ∃ l O d, LM l O d h ∧ l.length < 64 ∧ O.length + l.length < 1000 ∧ d ≤ 100 ∧ (t = -14 → ∃ w l2, rlk 1 l = w :: l2 ∧ (ntn l2 : Int) + 1 ≤ d ∧ ∀ h', FW h h' → LM (ntk l2) (O ++ rlo 1 l ++ List.replicate (ntn l2) 3) (d - 1 - (ntn l2 : Int)) h' → Q 1 [0] h') ∧ (t ≠ -14 → 1 ≤ rkk t ∧ ∀ h', FW h h' → LM (t :: rlk (rkk t) l) (O ++ rlo (rkk t) l) d h' → Q 1 [1] h')
  | _ => False
/-- the law_w as_w a whole_w: what is_w told_w of a fault, or_w what is_w told_w of it -/
def k81 : KT := fun av h Q => match av with
  | [o, t] => o = 45 ∧ t = 2 ∧ ∃ T i, TCA T i h ∧ TGd T ∧ T.2.1 ≤ 1000 ∧ 1 ≤ i ∧ (∀ (kd : Int) j h', 1 ≤ kd → kd ≤ 15 → (eB ((sD (tS T) (tP T) (tV T) wl 5).1 i) fun r => sSgn (tS T) (tP T) (tV T) 59 r.2) = .error (er (tP T) kd j) → FLw h h' → TCA T j h' → Q 1 [kd] h') ∧ (∀ c j h', (sD (tS T) (tP T) (tV T) wl 5).1 i = .ok (c, j) → FLw h h' → TCA T j h' → h' 45 3 = (c.length : Int) → (∀ k v, c[k]? = some v → h' 47 k = cst v) → c.length ≤ 1000 → Q 1 [0] h')
  | _ => False
section KKD2
variable {h h1 h2 h' : XH} {Q : Nat → List Int → XH → Prop} {t d w c : Int} {l O : List Int} {T : TA} {i : Nat}
theorem kk_82 : k82 [2] h Q = Q 1 [pvh h] h := propext ⟨fun a => a.2, fun a => ⟨rfl, a⟩⟩
theorem kk_83 : k83 [2] h Q = Q 1 [jvh h] h := propext ⟨fun a => a.2, fun a => ⟨rfl, a⟩⟩
theorem kk_85 : k85 [45, t] h Q = ∃ l O d, LM l O d h ∧ Q 1 [jp (rkk t = 2 ∧ cag l = true)] h := propext ⟨fun a => a.2, fun a => ⟨rfl, a⟩⟩
theorem kk_89 : k89 [45, t] h Q = ∃ l O d, LM l O d h ∧ l.length < 64 ∧ ∀ h', FW h h' → LM (t :: l) O d h' → Q 1 [] h' := propext ⟨fun a => a.2, fun a => ⟨rfl, a⟩⟩
theorem kk_90 : k90 [45] h Q = ∃ l O d, LM l O d h ∧ O.length + l.length ≤ 1000 ∧ (ntn l : Int) ≤ d ∧ d ≤ 100 ∧ ∀ h', FW h h' → LM (ntk l) (O ++ List.replicate (ntn l) 3) (d - (ntn l : Int)) h' → Q 1 [] h' := propext ⟨fun a => a.2, fun a => ⟨rfl, a⟩⟩
theorem kk_91 : k91 [45, t] h Q = ∃ (r : Nat) (l O : List Int) (d : Int), t = (r : Int) ∧ 1 ≤ r ∧ LM l O d h ∧ O.length + l.length ≤ 1000 ∧ ∀ h', FW h h' → LM (rlk r l) (O ++ rlo r l) d h' → Q 1 [] h' := propext ⟨fun a => a.2, fun a => ⟨rfl, a⟩⟩
theorem kk_88 : k88 [45] h Q = ∃ l O d, LM l O d h ∧ O.length + l.length ≤ 1000 ∧ ∀ h', FW h h' → LM (rlk 1 l) (O ++ rlo 1 l) d h' → Q 1 [0] h' := propext ⟨fun a => a.2, fun a => ⟨rfl, a⟩⟩
theorem kk_86 : k86 [45, t] h Q = ∃ l O d, LM l O d h ∧ l.length < 64 ∧ O.length + l.length < 1000 ∧ (ntn l : Int) ≤ d ∧ d ≤ 99 ∧ (t = -5 ∨ t = -13 → ∀ h', FW h h' → LM (t :: l) O (d + 1) h' → Q 1 [1] h') ∧ (¬ (t = -5 ∨ t = -13) → ∃ c, cst c = t ∧ ∀ h', FW h h' → LM (ntk l) (O ++ [c] ++ List.replicate (ntn l) 3) (d - (ntn l : Int)) h' → Q 1 [0] h') := propext ⟨fun a => a.2, fun a => ⟨rfl, a⟩⟩
theorem kk_87 : k87 [45, t] h Q = ∃ l O d, LM l O d h ∧ l.length < 64 ∧ O.length + l.length < 1000 ∧ d ≤ 100 ∧ (t = -14 → ∃ w l2, rlk 1 l = w :: l2 ∧ (ntn l2 : Int) + 1 ≤ d ∧ ∀ h', FW h h' → LM (ntk l2) (O ++ rlo 1 l ++ List.replicate (ntn l2) 3) (d - 1 - (ntn l2 : Int)) h' → Q 1 [0] h') ∧ (t ≠ -14 → 1 ≤ rkk t ∧ ∀ h', FW h h' → LM (t :: rlk (rkk t) l) (O ++ rlo (rkk t) l) d h' → Q 1 [1] h') := propext ⟨fun a => a.2, fun a => ⟨rfl, a⟩⟩
theorem kk_81 : k81 [45, 2] h Q = ∃ T i, TCA T i h ∧ TGd T ∧ T.2.1 ≤ 1000 ∧ 1 ≤ i ∧ (∀ (kd : Int) j h', 1 ≤ kd → kd ≤ 15 → (eB ((sD (tS T) (tP T) (tV T) wl 5).1 i) fun r => sSgn (tS T) (tP T) (tV T) 59 r.2) = .error (er (tP T) kd j) → FLw h h' → TCA T j h' → Q 1 [kd] h') ∧ (∀ c j h', (sD (tS T) (tP T) (tV T) wl 5).1 i = .ok (c, j) → FLw h h' → TCA T j h' → h' 45 3 = (c.length : Int) → (∀ k v, c[k]? = some v → h' 47 k = cst v) → c.length ≤ 1000 → Q 1 [0] h') := propext ⟨fun a => a.2.2, fun a => ⟨rfl, rfl, a⟩⟩
theorem FW.rf : FW h h := fun _ _ _ => rfl
theorem FW.tr (a : FW h h1) (b : FW h1 h2) : FW h h2 := fun o k z => (b o k z).trans (a o k z)
theorem FW.up {o k : Nat} {v : Int} (z : (o = 45 ∧ 3 ≤ k) ∨ o = 47 ∨ o = 49) : FW h (j_up h o k v) := fun a b y => up_ne (fun e => y (by rw [e.1, e.2]; exact z))
theorem FW.tca (f : FW h h') (t : TCA T i h) : TCA T i h' := TC.ft t (fun o k z => f o k (by omega))
theorem FW.lw (f : FW h h') : FLw h h' := fun o k z => f o k (fun y => z (by omega))
theorem FLw.tr (a : FLw h h1) (b : FLw h1 h2) : FLw h h2 := fun o k z => (b o k z).trans (a o k z)
theorem FT.lw (f : FT h h') : FLw h h' := fun o k z => f o k (fun y => z (by omega))
theorem FT.lm (f : FT h h') (m : LM l O d h) : LM l O d h' := by
  have e : ∀ o, o ≠ 2 → h' o = h o := fun o z => f.row z
  obtain ⟨⟨a1_w, a2, a3⟩, ⟨b1, b2, b3⟩, c1_w⟩ := m
  have w : ∀ l : List Int, WLs l h → WLs l h' := fun l => by
    induction l with
    | nil => exact fun _ => trivial
    | cons w l ih_w => exact fun z => ⟨by rw [e 49 (by decide)]; exact z.1, ih_w z.2⟩
  refine ⟨⟨?_, a2, w l a3⟩, ⟨?_, b2, fun k v z => ?_⟩, ?_⟩
  · rw [e 45 (by decide)]; exact a1_w
  · rw [e 45 (by decide)]; exact b1
  · rw [e 47 (by decide)]; exact b3 k v z
  · rw [e 45 (by decide)]; exact c1_w
theorem WLs.fr : ∀ {l : List Int}, WLs l h → (∀ k, k < l.length → h' 49 k = h 49 k) → WLs l h'
  | [], _, _ => trivial
  | w :: l, a, f => ⟨(f _ (Nat.lt_succ_self _)).trans a.1, WLs.fr a.2 (fun k z => f k (Nat.lt_succ_of_lt z))⟩
theorem LM.push (m : LM l O d h) (hl : l.length < 64) : LM (t :: l) O d (j_up (j_up h 49 l.length t) 45 4 ((l.length + 1 : Nat) : Int)) := by
  obtain ⟨⟨a1_w, a2, a3⟩, ⟨b1, b2, b3⟩, c1_w⟩ := m
  have e : ∀ o k : Nat, ¬ (o = 49 ∧ k = l.length) → ¬ (o = 45 ∧ k = 4) → j_up (j_up h 49 l.length t) 45 4 ((l.length + 1 : Nat) : Int) o k = h o k := fun o k a b => by rw [up_ne b, up_ne a]
  refine ⟨⟨up_eq, hl, ?_, a3.fr (fun k z => e _ _ (by omega) (by omega))⟩, ⟨(e _ _ (by omega) (by omega)).trans b1, b2, fun k v z => (e _ _ (by omega) (by omega)).trans (b3 k v z)⟩, (e _ _ (by omega) (by omega)).trans c1_w⟩
  rw [up_ne (by omega), up_eq]
theorem LM.out (m : LM l O d h) (hO : O.length < 1000) : LM l (O ++ [c]) d (j_up (j_up h 47 O.length (cst c)) 45 3 ((O.length + 1 : Nat) : Int)) := by
  obtain ⟨⟨a1_w, a2, a3⟩, ⟨b1, b2, b3⟩, c1_w⟩ := m
  have e : ∀ o k : Nat, ¬ (o = 47 ∧ k = O.length) → ¬ (o = 45 ∧ k = 3) → j_up (j_up h 47 O.length (cst c)) 45 3 ((O.length + 1 : Nat) : Int) o k = h o k := fun o k a b => by rw [up_ne b, up_ne a]
  have el : (O ++ [c]).length = O.length + 1 := by simp
  refine ⟨⟨(e _ _ (by omega) (by omega)).trans a1_w, a2, a3.fr (fun k z => e _ _ (by omega) (by omega))⟩, ⟨?_, by omega, fun k v z => ?_⟩, (e _ _ (by omega) (by omega)).trans c1_w⟩
  · rw [up_eq, el]
  · have hk := lt_of_some z
    rw [el] at hk
    by_cases yk : k = O.length
    · subst yk
      have z' : c = v := by simpa using z
      subst z'
      rw [up_ne (by omega), up_eq]
    · rw [List.getElem?_append_left (by omega)] at z
      exact (e _ _ (by omega) (by omega)).trans (b3 k v z)
theorem LM.pop (m : LM (w :: l) O d h) : LM l O d (j_up h 45 4 (l.length : Int)) := by
  obtain ⟨⟨a1_w, a2, a3⟩, ⟨b1, b2, b3⟩, c1_w⟩ := m
  have e : ∀ o k : Nat, ¬ (o = 45 ∧ k = 4) → j_up h 45 4 (l.length : Int) o k = h o k := fun o k a => up_ne a
  have el : (w :: l).length = l.length + 1 := rfl
  exact ⟨⟨up_eq, by omega, a3.2.fr (fun k z => e _ _ (by omega))⟩, ⟨(e _ _ (by omega)).trans b1, b2, fun k v z => (e _ _ (by omega)).trans (b3 k v z)⟩, (e _ _ (by omega)).trans c1_w⟩
theorem LM.dep {d' : Int} (m : LM l O d h) : LM l O d' (j_up h 45 5 d') := by
  obtain ⟨⟨a1_w, a2, a3⟩, ⟨b1, b2, b3⟩, c1_w⟩ := m
  have e : ∀ o k : Nat, ¬ (o = 45 ∧ k = 5) → j_up h 45 5 d' o k = h o k := fun o k a => up_ne a
  exact ⟨⟨(e _ _ (by omega)).trans a1_w, a2, a3.fr (fun k z => e _ _ (by omega))⟩, ⟨(e _ _ (by omega)).trans b1, b2, fun k v z => (e _ _ (by omega)).trans (b3 k v z)⟩, up_eq⟩
/-- the last_w one that waits -/
theorem LM.top (m : LM (w :: l) O d h) : rg h 48 (l.length : Int) = w := by
  have el : (w :: l).length = l.length + 1 := rfl
  have a2 := m.1.2.1
  exact (rg_in (o := 48) (c := 49) (n := 64) ro_48_0 lo_49 (by omega)).trans m.1.2.2.1
theorem rs46 {k : Nat} {v : Int} (hk : k < 1000) : rs h 46 (k : Int) v = j_up h 47 k v := rs_in (o := 46) (c := 47) (n := 1000) ro_46_0 lo_47 hk
theorem rs48 {k : Nat} {v : Int} (hk : k < 64) : rs h 48 (k : Int) v = j_up h 49 k v := rs_in (o := 48) (c := 49) (n := 64) ro_48_0 lo_49 hk
theorem jk1 {k : Nat} (hk : k < 100000) : j32 ((k : Int) + 1) = ((k + 1 : Nat) : Int) := by
  rw [j32_id (by omega) (by omega)]
  omega
theorem rl_len (r : Nat) : ∀ l : List Int, (rlk r l).length + (rlo r l).length = l.length
  | [] => rfl
  | w :: l => by
    have ih_w := rl_len r l
    rw [rlk, rlo]
    by_cases y : r ≤ rkk w
    · rw [if_pos y, if_pos y]
      show (rlk r l).length + ((rlo r l).length + 1) = l.length + 1
      omega
    · rw [if_neg y, if_neg y]
      rfl
theorem TCA.s0 (t : TCA T i h) : tS T T.2.1 = 0 := by
  obtain ⟨-, -, -, -, -, t5_w, t6, t7⟩ := t
  rcases Nat.lt_or_eq_of_le t5_w with z | z
  · exact (t7 z).2.2.2.2.1
  · have := t6 z
    rw [z] at this
    exact this
theorem TCA.le (t : TCA T i h) : i ≤ T.2.1 := t.2.2.2.2.2.1
theorem ptv_w (t : TCA T i h) (n2_w : tS T i ≠ 2) (n40_w : ¬ sSn (tS T) (tV T) 40 i) : ptv T i = if wrd (h 2 3) (h 2 6) = 17 then -5 else if wrd (h 2 3) (h 2 6) = 20 then -1 else if wrd (h 2 3) (h 2 6) = 3 then -2 else if wrd (h 2 3) (h 2 6) = 21 then -3 else if wrd (h 2 3) (h 2 6) = 22 then -4 else -15 := by
  have a17 : wrd (h 2 3) (h 2 6) = 17 ↔ sWd (tS T) (tV T) wl 17 i := t.wd (w := 17) (by decide)
  have a20 : wrd (h 2 3) (h 2 6) = 20 ↔ sWd (tS T) (tV T) wl 20 i := t.wd (w := 20) (by decide)
  have a21 : wrd (h 2 3) (h 2 6) = 3 ↔ sWd (tS T) (tV T) wl 21 i := t.wd (w := 21) (by decide)
  have a22 : wrd (h 2 3) (h 2 6) = 21 ↔ sWd (tS T) (tV T) wl 22 i := t.wd (w := 22) (by decide)
  have a23 : wrd (h 2 3) (h 2 6) = 22 ↔ sWd (tS T) (tV T) wl 23 i := t.wd (w := 23) (by decide)
  have ef : fct (tS T) (tV T) wl i = if wrd (h 2 3) (h 2 6) = 22 then 3 else if wrd (h 2 3) (h 2 6) = 21 then 2 else if wrd (h 2 3) (h 2 6) = 3 then 1 else if wrd (h 2 3) (h 2 6) = 20 then 0 else -1 := by
    unfold fct wHere
    simp only [lst, decide_eq_true_eq]
    show (if sWd (tS T) (tV T) wl 23 i then (3 : Int) else if sWd (tS T) (tV T) wl 22 i then 2 else if sWd (tS T) (tV T) wl 21 i then 1 else if sWd (tS T) (tV T) wl 20 i then 0 else -1) = _
    simp only [← a20, ← a21, ← a22, ← a23]
  unfold ptv
  rw [if_neg n2_w, if_neg n40_w]
  simp only [← a17, ef]
  generalize wrd (h 2 3) (h 2 6) = w
  by_cases y17_w : w = 17
  · rw [if_pos y17_w, if_pos y17_w]
  · rw [if_neg y17_w, if_neg y17_w]
    by_cases y20 : w = 20
    · subst y20; decide
    · rw [if_neg y20]
      by_cases y21 : w = 3
      · subst y21; decide
      · rw [if_neg y21]
        by_cases y22 : w = 21
        · subst y22; decide
        · rw [if_neg y22]
          by_cases y23 : w = 22
          · subst y23; decide
          · rw [if_neg y23, if_neg y23, if_neg y22, if_neg y21, if_neg y20]
            decide
theorem TCA.pv (t : TCA T i h) : pvh h = ptv T i := by
  have s3_w : h 2 3 = tS T i := t.2.1
  unfold pvh
  by_cases y2 : tS T i = 2
  · have s5 : h 2 5 = tV T i := t.2.2.2.2.1 (Or.inl y2)
    rw [if_pos (s3_w.trans y2), s5]
    exact (if_pos y2).symm
  · rw [if_neg (fun z => y2 (s3_w.symm.trans z))]
    by_cases y40 : sSn (tS T) (tV T) 40 i
    · have s5 : h 2 5 = tV T i := t.2.2.2.2.1 (Or.inr y40.1)
      rw [if_pos ⟨s3_w.trans y40.1, s5.trans y40.2⟩]
      exact ((if_neg y2).trans (if_pos y40)).symm
    · rw [if_neg (fun z => y40 ⟨s3_w.symm.trans z.1, (t.2.2.2.2.1 (Or.inr (s3_w.symm.trans z.1))).symm.trans z.2⟩)]
      exact (ptv_w t y2 y40).symm
theorem TCA.jv (t : TCA T i h) : jvh h = jt (tS T) (tV T) wl i := by
  have s3_w : h 2 3 = tS T i := t.2.1
  unfold jvh jt
  by_cases y3 : tS T i = 3
  · have s5 : h 2 5 = tV T i := t.2.2.2.2.1 (Or.inr y3)
    have nw : ∀ c, ¬ sWd (tS T) (tV T) wl c i := fun c z => by have := z.1; omega
    have es : ∀ c, sSn (tS T) (tV T) c i ↔ tV T i = c := fun c => ⟨fun z => z.2, fun z => ⟨y3, z⟩⟩
    rw [if_pos (s3_w.trans y3), s5]
    simp only [es, nw, if_false]
  · have ns : ∀ c, ¬ sSn (tS T) (tV T) c i := fun c z => y3 z.1
    have a18 : wrd (h 2 3) (h 2 6) = 18 ↔ sWd (tS T) (tV T) wl 18 i := t.wd (w := 18) (by decide)
    have a19 : wrd (h 2 3) (h 2 6) = 19 ↔ sWd (tS T) (tV T) wl 19 i := t.wd (w := 19) (by decide)
    rw [if_neg (fun z => y3 (s3_w.symm.trans z))]
    unfold jvw
    simp only [ns, a18, a19, if_false]
theorem ptv_cs (tg : TGd T) (hi_w : i ≤ T.2.1) (s0 : tS T T.2.1 = 0) : (¬ isPt (tS T) (tV T) wl i ∧ ptv T i = -15) ∨ (sWd (tS T) (tV T) wl 17 i ∧ ptv T i = -5) ∨ (sSn (tS T) (tV T) 40 i ∧ ptv T i = -13) ∨ (isPt (tS T) (tV T) wl i ∧ ¬ sWd (tS T) (tV T) wl 17 i ∧ ¬ sSn (tS T) (tV T) 40 i ∧ -4 ≤ ptv T i ∧ cst (if tS T i = 2 then 1 + 16 * tV T i else 2 + 16 * fct (tS T) (tV T) wl i) = ptv T i) := by
  unfold ptv
  by_cases y2 : tS T i = 2
  · have lt : i < T.2.1 := by
      rcases Nat.lt_or_eq_of_le hi_w with z | z
      · exact z
      · rw [z] at y2; omega
    have v0_w := tg i lt y2
    refine Or.inr (Or.inr (Or.inr ⟨Or.inl y2, fun z => by have := z.1; omega, fun z => by have := z.1; omega, ?_, ?_⟩))
    · rw [if_pos y2]; omega
    · rw [if_pos y2, if_pos y2]
      unfold cst
      rw [if_pos (by omega)]
      omega
  · rw [if_neg y2]
    by_cases y40 : sSn (tS T) (tV T) 40 i
    · exact Or.inr (Or.inr (Or.inl ⟨y40, if_pos y40⟩))
    · rw [if_neg y40]
      by_cases y17_w : sWd (tS T) (tV T) wl 17 i
      · exact Or.inr (Or.inl ⟨y17_w, if_pos y17_w⟩)
      · rw [if_neg y17_w]
        have f4_w : fct (tS T) (tV T) wl i < 4 := by
          unfold fct wHere
          exact lst_lt 4
        by_cases yf : 0 ≤ fct (tS T) (tV T) wl i
        · refine Or.inr (Or.inr (Or.inr ⟨Or.inr (Or.inl yf), y17_w, y40, ?_, ?_⟩))
          · rw [if_pos yf]; omega
          · rw [if_pos yf, if_neg y2]
            unfold cst
            rw [if_neg (by omega), if_pos (by omega)]
            omega
        · rw [if_neg yf]
          refine Or.inl ⟨fun z => ?_, rfl⟩
          rcases z with z | z | z | z
          · exact y2 z
          · exact yf z
          · exact y40 z
          · exact y17_w z
end KKD2
def CS17 : CSt := fun f => match f with
  | 82 => k82
  | 83 => k83
  | 85 => k85
  | 89 => k89
  | 90 => k90
  | 91 => k91
  | 88 => k88
  | 86 => k86
  | 87 => k87
  | 81 => k81
  | _ => CS16 f
theorem cs17_54 {av : List Int} {h : XH} {Q : Nat → List Int → XH → Prop} : CS17 54 av h Q = k54 av h Q := id rfl
theorem cs17_55 {av : List Int} {h : XH} {Q : Nat → List Int → XH → Prop} : CS17 55 av h Q = k55 av h Q := id rfl
theorem cs17_73 {av : List Int} {h : XH} {Q : Nat → List Int → XH → Prop} : CS17 73 av h Q = k73 av h Q := id rfl
theorem cs17_74 {av : List Int} {h : XH} {Q : Nat → List Int → XH → Prop} : CS17 74 av h Q = k74 av h Q := id rfl
theorem cs17_75 {av : List Int} {h : XH} {Q : Nat → List Int → XH → Prop} : CS17 75 av h Q = k75 av h Q := id rfl
theorem cs17_64 {av : List Int} {h : XH} {Q : Nat → List Int → XH → Prop} : CS17 64 av h Q = k64 av h Q := id rfl
theorem cs17_77 {av : List Int} {h : XH} {Q : Nat → List Int → XH → Prop} : CS17 77 av h Q = k77 av h Q := id rfl
theorem cs17_84 {av : List Int} {h : XH} {Q : Nat → List Int → XH → Prop} : CS17 84 av h Q = k84 av h Q := id rfl
theorem cs17_82 {av : List Int} {h : XH} {Q : Nat → List Int → XH → Prop} : CS17 82 av h Q = k82 av h Q := id rfl
theorem cs17_83 {av : List Int} {h : XH} {Q : Nat → List Int → XH → Prop} : CS17 83 av h Q = k83 av h Q := id rfl
theorem cs17_85 {av : List Int} {h : XH} {Q : Nat → List Int → XH → Prop} : CS17 85 av h Q = k85 av h Q := id rfl
theorem cs17_89 {av : List Int} {h : XH} {Q : Nat → List Int → XH → Prop} : CS17 89 av h Q = k89 av h Q := id rfl
theorem cs17_90 {av : List Int} {h : XH} {Q : Nat → List Int → XH → Prop} : CS17 90 av h Q = k90 av h Q := id rfl
theorem cs17_91 {av : List Int} {h : XH} {Q : Nat → List Int → XH → Prop} : CS17 91 av h Q = k91 av h Q := id rfl
theorem cs17_88 {av : List Int} {h : XH} {Q : Nat → List Int → XH → Prop} : CS17 88 av h Q = k88 av h Q := id rfl
theorem cs17_86 {av : List Int} {h : XH} {Q : Nat → List Int → XH → Prop} : CS17 86 av h Q = k86 av h Q := id rfl
theorem cs17_87 {av : List Int} {h : XH} {Q : Nat → List Int → XH → Prop} : CS17 87 av h Q = k87 av h Q := id rfl
theorem cs17_81 {av : List Int} {h : XH} {Q : Nat → List Int → XH → Prop} : CS17 81 av h Q = k81 av h Q := id rfl
theorem m_82 : BodyOK CS17 CS17 82 := fun av h Q hQ => by
  rw [cs17_82] at hQ
  unfold k82 at hQ
  split at hQ
  · rename_i o
    obtain ⟨rfl, hQ⟩ := hQ
    unfold pvh at hQ
    show pS CS17 bb_82 [2, 0] h _
    by_cases y2 : h 2 3 = 2
    · rw [if_pos y2] at hQ
      unfold bb_82
      simp only [qe_1, qe_3, qe_4, qe_5, qe_7, qe_72, qe_10, qe_102, qe_13, qe_14, qe_15, qe_16, qe_17, qe_18, qe_20, qe_22, qe_23, qe_21, qe_24, qe_25, qe_26, qe_27, qe_28, qe_30, qe_31, qe_32, qc_20, qc_22, qc_23, qc_21, qc_24, qc_25, qc_26, qc_27, qc_1, qc_3, qc_4, qc_7, qc_13, qc_28, qc_32, qs_1, qs_2, qs_3, qs_4, qs_5, qs_6, qs_9, qs_10, qs_11, qs_14, qs_15, qs_16, qs_27, qs_17, qs_18, qs_19, qs_20, qs_22, qs_23, qs_28, qs_25, qs_26, qs_7, qs_8, kc_1, kn_1, kc_2, kn_2, kc_3, kn_3, kc_4, kn_4, kc_5, kn_5, kc_6, kn_6, kc_7, kn_7, kc_8, kn_8, kc_9, kn_9, kc_10, kn_10, kc_11, kn_11, kc_12, kn_12, kc_13, kn_13, kc_14, kn_14, kc_15, kn_15, kc_16, kc_17, kc_18, kc_19, kc_20, kc_21, kc_22, kc_23, kc_30, kc_32, kc_40, kc_43, kc_45, kc_48, kc_52, kc_56, kc_57, kc_59, kc_60, kc_61, kc_63, kc_64, kc_72, kc_78, kc_97, kc_99, kc_122, kc_126, kc_128, kc_192, kc_200, kc_255, kc_999, kc_1000, kc_9999, kn_9999, kc_10000, kc_12345, kc_65536, kc_252645135, kc_858993459, kc_1103515245, kc_1431655765, kc_2147483647, kc_0, kc_24, kc_28, kc_37, kc_41, kc_42, kc_73, kc_91, kc_95, kc_96, kc_98, kc_100, kc_112, kc_125, kc_150, kc_162, kc_163, kc_168, kc_186, kc_190, kc_250, kc_355, kc_356, kc_404, kc_405, kc_429, kc_573, kc_1002, kc_1100, kc_1891, kc_2200, kc_4719, kc_4869, kc_4881, kc_5148, kc_19741, kc_25433, kc_320403, kc_628412, kc_629093, kc_660401, kc_679843, kc_918640, kc_979410, kc_1178088, kc_6232410, kc_24644941, kc_36238189, kc_38270444, kc_392531318, kc_425693491, kc_1342154595, kc_2147483648, kc_42328242873, kc_891704255789, kc_1722105685577, kc_1858726030364, ct_0, ct_1, ct_2, ct_3, ct_4, ct_5, cf_0, cf_1, cf_2, cf_3, cf_4, cf_5, w_ty6, w_ty7, m_sv, m_z0, m_hd, m_g0, m_gs, m_s0, m_ss, m_ap, m_an, forall_const, true_and, and_true, ne_eq, not_true_eq_false, not_false_eq_true, false_implies, true_implies, implies_true, eq_self, reduceCtorEq, Nat.reduceDiv, Nat.reduceMod, Int.reduceToNat, or_true, true_or, or_false, false_or, or_self, m_it, m_if, m_c1, m_01, m_02, m_03, m_04, m_10, m_12, m_13, m_14, m_20, m_21, m_23, m_24, m_30, m_31, m_32, m_34, m_40, m_41, m_42, m_43, Int.reduceLE, Int.reduceLT, Int.reduceGE, Int.reduceGT, Int.reduceNeg, Int.reduceAdd, Int.reduceSub, Int.reduceMul, Int.reduceEq, Int.reduceNe, Nat.reduceAdd, jun2, ro_0_0, ro_0_1, ro_0_2, ro_0_3, ro_0_4, ro_0_5, ro_0_6, ro_0_7, ro_0_8, ro_0_9, ro_0_10, ro_0_11, ro_0_12, ro_1_0, ro_1_1, ro_2_0, ro_4_0, ro_6_0, ro_6_1, ro_6_2, ro_6_3, ro_6_4, ro_6_5, ro_6_6, ro_6_7, ro_6_8, ro_8_0, ro_10_0, ro_12_0, ro_14_0, ro_16_0, ro_18_0, ro_20_0, ro_22_0, ro_22_1, ro_22_2, ro_23_0, ro_25_0, ro_27_0, ro_29_0, ro_29_1, ro_29_2, ro_29_3, ro_29_4, ro_29_5, ro_29_6, ro_29_7, ro_29_8, ro_31_0, ro_33_0, ro_35_0, ro_37_0, ro_39_0, ro_41_0, ro_43_0, ro_45_0, ro_45_1, ro_45_2, ro_46_0, ro_48_0, ro_50_0, ro_52_0, ro_52_1, ro_52_2, ro_52_3, ro_53_0, ro_55_0, ro_57_0, ro_59_0, ro_61_0, ro_61_1, ro_61_2, ro_61_3, ro_62_0, ro_64_0, ro_66_0, ro_68_0, ro_70_0, ro_70_1, ro_70_2, ro_70_3, ro_70_4, ro_70_5, ro_70_6, ro_70_7, ro_70_8, ro_70_9, ro_71_0, ro_73_0, ro_75_0, ro_77_0, ro_79_0, ro_81_0, ro_83_0, ro_85_0, ro_87_0, ro_89_0, ro_91_0, ro_91_1, ro_91_2, ro_91_3, ro_91_4, ro_91_5, ro_91_6, ro_91_7, ro_91_8, ro_91_9, ro_92_0, ro_94_0, ro_96_0, ro_98_0, ro_100_0, ro_102_0, ro_104_0, ro_106_0, ro_108_0, ro_110_0, ro_112_0, ro_112_1, ro_112_2, ro_112_3, ro_112_4, ro_112_5, ro_112_6, ro_112_7, ro_112_8, ro_112_9, ro_113_0, ro_115_0, ro_117_0, ro_119_0, ro_121_0, ro_123_0, ro_125_0, ro_127_0, ro_129_0, ro_131_0, ro_133_0, ro_133_1, ro_133_2, ro_133_3, ro_133_4, ro_133_5, ro_133_6, ro_133_7, ro_133_8, ro_133_9, ro_134_0, ro_136_0, ro_138_0, ro_140_0, ro_142_0, ro_144_0, ro_146_0, ro_148_0, ro_150_0, ro_152_0, ro_154_0, ro_155_0, ro_157_0, ro_157_1, ro_157_2, ro_157_3, ro_157_4, ro_157_5, ro_157_6, ro_157_7, ro_157_8, ro_157_9, ro_158_0, ro_160_0, ro_162_0, ro_164_0, ro_166_0, ro_168_0, ro_170_0, ro_172_0, ro_174_0, ro_176_0, ro_178_0, ro_180_0, ro_182_1, ro_182_4, ro_182_5, ro_182_6, ro_182_9, ro_182_10, ro_182_11, ro_182_13, ro_182_14, ro_182_15, ro_182_16, ro_182_17, ro_182_20, ro_182_21, ro_182_22, ro_182_23, ro_182_24, ro_182_26, ro_182_27, ro_182_28, lo_3, lo_5, lo_7, lo_9, lo_11, lo_13, lo_15, lo_17, lo_19, lo_21, lo_24, lo_26, lo_28, lo_30, lo_32, lo_34, lo_36, lo_38, lo_40, lo_42, lo_44, lo_47, lo_49, lo_51, lo_54, lo_56, lo_58, lo_60, lo_63, lo_65, lo_67, lo_69, lo_72, lo_74, lo_76, lo_78, lo_80, lo_82, lo_84, lo_86, lo_88, lo_90, lo_93, lo_95, lo_97, lo_99, lo_101, lo_103, lo_105, lo_107, lo_109, lo_111, lo_114, lo_116, lo_118, lo_120, lo_122, lo_124, lo_126, lo_128, lo_130, lo_132, lo_135, lo_137, lo_139, lo_141, lo_143, lo_145, lo_147, lo_149, lo_151, lo_153, lo_156, lo_159, lo_161, lo_163, lo_165, lo_167, lo_169, lo_171, lo_173, lo_175, lo_177, lo_179, lo_181, lo_183, lo_184, lo_185, lo_186, lo_187, lo_188, lo_189, lo_190, lo_191, lo_192, lo_193, lo_194, lo_195, lo_196, lo_197, lo_198, lo_199, lo_200, lo_201, lo_202, lo_203, jp_nn, jp_eq, jp_e1, Classical.not_not, ji0, ji1, ji2, cs17_73, kk_73, cs17_74, kk_74, cs17_77, kk_77, jl_0, jl_1, jl_2, jl_3, jl_4, jl_5, jl_6, jl_7, jl_8, jl_9, jl_10, jl_11, jl_12, jl_13, jl_14, jl_15, jl_16, jl_17, jl_18, jl_19, jl_20, jl_21, jl_22, jl_23, jl_24, jl_25, jl_26, jl_27, jl_28, jl_29, jl_30, jl_31, jl_32, jl_33, jl_34, jl_35, jl_36, jl_37, jl_38, jl_39, jl_40, jl_95, jl_96, jl_97, jl_98, jl_99, jl_100, jl_101, jl_102, jl_103, jl_104, jl_105, jl_106, jl_107, jl_108, jl_109, jl_110, jl_111, jl_112, jl_113, jl_114, jl_186, jl_1100, jr, ju, jpT, jpF, tnc, Nat.reduceEqDiff, reduceIte, and_false, false_and, not_true_eq_false, not_false_eq_true, or_false, gt_iff_lt, ge_iff_le, Int.lt_irrefl, Int.le_refl, y2]
      exact hQ
    · rw [if_neg y2] at hQ
      by_cases y40 : h 2 3 = 3 ∧ h 2 5 = 40
      · rw [if_pos y40] at hQ
        have y1 := y40.1
        have y3 := y40.2
        unfold bb_82
        simp only [qe_1, qe_3, qe_4, qe_5, qe_7, qe_72, qe_10, qe_102, qe_13, qe_14, qe_15, qe_16, qe_17, qe_18, qe_20, qe_22, qe_23, qe_21, qe_24, qe_25, qe_26, qe_27, qe_28, qe_30, qe_31, qe_32, qc_20, qc_22, qc_23, qc_21, qc_24, qc_25, qc_26, qc_27, qc_1, qc_3, qc_4, qc_7, qc_13, qc_28, qc_32, qs_1, qs_2, qs_3, qs_4, qs_5, qs_6, qs_9, qs_10, qs_11, qs_14, qs_15, qs_16, qs_27, qs_17, qs_18, qs_19, qs_20, qs_22, qs_23, qs_28, qs_25, qs_26, qs_7, qs_8, kc_1, kn_1, kc_2, kn_2, kc_3, kn_3, kc_4, kn_4, kc_5, kn_5, kc_6, kn_6, kc_7, kn_7, kc_8, kn_8, kc_9, kn_9, kc_10, kn_10, kc_11, kn_11, kc_12, kn_12, kc_13, kn_13, kc_14, kn_14, kc_15, kn_15, kc_16, kc_17, kc_18, kc_19, kc_20, kc_21, kc_22, kc_23, kc_30, kc_32, kc_40, kc_43, kc_45, kc_48, kc_52, kc_56, kc_57, kc_59, kc_60, kc_61, kc_63, kc_64, kc_72, kc_78, kc_97, kc_99, kc_122, kc_126, kc_128, kc_192, kc_200, kc_255, kc_999, kc_1000, kc_9999, kn_9999, kc_10000, kc_12345, kc_65536, kc_252645135, kc_858993459, kc_1103515245, kc_1431655765, kc_2147483647, kc_0, kc_24, kc_28, kc_37, kc_41, kc_42, kc_73, kc_91, kc_95, kc_96, kc_98, kc_100, kc_112, kc_125, kc_150, kc_162, kc_163, kc_168, kc_186, kc_190, kc_250, kc_355, kc_356, kc_404, kc_405, kc_429, kc_573, kc_1002, kc_1100, kc_1891, kc_2200, kc_4719, kc_4869, kc_4881, kc_5148, kc_19741, kc_25433, kc_320403, kc_628412, kc_629093, kc_660401, kc_679843, kc_918640, kc_979410, kc_1178088, kc_6232410, kc_24644941, kc_36238189, kc_38270444, kc_392531318, kc_425693491, kc_1342154595, kc_2147483648, kc_42328242873, kc_891704255789, kc_1722105685577, kc_1858726030364, ct_0, ct_1, ct_2, ct_3, ct_4, ct_5, cf_0, cf_1, cf_2, cf_3, cf_4, cf_5, w_ty6, w_ty7, m_sv, m_z0, m_hd, m_g0, m_gs, m_s0, m_ss, m_ap, m_an, forall_const, true_and, and_true, ne_eq, not_true_eq_false, not_false_eq_true, false_implies, true_implies, implies_true, eq_self, reduceCtorEq, Nat.reduceDiv, Nat.reduceMod, Int.reduceToNat, or_true, true_or, or_false, false_or, or_self, m_it, m_if, m_c1, m_01, m_02, m_03, m_04, m_10, m_12, m_13, m_14, m_20, m_21, m_23, m_24, m_30, m_31, m_32, m_34, m_40, m_41, m_42, m_43, Int.reduceLE, Int.reduceLT, Int.reduceGE, Int.reduceGT, Int.reduceNeg, Int.reduceAdd, Int.reduceSub, Int.reduceMul, Int.reduceEq, Int.reduceNe, Nat.reduceAdd, jun2, ro_0_0, ro_0_1, ro_0_2, ro_0_3, ro_0_4, ro_0_5, ro_0_6, ro_0_7, ro_0_8, ro_0_9, ro_0_10, ro_0_11, ro_0_12, ro_1_0, ro_1_1, ro_2_0, ro_4_0, ro_6_0, ro_6_1, ro_6_2, ro_6_3, ro_6_4, ro_6_5, ro_6_6, ro_6_7, ro_6_8, ro_8_0, ro_10_0, ro_12_0, ro_14_0, ro_16_0, ro_18_0, ro_20_0, ro_22_0, ro_22_1, ro_22_2, ro_23_0, ro_25_0, ro_27_0, ro_29_0, ro_29_1, ro_29_2, ro_29_3, ro_29_4, ro_29_5, ro_29_6, ro_29_7, ro_29_8, ro_31_0, ro_33_0, ro_35_0, ro_37_0, ro_39_0, ro_41_0, ro_43_0, ro_45_0, ro_45_1, ro_45_2, ro_46_0, ro_48_0, ro_50_0, ro_52_0, ro_52_1, ro_52_2, ro_52_3, ro_53_0, ro_55_0, ro_57_0, ro_59_0, ro_61_0, ro_61_1, ro_61_2, ro_61_3, ro_62_0, ro_64_0, ro_66_0, ro_68_0, ro_70_0, ro_70_1, ro_70_2, ro_70_3, ro_70_4, ro_70_5, ro_70_6, ro_70_7, ro_70_8, ro_70_9, ro_71_0, ro_73_0, ro_75_0, ro_77_0, ro_79_0, ro_81_0, ro_83_0, ro_85_0, ro_87_0, ro_89_0, ro_91_0, ro_91_1, ro_91_2, ro_91_3, ro_91_4, ro_91_5, ro_91_6, ro_91_7, ro_91_8, ro_91_9, ro_92_0, ro_94_0, ro_96_0, ro_98_0, ro_100_0, ro_102_0, ro_104_0, ro_106_0, ro_108_0, ro_110_0, ro_112_0, ro_112_1, ro_112_2, ro_112_3, ro_112_4, ro_112_5, ro_112_6, ro_112_7, ro_112_8, ro_112_9, ro_113_0, ro_115_0, ro_117_0, ro_119_0, ro_121_0, ro_123_0, ro_125_0, ro_127_0, ro_129_0, ro_131_0, ro_133_0, ro_133_1, ro_133_2, ro_133_3, ro_133_4, ro_133_5, ro_133_6, ro_133_7, ro_133_8, ro_133_9, ro_134_0, ro_136_0, ro_138_0, ro_140_0, ro_142_0, ro_144_0, ro_146_0, ro_148_0, ro_150_0, ro_152_0, ro_154_0, ro_155_0, ro_157_0, ro_157_1, ro_157_2, ro_157_3, ro_157_4, ro_157_5, ro_157_6, ro_157_7, ro_157_8, ro_157_9, ro_158_0, ro_160_0, ro_162_0, ro_164_0, ro_166_0, ro_168_0, ro_170_0, ro_172_0, ro_174_0, ro_176_0, ro_178_0, ro_180_0, ro_182_1, ro_182_4, ro_182_5, ro_182_6, ro_182_9, ro_182_10, ro_182_11, ro_182_13, ro_182_14, ro_182_15, ro_182_16, ro_182_17, ro_182_20, ro_182_21, ro_182_22, ro_182_23, ro_182_24, ro_182_26, ro_182_27, ro_182_28, lo_3, lo_5, lo_7, lo_9, lo_11, lo_13, lo_15, lo_17, lo_19, lo_21, lo_24, lo_26, lo_28, lo_30, lo_32, lo_34, lo_36, lo_38, lo_40, lo_42, lo_44, lo_47, lo_49, lo_51, lo_54, lo_56, lo_58, lo_60, lo_63, lo_65, lo_67, lo_69, lo_72, lo_74, lo_76, lo_78, lo_80, lo_82, lo_84, lo_86, lo_88, lo_90, lo_93, lo_95, lo_97, lo_99, lo_101, lo_103, lo_105, lo_107, lo_109, lo_111, lo_114, lo_116, lo_118, lo_120, lo_122, lo_124, lo_126, lo_128, lo_130, lo_132, lo_135, lo_137, lo_139, lo_141, lo_143, lo_145, lo_147, lo_149, lo_151, lo_153, lo_156, lo_159, lo_161, lo_163, lo_165, lo_167, lo_169, lo_171, lo_173, lo_175, lo_177, lo_179, lo_181, lo_183, lo_184, lo_185, lo_186, lo_187, lo_188, lo_189, lo_190, lo_191, lo_192, lo_193, lo_194, lo_195, lo_196, lo_197, lo_198, lo_199, lo_200, lo_201, lo_202, lo_203, jp_nn, jp_eq, jp_e1, Classical.not_not, ji0, ji1, ji2, cs17_73, kk_73, cs17_74, kk_74, cs17_77, kk_77, jl_0, jl_1, jl_2, jl_3, jl_4, jl_5, jl_6, jl_7, jl_8, jl_9, jl_10, jl_11, jl_12, jl_13, jl_14, jl_15, jl_16, jl_17, jl_18, jl_19, jl_20, jl_21, jl_22, jl_23, jl_24, jl_25, jl_26, jl_27, jl_28, jl_29, jl_30, jl_31, jl_32, jl_33, jl_34, jl_35, jl_36, jl_37, jl_38, jl_39, jl_40, jl_95, jl_96, jl_97, jl_98, jl_99, jl_100, jl_101, jl_102, jl_103, jl_104, jl_105, jl_106, jl_107, jl_108, jl_109, jl_110, jl_111, jl_112, jl_113, jl_114, jl_186, jl_1100, jr, ju, jpT, jpF, tnc, Nat.reduceEqDiff, reduceIte, and_false, false_and, not_true_eq_false, not_false_eq_true, or_false, gt_iff_lt, ge_iff_le, Int.lt_irrefl, Int.le_refl, y1, y3]
        exact hQ
      · rw [if_neg y40] at hQ
        unfold bb_82
        simp only [qe_1, qe_3, qe_4, qe_5, qe_7, qe_72, qe_10, qe_102, qe_13, qe_14, qe_15, qe_16, qe_17, qe_18, qe_20, qe_22, qe_23, qe_21, qe_24, qe_25, qe_26, qe_27, qe_28, qe_30, qe_31, qe_32, qc_20, qc_22, qc_23, qc_21, qc_24, qc_25, qc_26, qc_27, qc_1, qc_3, qc_4, qc_7, qc_13, qc_28, qc_32, qs_1, qs_2, qs_3, qs_4, qs_5, qs_6, qs_9, qs_10, qs_11, qs_14, qs_15, qs_16, qs_27, qs_17, qs_18, qs_19, qs_20, qs_22, qs_23, qs_28, qs_25, qs_26, qs_7, qs_8, kc_1, kn_1, kc_2, kn_2, kc_3, kn_3, kc_4, kn_4, kc_5, kn_5, kc_6, kn_6, kc_7, kn_7, kc_8, kn_8, kc_9, kn_9, kc_10, kn_10, kc_11, kn_11, kc_12, kn_12, kc_13, kn_13, kc_14, kn_14, kc_15, kn_15, kc_16, kc_17, kc_18, kc_19, kc_20, kc_21, kc_22, kc_23, kc_30, kc_32, kc_40, kc_43, kc_45, kc_48, kc_52, kc_56, kc_57, kc_59, kc_60, kc_61, kc_63, kc_64, kc_72, kc_78, kc_97, kc_99, kc_122, kc_126, kc_128, kc_192, kc_200, kc_255, kc_999, kc_1000, kc_9999, kn_9999, kc_10000, kc_12345, kc_65536, kc_252645135, kc_858993459, kc_1103515245, kc_1431655765, kc_2147483647, kc_0, kc_24, kc_28, kc_37, kc_41, kc_42, kc_73, kc_91, kc_95, kc_96, kc_98, kc_100, kc_112, kc_125, kc_150, kc_162, kc_163, kc_168, kc_186, kc_190, kc_250, kc_355, kc_356, kc_404, kc_405, kc_429, kc_573, kc_1002, kc_1100, kc_1891, kc_2200, kc_4719, kc_4869, kc_4881, kc_5148, kc_19741, kc_25433, kc_320403, kc_628412, kc_629093, kc_660401, kc_679843, kc_918640, kc_979410, kc_1178088, kc_6232410, kc_24644941, kc_36238189, kc_38270444, kc_392531318, kc_425693491, kc_1342154595, kc_2147483648, kc_42328242873, kc_891704255789, kc_1722105685577, kc_1858726030364, ct_0, ct_1, ct_2, ct_3, ct_4, ct_5, cf_0, cf_1, cf_2, cf_3, cf_4, cf_5, w_ty6, w_ty7, m_sv, m_z0, m_hd, m_g0, m_gs, m_s0, m_ss, m_ap, m_an, forall_const, true_and, and_true, ne_eq, not_true_eq_false, not_false_eq_true, false_implies, true_implies, implies_true, eq_self, reduceCtorEq, Nat.reduceDiv, Nat.reduceMod, Int.reduceToNat, or_true, true_or, or_false, false_or, or_self, m_it, m_if, m_c1, m_01, m_02, m_03, m_04, m_10, m_12, m_13, m_14, m_20, m_21, m_23, m_24, m_30, m_31, m_32, m_34, m_40, m_41, m_42, m_43, Int.reduceLE, Int.reduceLT, Int.reduceGE, Int.reduceGT, Int.reduceNeg, Int.reduceAdd, Int.reduceSub, Int.reduceMul, Int.reduceEq, Int.reduceNe, Nat.reduceAdd, jun2, ro_0_0, ro_0_1, ro_0_2, ro_0_3, ro_0_4, ro_0_5, ro_0_6, ro_0_7, ro_0_8, ro_0_9, ro_0_10, ro_0_11, ro_0_12, ro_1_0, ro_1_1, ro_2_0, ro_4_0, ro_6_0, ro_6_1, ro_6_2, ro_6_3, ro_6_4, ro_6_5, ro_6_6, ro_6_7, ro_6_8, ro_8_0, ro_10_0, ro_12_0, ro_14_0, ro_16_0, ro_18_0, ro_20_0, ro_22_0, ro_22_1, ro_22_2, ro_23_0, ro_25_0, ro_27_0, ro_29_0, ro_29_1, ro_29_2, ro_29_3, ro_29_4, ro_29_5, ro_29_6, ro_29_7, ro_29_8, ro_31_0, ro_33_0, ro_35_0, ro_37_0, ro_39_0, ro_41_0, ro_43_0, ro_45_0, ro_45_1, ro_45_2, ro_46_0, ro_48_0, ro_50_0, ro_52_0, ro_52_1, ro_52_2, ro_52_3, ro_53_0, ro_55_0, ro_57_0, ro_59_0, ro_61_0, ro_61_1, ro_61_2, ro_61_3, ro_62_0, ro_64_0, ro_66_0, ro_68_0, ro_70_0, ro_70_1, ro_70_2, ro_70_3, ro_70_4, ro_70_5, ro_70_6, ro_70_7, ro_70_8, ro_70_9, ro_71_0, ro_73_0, ro_75_0, ro_77_0, ro_79_0, ro_81_0, ro_83_0, ro_85_0, ro_87_0, ro_89_0, ro_91_0, ro_91_1, ro_91_2, ro_91_3, ro_91_4, ro_91_5, ro_91_6, ro_91_7, ro_91_8, ro_91_9, ro_92_0, ro_94_0, ro_96_0, ro_98_0, ro_100_0, ro_102_0, ro_104_0, ro_106_0, ro_108_0, ro_110_0, ro_112_0, ro_112_1, ro_112_2, ro_112_3, ro_112_4, ro_112_5, ro_112_6, ro_112_7, ro_112_8, ro_112_9, ro_113_0, ro_115_0, ro_117_0, ro_119_0, ro_121_0, ro_123_0, ro_125_0, ro_127_0, ro_129_0, ro_131_0, ro_133_0, ro_133_1, ro_133_2, ro_133_3, ro_133_4, ro_133_5, ro_133_6, ro_133_7, ro_133_8, ro_133_9, ro_134_0, ro_136_0, ro_138_0, ro_140_0, ro_142_0, ro_144_0, ro_146_0, ro_148_0, ro_150_0, ro_152_0, ro_154_0, ro_155_0, ro_157_0, ro_157_1, ro_157_2, ro_157_3, ro_157_4, ro_157_5, ro_157_6, ro_157_7, ro_157_8, ro_157_9, ro_158_0, ro_160_0, ro_162_0, ro_164_0, ro_166_0, ro_168_0, ro_170_0, ro_172_0, ro_174_0, ro_176_0, ro_178_0, ro_180_0, ro_182_1, ro_182_4, ro_182_5, ro_182_6, ro_182_9, ro_182_10, ro_182_11, ro_182_13, ro_182_14, ro_182_15, ro_182_16, ro_182_17, ro_182_20, ro_182_21, ro_182_22, ro_182_23, ro_182_24, ro_182_26, ro_182_27, ro_182_28, lo_3, lo_5, lo_7, lo_9, lo_11, lo_13, lo_15, lo_17, lo_19, lo_21, lo_24, lo_26, lo_28, lo_30, lo_32, lo_34, lo_36, lo_38, lo_40, lo_42, lo_44, lo_47, lo_49, lo_51, lo_54, lo_56, lo_58, lo_60, lo_63, lo_65, lo_67, lo_69, lo_72, lo_74, lo_76, lo_78, lo_80, lo_82, lo_84, lo_86, lo_88, lo_90, lo_93, lo_95, lo_97, lo_99, lo_101, lo_103, lo_105, lo_107, lo_109, lo_111, lo_114, lo_116, lo_118, lo_120, lo_122, lo_124, lo_126, lo_128, lo_130, lo_132, lo_135, lo_137, lo_139, lo_141, lo_143, lo_145, lo_147, lo_149, lo_151, lo_153, lo_156, lo_159, lo_161, lo_163, lo_165, lo_167, lo_169, lo_171, lo_173, lo_175, lo_177, lo_179, lo_181, lo_183, lo_184, lo_185, lo_186, lo_187, lo_188, lo_189, lo_190, lo_191, lo_192, lo_193, lo_194, lo_195, lo_196, lo_197, lo_198, lo_199, lo_200, lo_201, lo_202, lo_203, jp_nn, jp_eq, jp_e1, Classical.not_not, ji0, ji1, ji2, cs17_73, kk_73, cs17_74, kk_74, cs17_77, kk_77, jl_0, jl_1, jl_2, jl_3, jl_4, jl_5, jl_6, jl_7, jl_8, jl_9, jl_10, jl_11, jl_12, jl_13, jl_14, jl_15, jl_16, jl_17, jl_18, jl_19, jl_20, jl_21, jl_22, jl_23, jl_24, jl_25, jl_26, jl_27, jl_28, jl_29, jl_30, jl_31, jl_32, jl_33, jl_34, jl_35, jl_36, jl_37, jl_38, jl_39, jl_40, jl_95, jl_96, jl_97, jl_98, jl_99, jl_100, jl_101, jl_102, jl_103, jl_104, jl_105, jl_106, jl_107, jl_108, jl_109, jl_110, jl_111, jl_112, jl_113, jl_114, jl_186, jl_1100, jr, ju, jpT, jpF, tnc, Nat.reduceEqDiff, reduceIte, and_false, false_and, not_true_eq_false, not_false_eq_true, or_false, gt_iff_lt, ge_iff_le, Int.lt_irrefl, Int.le_refl, y2, y40]
        refine ⟨fun y => ?_, fun y => ⟨fun y2 => ?_, fun y2 => ⟨fun y3 => ?_, fun y3 => ⟨fun y4 => ?_, fun y4 => ⟨fun y5 => ?_, fun y5 => ?_⟩⟩⟩⟩⟩
        · rw [if_pos y] at hQ; exact hQ
        · rw [if_neg y, if_pos y2] at hQ; exact hQ
        · rw [if_neg y, if_neg y2, if_pos y3] at hQ; exact hQ
        · rw [if_neg y, if_neg y2, if_neg y3, if_pos y4] at hQ; exact hQ
        · rw [if_neg y, if_neg y2, if_neg y3, if_neg y4, if_pos y5] at hQ; exact hQ
        · rw [if_neg y, if_neg y2, if_neg y3, if_neg y4, if_neg y5] at hQ; exact hQ
  · exact hQ.elim
theorem sw1 {C : CSt} {b c : SX} {k : Nat} {x : Int} {en : List Int} {h : XH} {R : PRR} : pS C (sx 25 (so k z0) b c) (x :: en) h R = ((x = sx_z k → pS C b en h fun c vs en1 h1 => c ≠ 0 → R c vs en1 h1) ∧ (¬ x = sx_z k → pS C c (x :: en) h R)) := by
  have e : ((decide (x = sx_z k) || false) = true) = (x = sx_z k) := by simp
  have e2_w : ((decide (x = sx_z k) || false) = false) = ¬ (x = sx_z k) := by simp
  show (((decide (x = sx_z k) || false) = true → pS C b en h fun c vs en1 h1 => c ≠ 0 → R c vs en1 h1) ∧ ((decide (x = sx_z k) || false) = false → pS C c (x :: en) h R)) = _
  rw [e, e2_w]
theorem sz_60 : sx_z 120 = 60 := by decide
theorem sz_61 : sx_z 122 = 61 := by decide
theorem sz_43 : sx_z 86 = 43 := by decide
theorem sz_45 : sx_z 90 = 45 := by decide
theorem sz_42 : sx_z 84 = 42 := by decide
theorem sz_41 : sx_z 82 = 41 := by decide
theorem tl_c {x : Int} {l : List Int} : (x :: l).tail = l := rfl
theorem m_83 : BodyOK CS17 CS17 83 := fun av h Q hQ => by
  rw [cs17_83] at hQ
  unfold k83 at hQ
  split at hQ
  · rename_i o
    obtain ⟨rfl, hQ⟩ := hQ
    unfold jvh jvw at hQ
    show pS CS17 bb_83 [2, 0] h _
    by_cases y3 : h 2 3 = 3
    · rw [if_pos y3] at hQ
      have ew : wrd 3 (h 2 6) = 23 := if_neg (by decide)
      by_cases y60 : h 2 5 = 60
      · rw [if_pos y60] at hQ
        unfold bb_83
        simp only [sw1, qe_1, qe_3, qe_4, qe_5, qe_7, qe_72, qe_10, qe_102, qe_13, qe_14, qe_15, qe_16, qe_17, qe_18, qe_20, qe_22, qe_23, qe_21, qe_24, qe_25, qe_26, qe_27, qe_28, qe_30, qe_31, qe_32, qc_20, qc_22, qc_23, qc_21, qc_24, qc_25, qc_26, qc_27, qc_1, qc_3, qc_4, qc_7, qc_13, qc_28, qc_32, qs_1, qs_2, qs_3, qs_4, qs_5, qs_6, qs_9, qs_10, qs_11, qs_14, qs_15, qs_16, qs_27, qs_17, qs_18, qs_19, qs_20, qs_22, qs_23, qs_28, qs_26, qs_7, qs_8, kc_1, kn_1, kc_2, kn_2, kc_3, kn_3, kc_4, kn_4, kc_5, kn_5, kc_6, kn_6, kc_7, kn_7, kc_8, kn_8, kc_9, kn_9, kc_10, kn_10, kc_11, kn_11, kc_12, kn_12, kc_13, kn_13, kc_14, kn_14, kc_15, kn_15, kc_16, kc_17, kc_18, kc_19, kc_20, kc_21, kc_22, kc_23, kc_30, kc_32, kc_40, kc_43, kc_45, kc_48, kc_52, kc_56, kc_57, kc_59, kc_60, kc_61, kc_63, kc_64, kc_72, kc_78, kc_97, kc_99, kc_122, kc_126, kc_128, kc_192, kc_200, kc_255, kc_999, kc_1000, kc_9999, kn_9999, kc_10000, kc_12345, kc_65536, kc_252645135, kc_858993459, kc_1103515245, kc_1431655765, kc_2147483647, kc_0, kc_24, kc_28, kc_37, kc_41, kc_42, kc_73, kc_91, kc_95, kc_96, kc_98, kc_100, kc_112, kc_125, kc_150, kc_162, kc_163, kc_168, kc_186, kc_190, kc_250, kc_355, kc_356, kc_404, kc_405, kc_429, kc_573, kc_1002, kc_1100, kc_1891, kc_2200, kc_4719, kc_4869, kc_4881, kc_5148, kc_19741, kc_25433, kc_320403, kc_628412, kc_629093, kc_660401, kc_679843, kc_918640, kc_979410, kc_1178088, kc_6232410, kc_24644941, kc_36238189, kc_38270444, kc_392531318, kc_425693491, kc_1342154595, kc_2147483648, kc_42328242873, kc_891704255789, kc_1722105685577, kc_1858726030364, ct_0, ct_1, ct_2, ct_3, ct_4, ct_5, cf_0, cf_1, cf_2, cf_3, cf_4, cf_5, w_ty6, w_ty7, m_sv, m_z0, m_hd, m_g0, m_gs, m_s0, m_ss, m_ap, m_an, forall_const, true_and, and_true, ne_eq, not_true_eq_false, not_false_eq_true, false_implies, true_implies, implies_true, eq_self, reduceCtorEq, Nat.reduceDiv, Nat.reduceMod, Int.reduceToNat, or_true, true_or, or_false, false_or, or_self, m_it, m_if, m_c1, m_01, m_02, m_03, m_04, m_10, m_12, m_13, m_14, m_20, m_21, m_23, m_24, m_30, m_31, m_32, m_34, m_40, m_41, m_42, m_43, Int.reduceLE, Int.reduceLT, Int.reduceGE, Int.reduceGT, Int.reduceNeg, Int.reduceAdd, Int.reduceSub, Int.reduceMul, Int.reduceEq, Int.reduceNe, Nat.reduceAdd, jun2, ro_0_0, ro_0_1, ro_0_2, ro_0_3, ro_0_4, ro_0_5, ro_0_6, ro_0_7, ro_0_8, ro_0_9, ro_0_10, ro_0_11, ro_0_12, ro_1_0, ro_1_1, ro_2_0, ro_4_0, ro_6_0, ro_6_1, ro_6_2, ro_6_3, ro_6_4, ro_6_5, ro_6_6, ro_6_7, ro_6_8, ro_8_0, ro_10_0, ro_12_0, ro_14_0, ro_16_0, ro_18_0, ro_20_0, ro_22_0, ro_22_1, ro_22_2, ro_23_0, ro_25_0, ro_27_0, ro_29_0, ro_29_1, ro_29_2, ro_29_3, ro_29_4, ro_29_5, ro_29_6, ro_29_7, ro_29_8, ro_31_0, ro_33_0, ro_35_0, ro_37_0, ro_39_0, ro_41_0, ro_43_0, ro_45_0, ro_45_1, ro_45_2, ro_46_0, ro_48_0, ro_50_0, ro_52_0, ro_52_1, ro_52_2, ro_52_3, ro_53_0, ro_55_0, ro_57_0, ro_59_0, ro_61_0, ro_61_1, ro_61_2, ro_61_3, ro_62_0, ro_64_0, ro_66_0, ro_68_0, ro_70_0, ro_70_1, ro_70_2, ro_70_3, ro_70_4, ro_70_5, ro_70_6, ro_70_7, ro_70_8, ro_70_9, ro_71_0, ro_73_0, ro_75_0, ro_77_0, ro_79_0, ro_81_0, ro_83_0, ro_85_0, ro_87_0, ro_89_0, ro_91_0, ro_91_1, ro_91_2, ro_91_3, ro_91_4, ro_91_5, ro_91_6, ro_91_7, ro_91_8, ro_91_9, ro_92_0, ro_94_0, ro_96_0, ro_98_0, ro_100_0, ro_102_0, ro_104_0, ro_106_0, ro_108_0, ro_110_0, ro_112_0, ro_112_1, ro_112_2, ro_112_3, ro_112_4, ro_112_5, ro_112_6, ro_112_7, ro_112_8, ro_112_9, ro_113_0, ro_115_0, ro_117_0, ro_119_0, ro_121_0, ro_123_0, ro_125_0, ro_127_0, ro_129_0, ro_131_0, ro_133_0, ro_133_1, ro_133_2, ro_133_3, ro_133_4, ro_133_5, ro_133_6, ro_133_7, ro_133_8, ro_133_9, ro_134_0, ro_136_0, ro_138_0, ro_140_0, ro_142_0, ro_144_0, ro_146_0, ro_148_0, ro_150_0, ro_152_0, ro_154_0, ro_155_0, ro_157_0, ro_157_1, ro_157_2, ro_157_3, ro_157_4, ro_157_5, ro_157_6, ro_157_7, ro_157_8, ro_157_9, ro_158_0, ro_160_0, ro_162_0, ro_164_0, ro_166_0, ro_168_0, ro_170_0, ro_172_0, ro_174_0, ro_176_0, ro_178_0, ro_180_0, ro_182_1, ro_182_4, ro_182_5, ro_182_6, ro_182_9, ro_182_10, ro_182_11, ro_182_13, ro_182_14, ro_182_15, ro_182_16, ro_182_17, ro_182_20, ro_182_21, ro_182_22, ro_182_23, ro_182_24, ro_182_26, ro_182_27, ro_182_28, lo_3, lo_5, lo_7, lo_9, lo_11, lo_13, lo_15, lo_17, lo_19, lo_21, lo_24, lo_26, lo_28, lo_30, lo_32, lo_34, lo_36, lo_38, lo_40, lo_42, lo_44, lo_47, lo_49, lo_51, lo_54, lo_56, lo_58, lo_60, lo_63, lo_65, lo_67, lo_69, lo_72, lo_74, lo_76, lo_78, lo_80, lo_82, lo_84, lo_86, lo_88, lo_90, lo_93, lo_95, lo_97, lo_99, lo_101, lo_103, lo_105, lo_107, lo_109, lo_111, lo_114, lo_116, lo_118, lo_120, lo_122, lo_124, lo_126, lo_128, lo_130, lo_132, lo_135, lo_137, lo_139, lo_141, lo_143, lo_145, lo_147, lo_149, lo_151, lo_153, lo_156, lo_159, lo_161, lo_163, lo_165, lo_167, lo_169, lo_171, lo_173, lo_175, lo_177, lo_179, lo_181, lo_183, lo_184, lo_185, lo_186, lo_187, lo_188, lo_189, lo_190, lo_191, lo_192, lo_193, lo_194, lo_195, lo_196, lo_197, lo_198, lo_199, lo_200, lo_201, lo_202, lo_203, jp_nn, jp_eq, jp_e1, Classical.not_not, ji0, ji1, ji2, sz_60, sz_61, sz_43, sz_45, sz_42, sz_41, tl_c, cs17_75, kk_75, cs17_77, kk_77, jl_0, jl_1, jl_2, jl_3, jl_4, jl_5, jl_6, jl_7, jl_8, jl_9, jl_10, jl_11, jl_12, jl_13, jl_14, jl_15, jl_16, jl_17, jl_18, jl_19, jl_20, jl_21, jl_22, jl_23, jl_24, jl_25, jl_26, jl_27, jl_28, jl_29, jl_30, jl_31, jl_32, jl_33, jl_34, jl_35, jl_36, jl_37, jl_38, jl_39, jl_40, jl_95, jl_96, jl_97, jl_98, jl_99, jl_100, jl_101, jl_102, jl_103, jl_104, jl_105, jl_106, jl_107, jl_108, jl_109, jl_110, jl_111, jl_112, jl_113, jl_114, jl_186, jl_1100, jr, ju, jpT, jpF, tnc, Nat.reduceEqDiff, reduceIte, and_false, false_and, not_true_eq_false, not_false_eq_true, or_false, gt_iff_lt, ge_iff_le, Int.lt_irrefl, Int.le_refl, y3, y60]
        exact hQ
      rw [if_neg y60] at hQ
      by_cases y61 : h 2 5 = 61
      · rw [if_pos y61] at hQ
        unfold bb_83
        simp only [sw1, qe_1, qe_3, qe_4, qe_5, qe_7, qe_72, qe_10, qe_102, qe_13, qe_14, qe_15, qe_16, qe_17, qe_18, qe_20, qe_22, qe_23, qe_21, qe_24, qe_25, qe_26, qe_27, qe_28, qe_30, qe_31, qe_32, qc_20, qc_22, qc_23, qc_21, qc_24, qc_25, qc_26, qc_27, qc_1, qc_3, qc_4, qc_7, qc_13, qc_28, qc_32, qs_1, qs_2, qs_3, qs_4, qs_5, qs_6, qs_9, qs_10, qs_11, qs_14, qs_15, qs_16, qs_27, qs_17, qs_18, qs_19, qs_20, qs_22, qs_23, qs_28, qs_26, qs_7, qs_8, kc_1, kn_1, kc_2, kn_2, kc_3, kn_3, kc_4, kn_4, kc_5, kn_5, kc_6, kn_6, kc_7, kn_7, kc_8, kn_8, kc_9, kn_9, kc_10, kn_10, kc_11, kn_11, kc_12, kn_12, kc_13, kn_13, kc_14, kn_14, kc_15, kn_15, kc_16, kc_17, kc_18, kc_19, kc_20, kc_21, kc_22, kc_23, kc_30, kc_32, kc_40, kc_43, kc_45, kc_48, kc_52, kc_56, kc_57, kc_59, kc_60, kc_61, kc_63, kc_64, kc_72, kc_78, kc_97, kc_99, kc_122, kc_126, kc_128, kc_192, kc_200, kc_255, kc_999, kc_1000, kc_9999, kn_9999, kc_10000, kc_12345, kc_65536, kc_252645135, kc_858993459, kc_1103515245, kc_1431655765, kc_2147483647, kc_0, kc_24, kc_28, kc_37, kc_41, kc_42, kc_73, kc_91, kc_95, kc_96, kc_98, kc_100, kc_112, kc_125, kc_150, kc_162, kc_163, kc_168, kc_186, kc_190, kc_250, kc_355, kc_356, kc_404, kc_405, kc_429, kc_573, kc_1002, kc_1100, kc_1891, kc_2200, kc_4719, kc_4869, kc_4881, kc_5148, kc_19741, kc_25433, kc_320403, kc_628412, kc_629093, kc_660401, kc_679843, kc_918640, kc_979410, kc_1178088, kc_6232410, kc_24644941, kc_36238189, kc_38270444, kc_392531318, kc_425693491, kc_1342154595, kc_2147483648, kc_42328242873, kc_891704255789, kc_1722105685577, kc_1858726030364, ct_0, ct_1, ct_2, ct_3, ct_4, ct_5, cf_0, cf_1, cf_2, cf_3, cf_4, cf_5, w_ty6, w_ty7, m_sv, m_z0, m_hd, m_g0, m_gs, m_s0, m_ss, m_ap, m_an, forall_const, true_and, and_true, ne_eq, not_true_eq_false, not_false_eq_true, false_implies, true_implies, implies_true, eq_self, reduceCtorEq, Nat.reduceDiv, Nat.reduceMod, Int.reduceToNat, or_true, true_or, or_false, false_or, or_self, m_it, m_if, m_c1, m_01, m_02, m_03, m_04, m_10, m_12, m_13, m_14, m_20, m_21, m_23, m_24, m_30, m_31, m_32, m_34, m_40, m_41, m_42, m_43, Int.reduceLE, Int.reduceLT, Int.reduceGE, Int.reduceGT, Int.reduceNeg, Int.reduceAdd, Int.reduceSub, Int.reduceMul, Int.reduceEq, Int.reduceNe, Nat.reduceAdd, jun2, ro_0_0, ro_0_1, ro_0_2, ro_0_3, ro_0_4, ro_0_5, ro_0_6, ro_0_7, ro_0_8, ro_0_9, ro_0_10, ro_0_11, ro_0_12, ro_1_0, ro_1_1, ro_2_0, ro_4_0, ro_6_0, ro_6_1, ro_6_2, ro_6_3, ro_6_4, ro_6_5, ro_6_6, ro_6_7, ro_6_8, ro_8_0, ro_10_0, ro_12_0, ro_14_0, ro_16_0, ro_18_0, ro_20_0, ro_22_0, ro_22_1, ro_22_2, ro_23_0, ro_25_0, ro_27_0, ro_29_0, ro_29_1, ro_29_2, ro_29_3, ro_29_4, ro_29_5, ro_29_6, ro_29_7, ro_29_8, ro_31_0, ro_33_0, ro_35_0, ro_37_0, ro_39_0, ro_41_0, ro_43_0, ro_45_0, ro_45_1, ro_45_2, ro_46_0, ro_48_0, ro_50_0, ro_52_0, ro_52_1, ro_52_2, ro_52_3, ro_53_0, ro_55_0, ro_57_0, ro_59_0, ro_61_0, ro_61_1, ro_61_2, ro_61_3, ro_62_0, ro_64_0, ro_66_0, ro_68_0, ro_70_0, ro_70_1, ro_70_2, ro_70_3, ro_70_4, ro_70_5, ro_70_6, ro_70_7, ro_70_8, ro_70_9, ro_71_0, ro_73_0, ro_75_0, ro_77_0, ro_79_0, ro_81_0, ro_83_0, ro_85_0, ro_87_0, ro_89_0, ro_91_0, ro_91_1, ro_91_2, ro_91_3, ro_91_4, ro_91_5, ro_91_6, ro_91_7, ro_91_8, ro_91_9, ro_92_0, ro_94_0, ro_96_0, ro_98_0, ro_100_0, ro_102_0, ro_104_0, ro_106_0, ro_108_0, ro_110_0, ro_112_0, ro_112_1, ro_112_2, ro_112_3, ro_112_4, ro_112_5, ro_112_6, ro_112_7, ro_112_8, ro_112_9, ro_113_0, ro_115_0, ro_117_0, ro_119_0, ro_121_0, ro_123_0, ro_125_0, ro_127_0, ro_129_0, ro_131_0, ro_133_0, ro_133_1, ro_133_2, ro_133_3, ro_133_4, ro_133_5, ro_133_6, ro_133_7, ro_133_8, ro_133_9, ro_134_0, ro_136_0, ro_138_0, ro_140_0, ro_142_0, ro_144_0, ro_146_0, ro_148_0, ro_150_0, ro_152_0, ro_154_0, ro_155_0, ro_157_0, ro_157_1, ro_157_2, ro_157_3, ro_157_4, ro_157_5, ro_157_6, ro_157_7, ro_157_8, ro_157_9, ro_158_0, ro_160_0, ro_162_0, ro_164_0, ro_166_0, ro_168_0, ro_170_0, ro_172_0, ro_174_0, ro_176_0, ro_178_0, ro_180_0, ro_182_1, ro_182_4, ro_182_5, ro_182_6, ro_182_9, ro_182_10, ro_182_11, ro_182_13, ro_182_14, ro_182_15, ro_182_16, ro_182_17, ro_182_20, ro_182_21, ro_182_22, ro_182_23, ro_182_24, ro_182_26, ro_182_27, ro_182_28, lo_3, lo_5, lo_7, lo_9, lo_11, lo_13, lo_15, lo_17, lo_19, lo_21, lo_24, lo_26, lo_28, lo_30, lo_32, lo_34, lo_36, lo_38, lo_40, lo_42, lo_44, lo_47, lo_49, lo_51, lo_54, lo_56, lo_58, lo_60, lo_63, lo_65, lo_67, lo_69, lo_72, lo_74, lo_76, lo_78, lo_80, lo_82, lo_84, lo_86, lo_88, lo_90, lo_93, lo_95, lo_97, lo_99, lo_101, lo_103, lo_105, lo_107, lo_109, lo_111, lo_114, lo_116, lo_118, lo_120, lo_122, lo_124, lo_126, lo_128, lo_130, lo_132, lo_135, lo_137, lo_139, lo_141, lo_143, lo_145, lo_147, lo_149, lo_151, lo_153, lo_156, lo_159, lo_161, lo_163, lo_165, lo_167, lo_169, lo_171, lo_173, lo_175, lo_177, lo_179, lo_181, lo_183, lo_184, lo_185, lo_186, lo_187, lo_188, lo_189, lo_190, lo_191, lo_192, lo_193, lo_194, lo_195, lo_196, lo_197, lo_198, lo_199, lo_200, lo_201, lo_202, lo_203, jp_nn, jp_eq, jp_e1, Classical.not_not, ji0, ji1, ji2, sz_60, sz_61, sz_43, sz_45, sz_42, sz_41, tl_c, cs17_75, kk_75, cs17_77, kk_77, jl_0, jl_1, jl_2, jl_3, jl_4, jl_5, jl_6, jl_7, jl_8, jl_9, jl_10, jl_11, jl_12, jl_13, jl_14, jl_15, jl_16, jl_17, jl_18, jl_19, jl_20, jl_21, jl_22, jl_23, jl_24, jl_25, jl_26, jl_27, jl_28, jl_29, jl_30, jl_31, jl_32, jl_33, jl_34, jl_35, jl_36, jl_37, jl_38, jl_39, jl_40, jl_95, jl_96, jl_97, jl_98, jl_99, jl_100, jl_101, jl_102, jl_103, jl_104, jl_105, jl_106, jl_107, jl_108, jl_109, jl_110, jl_111, jl_112, jl_113, jl_114, jl_186, jl_1100, jr, ju, jpT, jpF, tnc, Nat.reduceEqDiff, reduceIte, and_false, false_and, not_true_eq_false, not_false_eq_true, or_false, gt_iff_lt, ge_iff_le, Int.lt_irrefl, Int.le_refl, y3, y61]
        exact hQ
      rw [if_neg y61] at hQ
      by_cases y43 : h 2 5 = 43
      · rw [if_pos y43] at hQ
        unfold bb_83
        simp only [sw1, qe_1, qe_3, qe_4, qe_5, qe_7, qe_72, qe_10, qe_102, qe_13, qe_14, qe_15, qe_16, qe_17, qe_18, qe_20, qe_22, qe_23, qe_21, qe_24, qe_25, qe_26, qe_27, qe_28, qe_30, qe_31, qe_32, qc_20, qc_22, qc_23, qc_21, qc_24, qc_25, qc_26, qc_27, qc_1, qc_3, qc_4, qc_7, qc_13, qc_28, qc_32, qs_1, qs_2, qs_3, qs_4, qs_5, qs_6, qs_9, qs_10, qs_11, qs_14, qs_15, qs_16, qs_27, qs_17, qs_18, qs_19, qs_20, qs_22, qs_23, qs_28, qs_26, qs_7, qs_8, kc_1, kn_1, kc_2, kn_2, kc_3, kn_3, kc_4, kn_4, kc_5, kn_5, kc_6, kn_6, kc_7, kn_7, kc_8, kn_8, kc_9, kn_9, kc_10, kn_10, kc_11, kn_11, kc_12, kn_12, kc_13, kn_13, kc_14, kn_14, kc_15, kn_15, kc_16, kc_17, kc_18, kc_19, kc_20, kc_21, kc_22, kc_23, kc_30, kc_32, kc_40, kc_43, kc_45, kc_48, kc_52, kc_56, kc_57, kc_59, kc_60, kc_61, kc_63, kc_64, kc_72, kc_78, kc_97, kc_99, kc_122, kc_126, kc_128, kc_192, kc_200, kc_255, kc_999, kc_1000, kc_9999, kn_9999, kc_10000, kc_12345, kc_65536, kc_252645135, kc_858993459, kc_1103515245, kc_1431655765, kc_2147483647, kc_0, kc_24, kc_28, kc_37, kc_41, kc_42, kc_73, kc_91, kc_95, kc_96, kc_98, kc_100, kc_112, kc_125, kc_150, kc_162, kc_163, kc_168, kc_186, kc_190, kc_250, kc_355, kc_356, kc_404, kc_405, kc_429, kc_573, kc_1002, kc_1100, kc_1891, kc_2200, kc_4719, kc_4869, kc_4881, kc_5148, kc_19741, kc_25433, kc_320403, kc_628412, kc_629093, kc_660401, kc_679843, kc_918640, kc_979410, kc_1178088, kc_6232410, kc_24644941, kc_36238189, kc_38270444, kc_392531318, kc_425693491, kc_1342154595, kc_2147483648, kc_42328242873, kc_891704255789, kc_1722105685577, kc_1858726030364, ct_0, ct_1, ct_2, ct_3, ct_4, ct_5, cf_0, cf_1, cf_2, cf_3, cf_4, cf_5, w_ty6, w_ty7, m_sv, m_z0, m_hd, m_g0, m_gs, m_s0, m_ss, m_ap, m_an, forall_const, true_and, and_true, ne_eq, not_true_eq_false, not_false_eq_true, false_implies, true_implies, implies_true, eq_self, reduceCtorEq, Nat.reduceDiv, Nat.reduceMod, Int.reduceToNat, or_true, true_or, or_false, false_or, or_self, m_it, m_if, m_c1, m_01, m_02, m_03, m_04, m_10, m_12, m_13, m_14, m_20, m_21, m_23, m_24, m_30, m_31, m_32, m_34, m_40, m_41, m_42, m_43, Int.reduceLE, Int.reduceLT, Int.reduceGE, Int.reduceGT, Int.reduceNeg, Int.reduceAdd, Int.reduceSub, Int.reduceMul, Int.reduceEq, Int.reduceNe, Nat.reduceAdd, jun2, ro_0_0, ro_0_1, ro_0_2, ro_0_3, ro_0_4, ro_0_5, ro_0_6, ro_0_7, ro_0_8, ro_0_9, ro_0_10, ro_0_11, ro_0_12, ro_1_0, ro_1_1, ro_2_0, ro_4_0, ro_6_0, ro_6_1, ro_6_2, ro_6_3, ro_6_4, ro_6_5, ro_6_6, ro_6_7, ro_6_8, ro_8_0, ro_10_0, ro_12_0, ro_14_0, ro_16_0, ro_18_0, ro_20_0, ro_22_0, ro_22_1, ro_22_2, ro_23_0, ro_25_0, ro_27_0, ro_29_0, ro_29_1, ro_29_2, ro_29_3, ro_29_4, ro_29_5, ro_29_6, ro_29_7, ro_29_8, ro_31_0, ro_33_0, ro_35_0, ro_37_0, ro_39_0, ro_41_0, ro_43_0, ro_45_0, ro_45_1, ro_45_2, ro_46_0, ro_48_0, ro_50_0, ro_52_0, ro_52_1, ro_52_2, ro_52_3, ro_53_0, ro_55_0, ro_57_0, ro_59_0, ro_61_0, ro_61_1, ro_61_2, ro_61_3, ro_62_0, ro_64_0, ro_66_0, ro_68_0, ro_70_0, ro_70_1, ro_70_2, ro_70_3, ro_70_4, ro_70_5, ro_70_6, ro_70_7, ro_70_8, ro_70_9, ro_71_0, ro_73_0, ro_75_0, ro_77_0, ro_79_0, ro_81_0, ro_83_0, ro_85_0, ro_87_0, ro_89_0, ro_91_0, ro_91_1, ro_91_2, ro_91_3, ro_91_4, ro_91_5, ro_91_6, ro_91_7, ro_91_8, ro_91_9, ro_92_0, ro_94_0, ro_96_0, ro_98_0, ro_100_0, ro_102_0, ro_104_0, ro_106_0, ro_108_0, ro_110_0, ro_112_0, ro_112_1, ro_112_2, ro_112_3, ro_112_4, ro_112_5, ro_112_6, ro_112_7, ro_112_8, ro_112_9, ro_113_0, ro_115_0, ro_117_0, ro_119_0, ro_121_0, ro_123_0, ro_125_0, ro_127_0, ro_129_0, ro_131_0, ro_133_0, ro_133_1, ro_133_2, ro_133_3, ro_133_4, ro_133_5, ro_133_6, ro_133_7, ro_133_8, ro_133_9, ro_134_0, ro_136_0, ro_138_0, ro_140_0, ro_142_0, ro_144_0, ro_146_0, ro_148_0, ro_150_0, ro_152_0, ro_154_0, ro_155_0, ro_157_0, ro_157_1, ro_157_2, ro_157_3, ro_157_4, ro_157_5, ro_157_6, ro_157_7, ro_157_8, ro_157_9, ro_158_0, ro_160_0, ro_162_0, ro_164_0, ro_166_0, ro_168_0, ro_170_0, ro_172_0, ro_174_0, ro_176_0, ro_178_0, ro_180_0, ro_182_1, ro_182_4, ro_182_5, ro_182_6, ro_182_9, ro_182_10, ro_182_11, ro_182_13, ro_182_14, ro_182_15, ro_182_16, ro_182_17, ro_182_20, ro_182_21, ro_182_22, ro_182_23, ro_182_24, ro_182_26, ro_182_27, ro_182_28, lo_3, lo_5, lo_7, lo_9, lo_11, lo_13, lo_15, lo_17, lo_19, lo_21, lo_24, lo_26, lo_28, lo_30, lo_32, lo_34, lo_36, lo_38, lo_40, lo_42, lo_44, lo_47, lo_49, lo_51, lo_54, lo_56, lo_58, lo_60, lo_63, lo_65, lo_67, lo_69, lo_72, lo_74, lo_76, lo_78, lo_80, lo_82, lo_84, lo_86, lo_88, lo_90, lo_93, lo_95, lo_97, lo_99, lo_101, lo_103, lo_105, lo_107, lo_109, lo_111, lo_114, lo_116, lo_118, lo_120, lo_122, lo_124, lo_126, lo_128, lo_130, lo_132, lo_135, lo_137, lo_139, lo_141, lo_143, lo_145, lo_147, lo_149, lo_151, lo_153, lo_156, lo_159, lo_161, lo_163, lo_165, lo_167, lo_169, lo_171, lo_173, lo_175, lo_177, lo_179, lo_181, lo_183, lo_184, lo_185, lo_186, lo_187, lo_188, lo_189, lo_190, lo_191, lo_192, lo_193, lo_194, lo_195, lo_196, lo_197, lo_198, lo_199, lo_200, lo_201, lo_202, lo_203, jp_nn, jp_eq, jp_e1, Classical.not_not, ji0, ji1, ji2, sz_60, sz_61, sz_43, sz_45, sz_42, sz_41, tl_c, cs17_75, kk_75, cs17_77, kk_77, jl_0, jl_1, jl_2, jl_3, jl_4, jl_5, jl_6, jl_7, jl_8, jl_9, jl_10, jl_11, jl_12, jl_13, jl_14, jl_15, jl_16, jl_17, jl_18, jl_19, jl_20, jl_21, jl_22, jl_23, jl_24, jl_25, jl_26, jl_27, jl_28, jl_29, jl_30, jl_31, jl_32, jl_33, jl_34, jl_35, jl_36, jl_37, jl_38, jl_39, jl_40, jl_95, jl_96, jl_97, jl_98, jl_99, jl_100, jl_101, jl_102, jl_103, jl_104, jl_105, jl_106, jl_107, jl_108, jl_109, jl_110, jl_111, jl_112, jl_113, jl_114, jl_186, jl_1100, jr, ju, jpT, jpF, tnc, Nat.reduceEqDiff, reduceIte, and_false, false_and, not_true_eq_false, not_false_eq_true, or_false, gt_iff_lt, ge_iff_le, Int.lt_irrefl, Int.le_refl, y3, y43]
        exact hQ
      rw [if_neg y43] at hQ
      by_cases y45 : h 2 5 = 45
      · rw [if_pos y45] at hQ
        unfold bb_83
        simp only [sw1, qe_1, qe_3, qe_4, qe_5, qe_7, qe_72, qe_10, qe_102, qe_13, qe_14, qe_15, qe_16, qe_17, qe_18, qe_20, qe_22, qe_23, qe_21, qe_24, qe_25, qe_26, qe_27, qe_28, qe_30, qe_31, qe_32, qc_20, qc_22, qc_23, qc_21, qc_24, qc_25, qc_26, qc_27, qc_1, qc_3, qc_4, qc_7, qc_13, qc_28, qc_32, qs_1, qs_2, qs_3, qs_4, qs_5, qs_6, qs_9, qs_10, qs_11, qs_14, qs_15, qs_16, qs_27, qs_17, qs_18, qs_19, qs_20, qs_22, qs_23, qs_28, qs_26, qs_7, qs_8, kc_1, kn_1, kc_2, kn_2, kc_3, kn_3, kc_4, kn_4, kc_5, kn_5, kc_6, kn_6, kc_7, kn_7, kc_8, kn_8, kc_9, kn_9, kc_10, kn_10, kc_11, kn_11, kc_12, kn_12, kc_13, kn_13, kc_14, kn_14, kc_15, kn_15, kc_16, kc_17, kc_18, kc_19, kc_20, kc_21, kc_22, kc_23, kc_30, kc_32, kc_40, kc_43, kc_45, kc_48, kc_52, kc_56, kc_57, kc_59, kc_60, kc_61, kc_63, kc_64, kc_72, kc_78, kc_97, kc_99, kc_122, kc_126, kc_128, kc_192, kc_200, kc_255, kc_999, kc_1000, kc_9999, kn_9999, kc_10000, kc_12345, kc_65536, kc_252645135, kc_858993459, kc_1103515245, kc_1431655765, kc_2147483647, kc_0, kc_24, kc_28, kc_37, kc_41, kc_42, kc_73, kc_91, kc_95, kc_96, kc_98, kc_100, kc_112, kc_125, kc_150, kc_162, kc_163, kc_168, kc_186, kc_190, kc_250, kc_355, kc_356, kc_404, kc_405, kc_429, kc_573, kc_1002, kc_1100, kc_1891, kc_2200, kc_4719, kc_4869, kc_4881, kc_5148, kc_19741, kc_25433, kc_320403, kc_628412, kc_629093, kc_660401, kc_679843, kc_918640, kc_979410, kc_1178088, kc_6232410, kc_24644941, kc_36238189, kc_38270444, kc_392531318, kc_425693491, kc_1342154595, kc_2147483648, kc_42328242873, kc_891704255789, kc_1722105685577, kc_1858726030364, ct_0, ct_1, ct_2, ct_3, ct_4, ct_5, cf_0, cf_1, cf_2, cf_3, cf_4, cf_5, w_ty6, w_ty7, m_sv, m_z0, m_hd, m_g0, m_gs, m_s0, m_ss, m_ap, m_an, forall_const, true_and, and_true, ne_eq, not_true_eq_false, not_false_eq_true, false_implies, true_implies, implies_true, eq_self, reduceCtorEq, Nat.reduceDiv, Nat.reduceMod, Int.reduceToNat, or_true, true_or, or_false, false_or, or_self, m_it, m_if, m_c1, m_01, m_02, m_03, m_04, m_10, m_12, m_13, m_14, m_20, m_21, m_23, m_24, m_30, m_31, m_32, m_34, m_40, m_41, m_42, m_43, Int.reduceLE, Int.reduceLT, Int.reduceGE, Int.reduceGT, Int.reduceNeg, Int.reduceAdd, Int.reduceSub, Int.reduceMul, Int.reduceEq, Int.reduceNe, Nat.reduceAdd, jun2, ro_0_0, ro_0_1, ro_0_2, ro_0_3, ro_0_4, ro_0_5, ro_0_6, ro_0_7, ro_0_8, ro_0_9, ro_0_10, ro_0_11, ro_0_12, ro_1_0, ro_1_1, ro_2_0, ro_4_0, ro_6_0, ro_6_1, ro_6_2, ro_6_3, ro_6_4, ro_6_5, ro_6_6, ro_6_7, ro_6_8, ro_8_0, ro_10_0, ro_12_0, ro_14_0, ro_16_0, ro_18_0, ro_20_0, ro_22_0, ro_22_1, ro_22_2, ro_23_0, ro_25_0, ro_27_0, ro_29_0, ro_29_1, ro_29_2, ro_29_3, ro_29_4, ro_29_5, ro_29_6, ro_29_7, ro_29_8, ro_31_0, ro_33_0, ro_35_0, ro_37_0, ro_39_0, ro_41_0, ro_43_0, ro_45_0, ro_45_1, ro_45_2, ro_46_0, ro_48_0, ro_50_0, ro_52_0, ro_52_1, ro_52_2, ro_52_3, ro_53_0, ro_55_0, ro_57_0, ro_59_0, ro_61_0, ro_61_1, ro_61_2, ro_61_3, ro_62_0, ro_64_0, ro_66_0, ro_68_0, ro_70_0, ro_70_1, ro_70_2, ro_70_3, ro_70_4, ro_70_5, ro_70_6, ro_70_7, ro_70_8, ro_70_9, ro_71_0, ro_73_0, ro_75_0, ro_77_0, ro_79_0, ro_81_0, ro_83_0, ro_85_0, ro_87_0, ro_89_0, ro_91_0, ro_91_1, ro_91_2, ro_91_3, ro_91_4, ro_91_5, ro_91_6, ro_91_7, ro_91_8, ro_91_9, ro_92_0, ro_94_0, ro_96_0, ro_98_0, ro_100_0, ro_102_0, ro_104_0, ro_106_0, ro_108_0, ro_110_0, ro_112_0, ro_112_1, ro_112_2, ro_112_3, ro_112_4, ro_112_5, ro_112_6, ro_112_7, ro_112_8, ro_112_9, ro_113_0, ro_115_0, ro_117_0, ro_119_0, ro_121_0, ro_123_0, ro_125_0, ro_127_0, ro_129_0, ro_131_0, ro_133_0, ro_133_1, ro_133_2, ro_133_3, ro_133_4, ro_133_5, ro_133_6, ro_133_7, ro_133_8, ro_133_9, ro_134_0, ro_136_0, ro_138_0, ro_140_0, ro_142_0, ro_144_0, ro_146_0, ro_148_0, ro_150_0, ro_152_0, ro_154_0, ro_155_0, ro_157_0, ro_157_1, ro_157_2, ro_157_3, ro_157_4, ro_157_5, ro_157_6, ro_157_7, ro_157_8, ro_157_9, ro_158_0, ro_160_0, ro_162_0, ro_164_0, ro_166_0, ro_168_0, ro_170_0, ro_172_0, ro_174_0, ro_176_0, ro_178_0, ro_180_0, ro_182_1, ro_182_4, ro_182_5, ro_182_6, ro_182_9, ro_182_10, ro_182_11, ro_182_13, ro_182_14, ro_182_15, ro_182_16, ro_182_17, ro_182_20, ro_182_21, ro_182_22, ro_182_23, ro_182_24, ro_182_26, ro_182_27, ro_182_28, lo_3, lo_5, lo_7, lo_9, lo_11, lo_13, lo_15, lo_17, lo_19, lo_21, lo_24, lo_26, lo_28, lo_30, lo_32, lo_34, lo_36, lo_38, lo_40, lo_42, lo_44, lo_47, lo_49, lo_51, lo_54, lo_56, lo_58, lo_60, lo_63, lo_65, lo_67, lo_69, lo_72, lo_74, lo_76, lo_78, lo_80, lo_82, lo_84, lo_86, lo_88, lo_90, lo_93, lo_95, lo_97, lo_99, lo_101, lo_103, lo_105, lo_107, lo_109, lo_111, lo_114, lo_116, lo_118, lo_120, lo_122, lo_124, lo_126, lo_128, lo_130, lo_132, lo_135, lo_137, lo_139, lo_141, lo_143, lo_145, lo_147, lo_149, lo_151, lo_153, lo_156, lo_159, lo_161, lo_163, lo_165, lo_167, lo_169, lo_171, lo_173, lo_175, lo_177, lo_179, lo_181, lo_183, lo_184, lo_185, lo_186, lo_187, lo_188, lo_189, lo_190, lo_191, lo_192, lo_193, lo_194, lo_195, lo_196, lo_197, lo_198, lo_199, lo_200, lo_201, lo_202, lo_203, jp_nn, jp_eq, jp_e1, Classical.not_not, ji0, ji1, ji2, sz_60, sz_61, sz_43, sz_45, sz_42, sz_41, tl_c, cs17_75, kk_75, cs17_77, kk_77, jl_0, jl_1, jl_2, jl_3, jl_4, jl_5, jl_6, jl_7, jl_8, jl_9, jl_10, jl_11, jl_12, jl_13, jl_14, jl_15, jl_16, jl_17, jl_18, jl_19, jl_20, jl_21, jl_22, jl_23, jl_24, jl_25, jl_26, jl_27, jl_28, jl_29, jl_30, jl_31, jl_32, jl_33, jl_34, jl_35, jl_36, jl_37, jl_38, jl_39, jl_40, jl_95, jl_96, jl_97, jl_98, jl_99, jl_100, jl_101, jl_102, jl_103, jl_104, jl_105, jl_106, jl_107, jl_108, jl_109, jl_110, jl_111, jl_112, jl_113, jl_114, jl_186, jl_1100, jr, ju, jpT, jpF, tnc, Nat.reduceEqDiff, reduceIte, and_false, false_and, not_true_eq_false, not_false_eq_true, or_false, gt_iff_lt, ge_iff_le, Int.lt_irrefl, Int.le_refl, y3, y45]
        exact hQ
      rw [if_neg y45] at hQ
      by_cases y42 : h 2 5 = 42
      · rw [if_pos y42] at hQ
        unfold bb_83
        simp only [sw1, qe_1, qe_3, qe_4, qe_5, qe_7, qe_72, qe_10, qe_102, qe_13, qe_14, qe_15, qe_16, qe_17, qe_18, qe_20, qe_22, qe_23, qe_21, qe_24, qe_25, qe_26, qe_27, qe_28, qe_30, qe_31, qe_32, qc_20, qc_22, qc_23, qc_21, qc_24, qc_25, qc_26, qc_27, qc_1, qc_3, qc_4, qc_7, qc_13, qc_28, qc_32, qs_1, qs_2, qs_3, qs_4, qs_5, qs_6, qs_9, qs_10, qs_11, qs_14, qs_15, qs_16, qs_27, qs_17, qs_18, qs_19, qs_20, qs_22, qs_23, qs_28, qs_26, qs_7, qs_8, kc_1, kn_1, kc_2, kn_2, kc_3, kn_3, kc_4, kn_4, kc_5, kn_5, kc_6, kn_6, kc_7, kn_7, kc_8, kn_8, kc_9, kn_9, kc_10, kn_10, kc_11, kn_11, kc_12, kn_12, kc_13, kn_13, kc_14, kn_14, kc_15, kn_15, kc_16, kc_17, kc_18, kc_19, kc_20, kc_21, kc_22, kc_23, kc_30, kc_32, kc_40, kc_43, kc_45, kc_48, kc_52, kc_56, kc_57, kc_59, kc_60, kc_61, kc_63, kc_64, kc_72, kc_78, kc_97, kc_99, kc_122, kc_126, kc_128, kc_192, kc_200, kc_255, kc_999, kc_1000, kc_9999, kn_9999, kc_10000, kc_12345, kc_65536, kc_252645135, kc_858993459, kc_1103515245, kc_1431655765, kc_2147483647, kc_0, kc_24, kc_28, kc_37, kc_41, kc_42, kc_73, kc_91, kc_95, kc_96, kc_98, kc_100, kc_112, kc_125, kc_150, kc_162, kc_163, kc_168, kc_186, kc_190, kc_250, kc_355, kc_356, kc_404, kc_405, kc_429, kc_573, kc_1002, kc_1100, kc_1891, kc_2200, kc_4719, kc_4869, kc_4881, kc_5148, kc_19741, kc_25433, kc_320403, kc_628412, kc_629093, kc_660401, kc_679843, kc_918640, kc_979410, kc_1178088, kc_6232410, kc_24644941, kc_36238189, kc_38270444, kc_392531318, kc_425693491, kc_1342154595, kc_2147483648, kc_42328242873, kc_891704255789, kc_1722105685577, kc_1858726030364, ct_0, ct_1, ct_2, ct_3, ct_4, ct_5, cf_0, cf_1, cf_2, cf_3, cf_4, cf_5, w_ty6, w_ty7, m_sv, m_z0, m_hd, m_g0, m_gs, m_s0, m_ss, m_ap, m_an, forall_const, true_and, and_true, ne_eq, not_true_eq_false, not_false_eq_true, false_implies, true_implies, implies_true, eq_self, reduceCtorEq, Nat.reduceDiv, Nat.reduceMod, Int.reduceToNat, or_true, true_or, or_false, false_or, or_self, m_it, m_if, m_c1, m_01, m_02, m_03, m_04, m_10, m_12, m_13, m_14, m_20, m_21, m_23, m_24, m_30, m_31, m_32, m_34, m_40, m_41, m_42, m_43, Int.reduceLE, Int.reduceLT, Int.reduceGE, Int.reduceGT, Int.reduceNeg, Int.reduceAdd, Int.reduceSub, Int.reduceMul, Int.reduceEq, Int.reduceNe, Nat.reduceAdd, jun2, ro_0_0, ro_0_1, ro_0_2, ro_0_3, ro_0_4, ro_0_5, ro_0_6, ro_0_7, ro_0_8, ro_0_9, ro_0_10, ro_0_11, ro_0_12, ro_1_0, ro_1_1, ro_2_0, ro_4_0, ro_6_0, ro_6_1, ro_6_2, ro_6_3, ro_6_4, ro_6_5, ro_6_6, ro_6_7, ro_6_8, ro_8_0, ro_10_0, ro_12_0, ro_14_0, ro_16_0, ro_18_0, ro_20_0, ro_22_0, ro_22_1, ro_22_2, ro_23_0, ro_25_0, ro_27_0, ro_29_0, ro_29_1, ro_29_2, ro_29_3, ro_29_4, ro_29_5, ro_29_6, ro_29_7, ro_29_8, ro_31_0, ro_33_0, ro_35_0, ro_37_0, ro_39_0, ro_41_0, ro_43_0, ro_45_0, ro_45_1, ro_45_2, ro_46_0, ro_48_0, ro_50_0, ro_52_0, ro_52_1, ro_52_2, ro_52_3, ro_53_0, ro_55_0, ro_57_0, ro_59_0, ro_61_0, ro_61_1, ro_61_2, ro_61_3, ro_62_0, ro_64_0, ro_66_0, ro_68_0, ro_70_0, ro_70_1, ro_70_2, ro_70_3, ro_70_4, ro_70_5, ro_70_6, ro_70_7, ro_70_8, ro_70_9, ro_71_0, ro_73_0, ro_75_0, ro_77_0, ro_79_0, ro_81_0, ro_83_0, ro_85_0, ro_87_0, ro_89_0, ro_91_0, ro_91_1, ro_91_2, ro_91_3, ro_91_4, ro_91_5, ro_91_6, ro_91_7, ro_91_8, ro_91_9, ro_92_0, ro_94_0, ro_96_0, ro_98_0, ro_100_0, ro_102_0, ro_104_0, ro_106_0, ro_108_0, ro_110_0, ro_112_0, ro_112_1, ro_112_2, ro_112_3, ro_112_4, ro_112_5, ro_112_6, ro_112_7, ro_112_8, ro_112_9, ro_113_0, ro_115_0, ro_117_0, ro_119_0, ro_121_0, ro_123_0, ro_125_0, ro_127_0, ro_129_0, ro_131_0, ro_133_0, ro_133_1, ro_133_2, ro_133_3, ro_133_4, ro_133_5, ro_133_6, ro_133_7, ro_133_8, ro_133_9, ro_134_0, ro_136_0, ro_138_0, ro_140_0, ro_142_0, ro_144_0, ro_146_0, ro_148_0, ro_150_0, ro_152_0, ro_154_0, ro_155_0, ro_157_0, ro_157_1, ro_157_2, ro_157_3, ro_157_4, ro_157_5, ro_157_6, ro_157_7, ro_157_8, ro_157_9, ro_158_0, ro_160_0, ro_162_0, ro_164_0, ro_166_0, ro_168_0, ro_170_0, ro_172_0, ro_174_0, ro_176_0, ro_178_0, ro_180_0, ro_182_1, ro_182_4, ro_182_5, ro_182_6, ro_182_9, ro_182_10, ro_182_11, ro_182_13, ro_182_14, ro_182_15, ro_182_16, ro_182_17, ro_182_20, ro_182_21, ro_182_22, ro_182_23, ro_182_24, ro_182_26, ro_182_27, ro_182_28, lo_3, lo_5, lo_7, lo_9, lo_11, lo_13, lo_15, lo_17, lo_19, lo_21, lo_24, lo_26, lo_28, lo_30, lo_32, lo_34, lo_36, lo_38, lo_40, lo_42, lo_44, lo_47, lo_49, lo_51, lo_54, lo_56, lo_58, lo_60, lo_63, lo_65, lo_67, lo_69, lo_72, lo_74, lo_76, lo_78, lo_80, lo_82, lo_84, lo_86, lo_88, lo_90, lo_93, lo_95, lo_97, lo_99, lo_101, lo_103, lo_105, lo_107, lo_109, lo_111, lo_114, lo_116, lo_118, lo_120, lo_122, lo_124, lo_126, lo_128, lo_130, lo_132, lo_135, lo_137, lo_139, lo_141, lo_143, lo_145, lo_147, lo_149, lo_151, lo_153, lo_156, lo_159, lo_161, lo_163, lo_165, lo_167, lo_169, lo_171, lo_173, lo_175, lo_177, lo_179, lo_181, lo_183, lo_184, lo_185, lo_186, lo_187, lo_188, lo_189, lo_190, lo_191, lo_192, lo_193, lo_194, lo_195, lo_196, lo_197, lo_198, lo_199, lo_200, lo_201, lo_202, lo_203, jp_nn, jp_eq, jp_e1, Classical.not_not, ji0, ji1, ji2, sz_60, sz_61, sz_43, sz_45, sz_42, sz_41, tl_c, cs17_75, kk_75, cs17_77, kk_77, jl_0, jl_1, jl_2, jl_3, jl_4, jl_5, jl_6, jl_7, jl_8, jl_9, jl_10, jl_11, jl_12, jl_13, jl_14, jl_15, jl_16, jl_17, jl_18, jl_19, jl_20, jl_21, jl_22, jl_23, jl_24, jl_25, jl_26, jl_27, jl_28, jl_29, jl_30, jl_31, jl_32, jl_33, jl_34, jl_35, jl_36, jl_37, jl_38, jl_39, jl_40, jl_95, jl_96, jl_97, jl_98, jl_99, jl_100, jl_101, jl_102, jl_103, jl_104, jl_105, jl_106, jl_107, jl_108, jl_109, jl_110, jl_111, jl_112, jl_113, jl_114, jl_186, jl_1100, jr, ju, jpT, jpF, tnc, Nat.reduceEqDiff, reduceIte, and_false, false_and, not_true_eq_false, not_false_eq_true, or_false, gt_iff_lt, ge_iff_le, Int.lt_irrefl, Int.le_refl, y3, y42]
        exact hQ
      rw [if_neg y42] at hQ
      by_cases y41 : h 2 5 = 41
      · rw [if_pos y41] at hQ
        unfold bb_83
        simp only [sw1, qe_1, qe_3, qe_4, qe_5, qe_7, qe_72, qe_10, qe_102, qe_13, qe_14, qe_15, qe_16, qe_17, qe_18, qe_20, qe_22, qe_23, qe_21, qe_24, qe_25, qe_26, qe_27, qe_28, qe_30, qe_31, qe_32, qc_20, qc_22, qc_23, qc_21, qc_24, qc_25, qc_26, qc_27, qc_1, qc_3, qc_4, qc_7, qc_13, qc_28, qc_32, qs_1, qs_2, qs_3, qs_4, qs_5, qs_6, qs_9, qs_10, qs_11, qs_14, qs_15, qs_16, qs_27, qs_17, qs_18, qs_19, qs_20, qs_22, qs_23, qs_28, qs_26, qs_7, qs_8, kc_1, kn_1, kc_2, kn_2, kc_3, kn_3, kc_4, kn_4, kc_5, kn_5, kc_6, kn_6, kc_7, kn_7, kc_8, kn_8, kc_9, kn_9, kc_10, kn_10, kc_11, kn_11, kc_12, kn_12, kc_13, kn_13, kc_14, kn_14, kc_15, kn_15, kc_16, kc_17, kc_18, kc_19, kc_20, kc_21, kc_22, kc_23, kc_30, kc_32, kc_40, kc_43, kc_45, kc_48, kc_52, kc_56, kc_57, kc_59, kc_60, kc_61, kc_63, kc_64, kc_72, kc_78, kc_97, kc_99, kc_122, kc_126, kc_128, kc_192, kc_200, kc_255, kc_999, kc_1000, kc_9999, kn_9999, kc_10000, kc_12345, kc_65536, kc_252645135, kc_858993459, kc_1103515245, kc_1431655765, kc_2147483647, kc_0, kc_24, kc_28, kc_37, kc_41, kc_42, kc_73, kc_91, kc_95, kc_96, kc_98, kc_100, kc_112, kc_125, kc_150, kc_162, kc_163, kc_168, kc_186, kc_190, kc_250, kc_355, kc_356, kc_404, kc_405, kc_429, kc_573, kc_1002, kc_1100, kc_1891, kc_2200, kc_4719, kc_4869, kc_4881, kc_5148, kc_19741, kc_25433, kc_320403, kc_628412, kc_629093, kc_660401, kc_679843, kc_918640, kc_979410, kc_1178088, kc_6232410, kc_24644941, kc_36238189, kc_38270444, kc_392531318, kc_425693491, kc_1342154595, kc_2147483648, kc_42328242873, kc_891704255789, kc_1722105685577, kc_1858726030364, ct_0, ct_1, ct_2, ct_3, ct_4, ct_5, cf_0, cf_1, cf_2, cf_3, cf_4, cf_5, w_ty6, w_ty7, m_sv, m_z0, m_hd, m_g0, m_gs, m_s0, m_ss, m_ap, m_an, forall_const, true_and, and_true, ne_eq, not_true_eq_false, not_false_eq_true, false_implies, true_implies, implies_true, eq_self, reduceCtorEq, Nat.reduceDiv, Nat.reduceMod, Int.reduceToNat, or_true, true_or, or_false, false_or, or_self, m_it, m_if, m_c1, m_01, m_02, m_03, m_04, m_10, m_12, m_13, m_14, m_20, m_21, m_23, m_24, m_30, m_31, m_32, m_34, m_40, m_41, m_42, m_43, Int.reduceLE, Int.reduceLT, Int.reduceGE, Int.reduceGT, Int.reduceNeg, Int.reduceAdd, Int.reduceSub, Int.reduceMul, Int.reduceEq, Int.reduceNe, Nat.reduceAdd, jun2, ro_0_0, ro_0_1, ro_0_2, ro_0_3, ro_0_4, ro_0_5, ro_0_6, ro_0_7, ro_0_8, ro_0_9, ro_0_10, ro_0_11, ro_0_12, ro_1_0, ro_1_1, ro_2_0, ro_4_0, ro_6_0, ro_6_1, ro_6_2, ro_6_3, ro_6_4, ro_6_5, ro_6_6, ro_6_7, ro_6_8, ro_8_0, ro_10_0, ro_12_0, ro_14_0, ro_16_0, ro_18_0, ro_20_0, ro_22_0, ro_22_1, ro_22_2, ro_23_0, ro_25_0, ro_27_0, ro_29_0, ro_29_1, ro_29_2, ro_29_3, ro_29_4, ro_29_5, ro_29_6, ro_29_7, ro_29_8, ro_31_0, ro_33_0, ro_35_0, ro_37_0, ro_39_0, ro_41_0, ro_43_0, ro_45_0, ro_45_1, ro_45_2, ro_46_0, ro_48_0, ro_50_0, ro_52_0, ro_52_1, ro_52_2, ro_52_3, ro_53_0, ro_55_0, ro_57_0, ro_59_0, ro_61_0, ro_61_1, ro_61_2, ro_61_3, ro_62_0, ro_64_0, ro_66_0, ro_68_0, ro_70_0, ro_70_1, ro_70_2, ro_70_3, ro_70_4, ro_70_5, ro_70_6, ro_70_7, ro_70_8, ro_70_9, ro_71_0, ro_73_0, ro_75_0, ro_77_0, ro_79_0, ro_81_0, ro_83_0, ro_85_0, ro_87_0, ro_89_0, ro_91_0, ro_91_1, ro_91_2, ro_91_3, ro_91_4, ro_91_5, ro_91_6, ro_91_7, ro_91_8, ro_91_9, ro_92_0, ro_94_0, ro_96_0, ro_98_0, ro_100_0, ro_102_0, ro_104_0, ro_106_0, ro_108_0, ro_110_0, ro_112_0, ro_112_1, ro_112_2, ro_112_3, ro_112_4, ro_112_5, ro_112_6, ro_112_7, ro_112_8, ro_112_9, ro_113_0, ro_115_0, ro_117_0, ro_119_0, ro_121_0, ro_123_0, ro_125_0, ro_127_0, ro_129_0, ro_131_0, ro_133_0, ro_133_1, ro_133_2, ro_133_3, ro_133_4, ro_133_5, ro_133_6, ro_133_7, ro_133_8, ro_133_9, ro_134_0, ro_136_0, ro_138_0, ro_140_0, ro_142_0, ro_144_0, ro_146_0, ro_148_0, ro_150_0, ro_152_0, ro_154_0, ro_155_0, ro_157_0, ro_157_1, ro_157_2, ro_157_3, ro_157_4, ro_157_5, ro_157_6, ro_157_7, ro_157_8, ro_157_9, ro_158_0, ro_160_0, ro_162_0, ro_164_0, ro_166_0, ro_168_0, ro_170_0, ro_172_0, ro_174_0, ro_176_0, ro_178_0, ro_180_0, ro_182_1, ro_182_4, ro_182_5, ro_182_6, ro_182_9, ro_182_10, ro_182_11, ro_182_13, ro_182_14, ro_182_15, ro_182_16, ro_182_17, ro_182_20, ro_182_21, ro_182_22, ro_182_23, ro_182_24, ro_182_26, ro_182_27, ro_182_28, lo_3, lo_5, lo_7, lo_9, lo_11, lo_13, lo_15, lo_17, lo_19, lo_21, lo_24, lo_26, lo_28, lo_30, lo_32, lo_34, lo_36, lo_38, lo_40, lo_42, lo_44, lo_47, lo_49, lo_51, lo_54, lo_56, lo_58, lo_60, lo_63, lo_65, lo_67, lo_69, lo_72, lo_74, lo_76, lo_78, lo_80, lo_82, lo_84, lo_86, lo_88, lo_90, lo_93, lo_95, lo_97, lo_99, lo_101, lo_103, lo_105, lo_107, lo_109, lo_111, lo_114, lo_116, lo_118, lo_120, lo_122, lo_124, lo_126, lo_128, lo_130, lo_132, lo_135, lo_137, lo_139, lo_141, lo_143, lo_145, lo_147, lo_149, lo_151, lo_153, lo_156, lo_159, lo_161, lo_163, lo_165, lo_167, lo_169, lo_171, lo_173, lo_175, lo_177, lo_179, lo_181, lo_183, lo_184, lo_185, lo_186, lo_187, lo_188, lo_189, lo_190, lo_191, lo_192, lo_193, lo_194, lo_195, lo_196, lo_197, lo_198, lo_199, lo_200, lo_201, lo_202, lo_203, jp_nn, jp_eq, jp_e1, Classical.not_not, ji0, ji1, ji2, sz_60, sz_61, sz_43, sz_45, sz_42, sz_41, tl_c, cs17_75, kk_75, cs17_77, kk_77, jl_0, jl_1, jl_2, jl_3, jl_4, jl_5, jl_6, jl_7, jl_8, jl_9, jl_10, jl_11, jl_12, jl_13, jl_14, jl_15, jl_16, jl_17, jl_18, jl_19, jl_20, jl_21, jl_22, jl_23, jl_24, jl_25, jl_26, jl_27, jl_28, jl_29, jl_30, jl_31, jl_32, jl_33, jl_34, jl_35, jl_36, jl_37, jl_38, jl_39, jl_40, jl_95, jl_96, jl_97, jl_98, jl_99, jl_100, jl_101, jl_102, jl_103, jl_104, jl_105, jl_106, jl_107, jl_108, jl_109, jl_110, jl_111, jl_112, jl_113, jl_114, jl_186, jl_1100, jr, ju, jpT, jpF, tnc, Nat.reduceEqDiff, reduceIte, and_false, false_and, not_true_eq_false, not_false_eq_true, or_false, gt_iff_lt, ge_iff_le, Int.lt_irrefl, Int.le_refl, y3, y41]
        exact hQ
      rw [if_neg y41] at hQ
      unfold bb_83
      simp only [sw1, qe_1, qe_3, qe_4, qe_5, qe_7, qe_72, qe_10, qe_102, qe_13, qe_14, qe_15, qe_16, qe_17, qe_18, qe_20, qe_22, qe_23, qe_21, qe_24, qe_25, qe_26, qe_27, qe_28, qe_30, qe_31, qe_32, qc_20, qc_22, qc_23, qc_21, qc_24, qc_25, qc_26, qc_27, qc_1, qc_3, qc_4, qc_7, qc_13, qc_28, qc_32, qs_1, qs_2, qs_3, qs_4, qs_5, qs_6, qs_9, qs_10, qs_11, qs_14, qs_15, qs_16, qs_27, qs_17, qs_18, qs_19, qs_20, qs_22, qs_23, qs_28, qs_26, qs_7, qs_8, kc_1, kn_1, kc_2, kn_2, kc_3, kn_3, kc_4, kn_4, kc_5, kn_5, kc_6, kn_6, kc_7, kn_7, kc_8, kn_8, kc_9, kn_9, kc_10, kn_10, kc_11, kn_11, kc_12, kn_12, kc_13, kn_13, kc_14, kn_14, kc_15, kn_15, kc_16, kc_17, kc_18, kc_19, kc_20, kc_21, kc_22, kc_23, kc_30, kc_32, kc_40, kc_43, kc_45, kc_48, kc_52, kc_56, kc_57, kc_59, kc_60, kc_61, kc_63, kc_64, kc_72, kc_78, kc_97, kc_99, kc_122, kc_126, kc_128, kc_192, kc_200, kc_255, kc_999, kc_1000, kc_9999, kn_9999, kc_10000, kc_12345, kc_65536, kc_252645135, kc_858993459, kc_1103515245, kc_1431655765, kc_2147483647, kc_0, kc_24, kc_28, kc_37, kc_41, kc_42, kc_73, kc_91, kc_95, kc_96, kc_98, kc_100, kc_112, kc_125, kc_150, kc_162, kc_163, kc_168, kc_186, kc_190, kc_250, kc_355, kc_356, kc_404, kc_405, kc_429, kc_573, kc_1002, kc_1100, kc_1891, kc_2200, kc_4719, kc_4869, kc_4881, kc_5148, kc_19741, kc_25433, kc_320403, kc_628412, kc_629093, kc_660401, kc_679843, kc_918640, kc_979410, kc_1178088, kc_6232410, kc_24644941, kc_36238189, kc_38270444, kc_392531318, kc_425693491, kc_1342154595, kc_2147483648, kc_42328242873, kc_891704255789, kc_1722105685577, kc_1858726030364, ct_0, ct_1, ct_2, ct_3, ct_4, ct_5, cf_0, cf_1, cf_2, cf_3, cf_4, cf_5, w_ty6, w_ty7, m_sv, m_z0, m_hd, m_g0, m_gs, m_s0, m_ss, m_ap, m_an, forall_const, true_and, and_true, ne_eq, not_true_eq_false, not_false_eq_true, false_implies, true_implies, implies_true, eq_self, reduceCtorEq, Nat.reduceDiv, Nat.reduceMod, Int.reduceToNat, or_true, true_or, or_false, false_or, or_self, m_it, m_if, m_c1, m_01, m_02, m_03, m_04, m_10, m_12, m_13, m_14, m_20, m_21, m_23, m_24, m_30, m_31, m_32, m_34, m_40, m_41, m_42, m_43, Int.reduceLE, Int.reduceLT, Int.reduceGE, Int.reduceGT, Int.reduceNeg, Int.reduceAdd, Int.reduceSub, Int.reduceMul, Int.reduceEq, Int.reduceNe, Nat.reduceAdd, jun2, ro_0_0, ro_0_1, ro_0_2, ro_0_3, ro_0_4, ro_0_5, ro_0_6, ro_0_7, ro_0_8, ro_0_9, ro_0_10, ro_0_11, ro_0_12, ro_1_0, ro_1_1, ro_2_0, ro_4_0, ro_6_0, ro_6_1, ro_6_2, ro_6_3, ro_6_4, ro_6_5, ro_6_6, ro_6_7, ro_6_8, ro_8_0, ro_10_0, ro_12_0, ro_14_0, ro_16_0, ro_18_0, ro_20_0, ro_22_0, ro_22_1, ro_22_2, ro_23_0, ro_25_0, ro_27_0, ro_29_0, ro_29_1, ro_29_2, ro_29_3, ro_29_4, ro_29_5, ro_29_6, ro_29_7, ro_29_8, ro_31_0, ro_33_0, ro_35_0, ro_37_0, ro_39_0, ro_41_0, ro_43_0, ro_45_0, ro_45_1, ro_45_2, ro_46_0, ro_48_0, ro_50_0, ro_52_0, ro_52_1, ro_52_2, ro_52_3, ro_53_0, ro_55_0, ro_57_0, ro_59_0, ro_61_0, ro_61_1, ro_61_2, ro_61_3, ro_62_0, ro_64_0, ro_66_0, ro_68_0, ro_70_0, ro_70_1, ro_70_2, ro_70_3, ro_70_4, ro_70_5, ro_70_6, ro_70_7, ro_70_8, ro_70_9, ro_71_0, ro_73_0, ro_75_0, ro_77_0, ro_79_0, ro_81_0, ro_83_0, ro_85_0, ro_87_0, ro_89_0, ro_91_0, ro_91_1, ro_91_2, ro_91_3, ro_91_4, ro_91_5, ro_91_6, ro_91_7, ro_91_8, ro_91_9, ro_92_0, ro_94_0, ro_96_0, ro_98_0, ro_100_0, ro_102_0, ro_104_0, ro_106_0, ro_108_0, ro_110_0, ro_112_0, ro_112_1, ro_112_2, ro_112_3, ro_112_4, ro_112_5, ro_112_6, ro_112_7, ro_112_8, ro_112_9, ro_113_0, ro_115_0, ro_117_0, ro_119_0, ro_121_0, ro_123_0, ro_125_0, ro_127_0, ro_129_0, ro_131_0, ro_133_0, ro_133_1, ro_133_2, ro_133_3, ro_133_4, ro_133_5, ro_133_6, ro_133_7, ro_133_8, ro_133_9, ro_134_0, ro_136_0, ro_138_0, ro_140_0, ro_142_0, ro_144_0, ro_146_0, ro_148_0, ro_150_0, ro_152_0, ro_154_0, ro_155_0, ro_157_0, ro_157_1, ro_157_2, ro_157_3, ro_157_4, ro_157_5, ro_157_6, ro_157_7, ro_157_8, ro_157_9, ro_158_0, ro_160_0, ro_162_0, ro_164_0, ro_166_0, ro_168_0, ro_170_0, ro_172_0, ro_174_0, ro_176_0, ro_178_0, ro_180_0, ro_182_1, ro_182_4, ro_182_5, ro_182_6, ro_182_9, ro_182_10, ro_182_11, ro_182_13, ro_182_14, ro_182_15, ro_182_16, ro_182_17, ro_182_20, ro_182_21, ro_182_22, ro_182_23, ro_182_24, ro_182_26, ro_182_27, ro_182_28, lo_3, lo_5, lo_7, lo_9, lo_11, lo_13, lo_15, lo_17, lo_19, lo_21, lo_24, lo_26, lo_28, lo_30, lo_32, lo_34, lo_36, lo_38, lo_40, lo_42, lo_44, lo_47, lo_49, lo_51, lo_54, lo_56, lo_58, lo_60, lo_63, lo_65, lo_67, lo_69, lo_72, lo_74, lo_76, lo_78, lo_80, lo_82, lo_84, lo_86, lo_88, lo_90, lo_93, lo_95, lo_97, lo_99, lo_101, lo_103, lo_105, lo_107, lo_109, lo_111, lo_114, lo_116, lo_118, lo_120, lo_122, lo_124, lo_126, lo_128, lo_130, lo_132, lo_135, lo_137, lo_139, lo_141, lo_143, lo_145, lo_147, lo_149, lo_151, lo_153, lo_156, lo_159, lo_161, lo_163, lo_165, lo_167, lo_169, lo_171, lo_173, lo_175, lo_177, lo_179, lo_181, lo_183, lo_184, lo_185, lo_186, lo_187, lo_188, lo_189, lo_190, lo_191, lo_192, lo_193, lo_194, lo_195, lo_196, lo_197, lo_198, lo_199, lo_200, lo_201, lo_202, lo_203, jp_nn, jp_eq, jp_e1, Classical.not_not, ji0, ji1, ji2, sz_60, sz_61, sz_43, sz_45, sz_42, sz_41, tl_c, cs17_75, kk_75, cs17_77, kk_77, jl_0, jl_1, jl_2, jl_3, jl_4, jl_5, jl_6, jl_7, jl_8, jl_9, jl_10, jl_11, jl_12, jl_13, jl_14, jl_15, jl_16, jl_17, jl_18, jl_19, jl_20, jl_21, jl_22, jl_23, jl_24, jl_25, jl_26, jl_27, jl_28, jl_29, jl_30, jl_31, jl_32, jl_33, jl_34, jl_35, jl_36, jl_37, jl_38, jl_39, jl_40, jl_95, jl_96, jl_97, jl_98, jl_99, jl_100, jl_101, jl_102, jl_103, jl_104, jl_105, jl_106, jl_107, jl_108, jl_109, jl_110, jl_111, jl_112, jl_113, jl_114, jl_186, jl_1100, jr, ju, jpT, jpF, tnc, Nat.reduceEqDiff, reduceIte, and_false, false_and, not_true_eq_false, not_false_eq_true, or_false, gt_iff_lt, ge_iff_le, Int.lt_irrefl, Int.le_refl, y3, y60, y61, y43, y45, y42, y41, ew]
      exact hQ
    · rw [if_neg y3] at hQ
      unfold bb_83
      simp only [sw1, qe_1, qe_3, qe_4, qe_5, qe_7, qe_72, qe_10, qe_102, qe_13, qe_14, qe_15, qe_16, qe_17, qe_18, qe_20, qe_22, qe_23, qe_21, qe_24, qe_25, qe_26, qe_27, qe_28, qe_30, qe_31, qe_32, qc_20, qc_22, qc_23, qc_21, qc_24, qc_25, qc_26, qc_27, qc_1, qc_3, qc_4, qc_7, qc_13, qc_28, qc_32, qs_1, qs_2, qs_3, qs_4, qs_5, qs_6, qs_9, qs_10, qs_11, qs_14, qs_15, qs_16, qs_27, qs_17, qs_18, qs_19, qs_20, qs_22, qs_23, qs_28, qs_26, qs_7, qs_8, kc_1, kn_1, kc_2, kn_2, kc_3, kn_3, kc_4, kn_4, kc_5, kn_5, kc_6, kn_6, kc_7, kn_7, kc_8, kn_8, kc_9, kn_9, kc_10, kn_10, kc_11, kn_11, kc_12, kn_12, kc_13, kn_13, kc_14, kn_14, kc_15, kn_15, kc_16, kc_17, kc_18, kc_19, kc_20, kc_21, kc_22, kc_23, kc_30, kc_32, kc_40, kc_43, kc_45, kc_48, kc_52, kc_56, kc_57, kc_59, kc_60, kc_61, kc_63, kc_64, kc_72, kc_78, kc_97, kc_99, kc_122, kc_126, kc_128, kc_192, kc_200, kc_255, kc_999, kc_1000, kc_9999, kn_9999, kc_10000, kc_12345, kc_65536, kc_252645135, kc_858993459, kc_1103515245, kc_1431655765, kc_2147483647, kc_0, kc_24, kc_28, kc_37, kc_41, kc_42, kc_73, kc_91, kc_95, kc_96, kc_98, kc_100, kc_112, kc_125, kc_150, kc_162, kc_163, kc_168, kc_186, kc_190, kc_250, kc_355, kc_356, kc_404, kc_405, kc_429, kc_573, kc_1002, kc_1100, kc_1891, kc_2200, kc_4719, kc_4869, kc_4881, kc_5148, kc_19741, kc_25433, kc_320403, kc_628412, kc_629093, kc_660401, kc_679843, kc_918640, kc_979410, kc_1178088, kc_6232410, kc_24644941, kc_36238189, kc_38270444, kc_392531318, kc_425693491, kc_1342154595, kc_2147483648, kc_42328242873, kc_891704255789, kc_1722105685577, kc_1858726030364, ct_0, ct_1, ct_2, ct_3, ct_4, ct_5, cf_0, cf_1, cf_2, cf_3, cf_4, cf_5, w_ty6, w_ty7, m_sv, m_z0, m_hd, m_g0, m_gs, m_s0, m_ss, m_ap, m_an, forall_const, true_and, and_true, ne_eq, not_true_eq_false, not_false_eq_true, false_implies, true_implies, implies_true, eq_self, reduceCtorEq, Nat.reduceDiv, Nat.reduceMod, Int.reduceToNat, or_true, true_or, or_false, false_or, or_self, m_it, m_if, m_c1, m_01, m_02, m_03, m_04, m_10, m_12, m_13, m_14, m_20, m_21, m_23, m_24, m_30, m_31, m_32, m_34, m_40, m_41, m_42, m_43, Int.reduceLE, Int.reduceLT, Int.reduceGE, Int.reduceGT, Int.reduceNeg, Int.reduceAdd, Int.reduceSub, Int.reduceMul, Int.reduceEq, Int.reduceNe, Nat.reduceAdd, jun2, ro_0_0, ro_0_1, ro_0_2, ro_0_3, ro_0_4, ro_0_5, ro_0_6, ro_0_7, ro_0_8, ro_0_9, ro_0_10, ro_0_11, ro_0_12, ro_1_0, ro_1_1, ro_2_0, ro_4_0, ro_6_0, ro_6_1, ro_6_2, ro_6_3, ro_6_4, ro_6_5, ro_6_6, ro_6_7, ro_6_8, ro_8_0, ro_10_0, ro_12_0, ro_14_0, ro_16_0, ro_18_0, ro_20_0, ro_22_0, ro_22_1, ro_22_2, ro_23_0, ro_25_0, ro_27_0, ro_29_0, ro_29_1, ro_29_2, ro_29_3, ro_29_4, ro_29_5, ro_29_6, ro_29_7, ro_29_8, ro_31_0, ro_33_0, ro_35_0, ro_37_0, ro_39_0, ro_41_0, ro_43_0, ro_45_0, ro_45_1, ro_45_2, ro_46_0, ro_48_0, ro_50_0, ro_52_0, ro_52_1, ro_52_2, ro_52_3, ro_53_0, ro_55_0, ro_57_0, ro_59_0, ro_61_0, ro_61_1, ro_61_2, ro_61_3, ro_62_0, ro_64_0, ro_66_0, ro_68_0, ro_70_0, ro_70_1, ro_70_2, ro_70_3, ro_70_4, ro_70_5, ro_70_6, ro_70_7, ro_70_8, ro_70_9, ro_71_0, ro_73_0, ro_75_0, ro_77_0, ro_79_0, ro_81_0, ro_83_0, ro_85_0, ro_87_0, ro_89_0, ro_91_0, ro_91_1, ro_91_2, ro_91_3, ro_91_4, ro_91_5, ro_91_6, ro_91_7, ro_91_8, ro_91_9, ro_92_0, ro_94_0, ro_96_0, ro_98_0, ro_100_0, ro_102_0, ro_104_0, ro_106_0, ro_108_0, ro_110_0, ro_112_0, ro_112_1, ro_112_2, ro_112_3, ro_112_4, ro_112_5, ro_112_6, ro_112_7, ro_112_8, ro_112_9, ro_113_0, ro_115_0, ro_117_0, ro_119_0, ro_121_0, ro_123_0, ro_125_0, ro_127_0, ro_129_0, ro_131_0, ro_133_0, ro_133_1, ro_133_2, ro_133_3, ro_133_4, ro_133_5, ro_133_6, ro_133_7, ro_133_8, ro_133_9, ro_134_0, ro_136_0, ro_138_0, ro_140_0, ro_142_0, ro_144_0, ro_146_0, ro_148_0, ro_150_0, ro_152_0, ro_154_0, ro_155_0, ro_157_0, ro_157_1, ro_157_2, ro_157_3, ro_157_4, ro_157_5, ro_157_6, ro_157_7, ro_157_8, ro_157_9, ro_158_0, ro_160_0, ro_162_0, ro_164_0, ro_166_0, ro_168_0, ro_170_0, ro_172_0, ro_174_0, ro_176_0, ro_178_0, ro_180_0, ro_182_1, ro_182_4, ro_182_5, ro_182_6, ro_182_9, ro_182_10, ro_182_11, ro_182_13, ro_182_14, ro_182_15, ro_182_16, ro_182_17, ro_182_20, ro_182_21, ro_182_22, ro_182_23, ro_182_24, ro_182_26, ro_182_27, ro_182_28, lo_3, lo_5, lo_7, lo_9, lo_11, lo_13, lo_15, lo_17, lo_19, lo_21, lo_24, lo_26, lo_28, lo_30, lo_32, lo_34, lo_36, lo_38, lo_40, lo_42, lo_44, lo_47, lo_49, lo_51, lo_54, lo_56, lo_58, lo_60, lo_63, lo_65, lo_67, lo_69, lo_72, lo_74, lo_76, lo_78, lo_80, lo_82, lo_84, lo_86, lo_88, lo_90, lo_93, lo_95, lo_97, lo_99, lo_101, lo_103, lo_105, lo_107, lo_109, lo_111, lo_114, lo_116, lo_118, lo_120, lo_122, lo_124, lo_126, lo_128, lo_130, lo_132, lo_135, lo_137, lo_139, lo_141, lo_143, lo_145, lo_147, lo_149, lo_151, lo_153, lo_156, lo_159, lo_161, lo_163, lo_165, lo_167, lo_169, lo_171, lo_173, lo_175, lo_177, lo_179, lo_181, lo_183, lo_184, lo_185, lo_186, lo_187, lo_188, lo_189, lo_190, lo_191, lo_192, lo_193, lo_194, lo_195, lo_196, lo_197, lo_198, lo_199, lo_200, lo_201, lo_202, lo_203, jp_nn, jp_eq, jp_e1, Classical.not_not, ji0, ji1, ji2, sz_60, sz_61, sz_43, sz_45, sz_42, sz_41, tl_c, cs17_75, kk_75, cs17_77, kk_77, jl_0, jl_1, jl_2, jl_3, jl_4, jl_5, jl_6, jl_7, jl_8, jl_9, jl_10, jl_11, jl_12, jl_13, jl_14, jl_15, jl_16, jl_17, jl_18, jl_19, jl_20, jl_21, jl_22, jl_23, jl_24, jl_25, jl_26, jl_27, jl_28, jl_29, jl_30, jl_31, jl_32, jl_33, jl_34, jl_35, jl_36, jl_37, jl_38, jl_39, jl_40, jl_95, jl_96, jl_97, jl_98, jl_99, jl_100, jl_101, jl_102, jl_103, jl_104, jl_105, jl_106, jl_107, jl_108, jl_109, jl_110, jl_111, jl_112, jl_113, jl_114, jl_186, jl_1100, jr, ju, jpT, jpF, tnc, Nat.reduceEqDiff, reduceIte, and_false, false_and, not_true_eq_false, not_false_eq_true, or_false, gt_iff_lt, ge_iff_le, Int.lt_irrefl, Int.le_refl, y3]
      refine ⟨fun y => ?_, fun y => ⟨fun y2 => ?_, fun y2 => ?_⟩⟩
      · rw [if_pos y] at hQ; exact hQ
      · rw [if_neg y, if_pos y2] at hQ; exact hQ
      · rw [if_neg y, if_neg y2] at hQ; exact hQ
  · exact hQ.elim
theorem m_89 : BodyOK CS17 CS17 89 := fun av h Q hQ => by
  rw [cs17_89] at hQ
  unfold k89 at hQ
  split at hQ
  · rename_i o t
    obtain ⟨rfl, l, O, d, m, hl, hQ⟩ := hQ
    have m4_w : h 45 4 = (l.length : Int) := m.1.1
    have s3_w : ∀ {v : Int}, rs h 48 (l.length : Int) v = j_up h 49 l.length v := fun {v} => rs48 hl
    have ek := jk1 (k := l.length) (by omega)
    show pS CS17 bb_89 [45, t] h _
    unfold bb_89
    simp only [qe_1, qe_3, qe_4, qe_5, qe_7, qe_72, qe_10, qe_102, qe_13, qe_14, qe_15, qe_16, qe_17, qe_18, qe_20, qe_22, qe_23, qe_21, qe_24, qe_25, qe_26, qe_27, qe_28, qe_30, qe_31, qe_32, qc_20, qc_22, qc_23, qc_21, qc_24, qc_25, qc_26, qc_27, qc_1, qc_3, qc_4, qc_7, qc_13, qc_28, qc_32, qs_1, qs_2, qs_3, qs_4, qs_5, qs_6, qs_9, qs_10, qs_11, qs_14, qs_15, qs_16, qs_27, qs_17, qs_18, qs_19, qs_20, qs_22, qs_23, qs_28, qs_25, qs_26, qs_7, qs_8, kc_1, kn_1, kc_2, kn_2, kc_3, kn_3, kc_4, kn_4, kc_5, kn_5, kc_6, kn_6, kc_7, kn_7, kc_8, kn_8, kc_9, kn_9, kc_10, kn_10, kc_11, kn_11, kc_12, kn_12, kc_13, kn_13, kc_14, kn_14, kc_15, kn_15, kc_16, kc_17, kc_18, kc_19, kc_20, kc_21, kc_22, kc_23, kc_30, kc_32, kc_40, kc_43, kc_45, kc_48, kc_52, kc_56, kc_57, kc_59, kc_60, kc_61, kc_63, kc_64, kc_72, kc_78, kc_97, kc_99, kc_122, kc_126, kc_128, kc_192, kc_200, kc_255, kc_999, kc_1000, kc_9999, kn_9999, kc_10000, kc_12345, kc_65536, kc_252645135, kc_858993459, kc_1103515245, kc_1431655765, kc_2147483647, kc_0, kc_24, kc_28, kc_37, kc_41, kc_42, kc_73, kc_91, kc_95, kc_96, kc_98, kc_100, kc_112, kc_125, kc_150, kc_162, kc_163, kc_168, kc_186, kc_190, kc_250, kc_355, kc_356, kc_404, kc_405, kc_429, kc_573, kc_1002, kc_1100, kc_1891, kc_2200, kc_4719, kc_4869, kc_4881, kc_5148, kc_19741, kc_25433, kc_320403, kc_628412, kc_629093, kc_660401, kc_679843, kc_918640, kc_979410, kc_1178088, kc_6232410, kc_24644941, kc_36238189, kc_38270444, kc_392531318, kc_425693491, kc_1342154595, kc_2147483648, kc_42328242873, kc_891704255789, kc_1722105685577, kc_1858726030364, ct_0, ct_1, ct_2, ct_3, ct_4, ct_5, cf_0, cf_1, cf_2, cf_3, cf_4, cf_5, w_ty6, w_ty7, m_sv, m_z0, m_hd, m_g0, m_gs, m_s0, m_ss, m_ap, m_an, forall_const, true_and, and_true, ne_eq, not_true_eq_false, not_false_eq_true, false_implies, true_implies, implies_true, eq_self, reduceCtorEq, Nat.reduceDiv, Nat.reduceMod, Int.reduceToNat, or_true, true_or, or_false, false_or, or_self, m_it, m_if, m_c1, m_01, m_02, m_03, m_04, m_10, m_12, m_13, m_14, m_20, m_21, m_23, m_24, m_30, m_31, m_32, m_34, m_40, m_41, m_42, m_43, Int.reduceLE, Int.reduceLT, Int.reduceGE, Int.reduceGT, Int.reduceNeg, Int.reduceAdd, Int.reduceSub, Int.reduceMul, Int.reduceEq, Int.reduceNe, Nat.reduceAdd, jun2, ro_0_0, ro_0_1, ro_0_2, ro_0_3, ro_0_4, ro_0_5, ro_0_6, ro_0_7, ro_0_8, ro_0_9, ro_0_10, ro_0_11, ro_0_12, ro_1_0, ro_1_1, ro_2_0, ro_4_0, ro_6_0, ro_6_1, ro_6_2, ro_6_3, ro_6_4, ro_6_5, ro_6_6, ro_6_7, ro_6_8, ro_8_0, ro_10_0, ro_12_0, ro_14_0, ro_16_0, ro_18_0, ro_20_0, ro_22_0, ro_22_1, ro_22_2, ro_23_0, ro_25_0, ro_27_0, ro_29_0, ro_29_1, ro_29_2, ro_29_3, ro_29_4, ro_29_5, ro_29_6, ro_29_7, ro_29_8, ro_31_0, ro_33_0, ro_35_0, ro_37_0, ro_39_0, ro_41_0, ro_43_0, ro_45_0, ro_45_1, ro_45_2, ro_46_0, ro_48_0, ro_50_0, ro_52_0, ro_52_1, ro_52_2, ro_52_3, ro_53_0, ro_55_0, ro_57_0, ro_59_0, ro_61_0, ro_61_1, ro_61_2, ro_61_3, ro_62_0, ro_64_0, ro_66_0, ro_68_0, ro_70_0, ro_70_1, ro_70_2, ro_70_3, ro_70_4, ro_70_5, ro_70_6, ro_70_7, ro_70_8, ro_70_9, ro_71_0, ro_73_0, ro_75_0, ro_77_0, ro_79_0, ro_81_0, ro_83_0, ro_85_0, ro_87_0, ro_89_0, ro_91_0, ro_91_1, ro_91_2, ro_91_3, ro_91_4, ro_91_5, ro_91_6, ro_91_7, ro_91_8, ro_91_9, ro_92_0, ro_94_0, ro_96_0, ro_98_0, ro_100_0, ro_102_0, ro_104_0, ro_106_0, ro_108_0, ro_110_0, ro_112_0, ro_112_1, ro_112_2, ro_112_3, ro_112_4, ro_112_5, ro_112_6, ro_112_7, ro_112_8, ro_112_9, ro_113_0, ro_115_0, ro_117_0, ro_119_0, ro_121_0, ro_123_0, ro_125_0, ro_127_0, ro_129_0, ro_131_0, ro_133_0, ro_133_1, ro_133_2, ro_133_3, ro_133_4, ro_133_5, ro_133_6, ro_133_7, ro_133_8, ro_133_9, ro_134_0, ro_136_0, ro_138_0, ro_140_0, ro_142_0, ro_144_0, ro_146_0, ro_148_0, ro_150_0, ro_152_0, ro_154_0, ro_155_0, ro_157_0, ro_157_1, ro_157_2, ro_157_3, ro_157_4, ro_157_5, ro_157_6, ro_157_7, ro_157_8, ro_157_9, ro_158_0, ro_160_0, ro_162_0, ro_164_0, ro_166_0, ro_168_0, ro_170_0, ro_172_0, ro_174_0, ro_176_0, ro_178_0, ro_180_0, ro_182_1, ro_182_4, ro_182_5, ro_182_6, ro_182_9, ro_182_10, ro_182_11, ro_182_13, ro_182_14, ro_182_15, ro_182_16, ro_182_17, ro_182_20, ro_182_21, ro_182_22, ro_182_23, ro_182_24, ro_182_26, ro_182_27, ro_182_28, lo_3, lo_5, lo_7, lo_9, lo_11, lo_13, lo_15, lo_17, lo_19, lo_21, lo_24, lo_26, lo_28, lo_30, lo_32, lo_34, lo_36, lo_38, lo_40, lo_42, lo_44, lo_47, lo_49, lo_51, lo_54, lo_56, lo_58, lo_60, lo_63, lo_65, lo_67, lo_69, lo_72, lo_74, lo_76, lo_78, lo_80, lo_82, lo_84, lo_86, lo_88, lo_90, lo_93, lo_95, lo_97, lo_99, lo_101, lo_103, lo_105, lo_107, lo_109, lo_111, lo_114, lo_116, lo_118, lo_120, lo_122, lo_124, lo_126, lo_128, lo_130, lo_132, lo_135, lo_137, lo_139, lo_141, lo_143, lo_145, lo_147, lo_149, lo_151, lo_153, lo_156, lo_159, lo_161, lo_163, lo_165, lo_167, lo_169, lo_171, lo_173, lo_175, lo_177, lo_179, lo_181, lo_183, lo_184, lo_185, lo_186, lo_187, lo_188, lo_189, lo_190, lo_191, lo_192, lo_193, lo_194, lo_195, lo_196, lo_197, lo_198, lo_199, lo_200, lo_201, lo_202, lo_203, jp_nn, jp_eq, jp_e1, Classical.not_not, ji0, ji1, ji2, cs17_55, kk_55, jl_0, jl_1, jl_2, jl_3, jl_4, jl_5, jl_6, jl_7, jl_8, jl_9, jl_10, jl_11, jl_12, jl_13, jl_14, jl_15, jl_16, jl_17, jl_18, jl_19, jl_20, jl_21, jl_22, jl_23, jl_24, jl_25, jl_26, jl_27, jl_28, jl_29, jl_30, jl_31, jl_32, jl_33, jl_34, jl_35, jl_36, jl_37, jl_38, jl_39, jl_40, jl_95, jl_96, jl_97, jl_98, jl_99, jl_100, jl_101, jl_102, jl_103, jl_104, jl_105, jl_106, jl_107, jl_108, jl_109, jl_110, jl_111, jl_112, jl_113, jl_114, jl_186, jl_1100, jr, ju, jpT, jpF, tnc, Nat.reduceEqDiff, reduceIte, and_false, false_and, not_true_eq_false, not_false_eq_true, or_false, gt_iff_lt, ge_iff_le, Int.lt_irrefl, Int.le_refl, m4_w, s3_w, ek]
    exact hQ _ ((FW.up (by omega)).tr (FW.up (by omega))) (m.push hl)
  · exact hQ.elim
theorem m_90 : BodyOK CS17 CS17 90 := fun av h Q hQ => by
  rw [cs17_90] at hQ
  unfold k90 at hQ
  split at hQ
  · rename_i o
    obtain ⟨rfl, l, O, d, m, hn, hd_w, hd2, hQ⟩ := hQ
    have m4_w : h 45 4 = (l.length : Int) := m.1.1
    have hl := m.1.2.1
    have e0 : j32 ((l.length : Int) - 1) = (l.length : Int) - 1 := j32_id (by omega) (by omega)
    show pS CS17 bb_90 [45, 0] h _
    unfold bb_90
    simp only [qe_1, qe_3, qe_4, qe_5, qe_7, qe_72, qe_10, qe_102, qe_13, qe_14, qe_15, qe_16, qe_17, qe_18, qe_20, qe_22, qe_23, qe_21, qe_24, qe_25, qe_26, qe_27, qe_28, qe_30, qe_31, qe_32, qc_20, qc_22, qc_23, qc_21, qc_24, qc_25, qc_26, qc_27, qc_1, qc_3, qc_4, qc_7, qc_13, qc_28, qc_32, qs_1, qs_2, qs_3, qs_4, qs_5, qs_6, qs_9, qs_10, qs_11, qs_14, qs_15, qs_16, qs_27, qs_17, qs_18, qs_19, qs_20, qs_22, qs_23, qs_28, qs_25, qs_26, qs_7, qs_8, kc_1, kn_1, kc_2, kn_2, kc_3, kn_3, kc_4, kn_4, kc_5, kn_5, kc_6, kn_6, kc_7, kn_7, kc_8, kn_8, kc_9, kn_9, kc_10, kn_10, kc_11, kn_11, kc_12, kn_12, kc_13, kn_13, kc_14, kn_14, kc_15, kn_15, kc_16, kc_17, kc_18, kc_19, kc_20, kc_21, kc_22, kc_23, kc_30, kc_32, kc_40, kc_43, kc_45, kc_48, kc_52, kc_56, kc_57, kc_59, kc_60, kc_61, kc_63, kc_64, kc_72, kc_78, kc_97, kc_99, kc_122, kc_126, kc_128, kc_192, kc_200, kc_255, kc_999, kc_1000, kc_9999, kn_9999, kc_10000, kc_12345, kc_65536, kc_252645135, kc_858993459, kc_1103515245, kc_1431655765, kc_2147483647, kc_0, kc_24, kc_28, kc_37, kc_41, kc_42, kc_73, kc_91, kc_95, kc_96, kc_98, kc_100, kc_112, kc_125, kc_150, kc_162, kc_163, kc_168, kc_186, kc_190, kc_250, kc_355, kc_356, kc_404, kc_405, kc_429, kc_573, kc_1002, kc_1100, kc_1891, kc_2200, kc_4719, kc_4869, kc_4881, kc_5148, kc_19741, kc_25433, kc_320403, kc_628412, kc_629093, kc_660401, kc_679843, kc_918640, kc_979410, kc_1178088, kc_6232410, kc_24644941, kc_36238189, kc_38270444, kc_392531318, kc_425693491, kc_1342154595, kc_2147483648, kc_42328242873, kc_891704255789, kc_1722105685577, kc_1858726030364, ct_0, ct_1, ct_2, ct_3, ct_4, ct_5, cf_0, cf_1, cf_2, cf_3, cf_4, cf_5, w_ty6, w_ty7, m_sv, m_z0, m_hd, m_g0, m_gs, m_s0, m_ss, m_ap, m_an, forall_const, true_and, and_true, ne_eq, not_true_eq_false, not_false_eq_true, false_implies, true_implies, implies_true, eq_self, reduceCtorEq, Nat.reduceDiv, Nat.reduceMod, Int.reduceToNat, or_true, true_or, or_false, false_or, or_self, m_it, m_if, m_c1, m_01, m_02, m_03, m_04, m_10, m_12, m_13, m_14, m_20, m_21, m_23, m_24, m_30, m_31, m_32, m_34, m_40, m_41, m_42, m_43, Int.reduceLE, Int.reduceLT, Int.reduceGE, Int.reduceGT, Int.reduceNeg, Int.reduceAdd, Int.reduceSub, Int.reduceMul, Int.reduceEq, Int.reduceNe, Nat.reduceAdd, jun2, ro_0_0, ro_0_1, ro_0_2, ro_0_3, ro_0_4, ro_0_5, ro_0_6, ro_0_7, ro_0_8, ro_0_9, ro_0_10, ro_0_11, ro_0_12, ro_1_0, ro_1_1, ro_2_0, ro_4_0, ro_6_0, ro_6_1, ro_6_2, ro_6_3, ro_6_4, ro_6_5, ro_6_6, ro_6_7, ro_6_8, ro_8_0, ro_10_0, ro_12_0, ro_14_0, ro_16_0, ro_18_0, ro_20_0, ro_22_0, ro_22_1, ro_22_2, ro_23_0, ro_25_0, ro_27_0, ro_29_0, ro_29_1, ro_29_2, ro_29_3, ro_29_4, ro_29_5, ro_29_6, ro_29_7, ro_29_8, ro_31_0, ro_33_0, ro_35_0, ro_37_0, ro_39_0, ro_41_0, ro_43_0, ro_45_0, ro_45_1, ro_45_2, ro_46_0, ro_48_0, ro_50_0, ro_52_0, ro_52_1, ro_52_2, ro_52_3, ro_53_0, ro_55_0, ro_57_0, ro_59_0, ro_61_0, ro_61_1, ro_61_2, ro_61_3, ro_62_0, ro_64_0, ro_66_0, ro_68_0, ro_70_0, ro_70_1, ro_70_2, ro_70_3, ro_70_4, ro_70_5, ro_70_6, ro_70_7, ro_70_8, ro_70_9, ro_71_0, ro_73_0, ro_75_0, ro_77_0, ro_79_0, ro_81_0, ro_83_0, ro_85_0, ro_87_0, ro_89_0, ro_91_0, ro_91_1, ro_91_2, ro_91_3, ro_91_4, ro_91_5, ro_91_6, ro_91_7, ro_91_8, ro_91_9, ro_92_0, ro_94_0, ro_96_0, ro_98_0, ro_100_0, ro_102_0, ro_104_0, ro_106_0, ro_108_0, ro_110_0, ro_112_0, ro_112_1, ro_112_2, ro_112_3, ro_112_4, ro_112_5, ro_112_6, ro_112_7, ro_112_8, ro_112_9, ro_113_0, ro_115_0, ro_117_0, ro_119_0, ro_121_0, ro_123_0, ro_125_0, ro_127_0, ro_129_0, ro_131_0, ro_133_0, ro_133_1, ro_133_2, ro_133_3, ro_133_4, ro_133_5, ro_133_6, ro_133_7, ro_133_8, ro_133_9, ro_134_0, ro_136_0, ro_138_0, ro_140_0, ro_142_0, ro_144_0, ro_146_0, ro_148_0, ro_150_0, ro_152_0, ro_154_0, ro_155_0, ro_157_0, ro_157_1, ro_157_2, ro_157_3, ro_157_4, ro_157_5, ro_157_6, ro_157_7, ro_157_8, ro_157_9, ro_158_0, ro_160_0, ro_162_0, ro_164_0, ro_166_0, ro_168_0, ro_170_0, ro_172_0, ro_174_0, ro_176_0, ro_178_0, ro_180_0, ro_182_1, ro_182_4, ro_182_5, ro_182_6, ro_182_9, ro_182_10, ro_182_11, ro_182_13, ro_182_14, ro_182_15, ro_182_16, ro_182_17, ro_182_20, ro_182_21, ro_182_22, ro_182_23, ro_182_24, ro_182_26, ro_182_27, ro_182_28, lo_3, lo_5, lo_7, lo_9, lo_11, lo_13, lo_15, lo_17, lo_19, lo_21, lo_24, lo_26, lo_28, lo_30, lo_32, lo_34, lo_36, lo_38, lo_40, lo_42, lo_44, lo_47, lo_49, lo_51, lo_54, lo_56, lo_58, lo_60, lo_63, lo_65, lo_67, lo_69, lo_72, lo_74, lo_76, lo_78, lo_80, lo_82, lo_84, lo_86, lo_88, lo_90, lo_93, lo_95, lo_97, lo_99, lo_101, lo_103, lo_105, lo_107, lo_109, lo_111, lo_114, lo_116, lo_118, lo_120, lo_122, lo_124, lo_126, lo_128, lo_130, lo_132, lo_135, lo_137, lo_139, lo_141, lo_143, lo_145, lo_147, lo_149, lo_151, lo_153, lo_156, lo_159, lo_161, lo_163, lo_165, lo_167, lo_169, lo_171, lo_173, lo_175, lo_177, lo_179, lo_181, lo_183, lo_184, lo_185, lo_186, lo_187, lo_188, lo_189, lo_190, lo_191, lo_192, lo_193, lo_194, lo_195, lo_196, lo_197, lo_198, lo_199, lo_200, lo_201, lo_202, lo_203, jp_nn, jp_eq, jp_e1, Classical.not_not, ji0, ji1, ji2, cs17_54, kk_54, cs17_55, kk_55, jl_0, jl_1, jl_2, jl_3, jl_4, jl_5, jl_6, jl_7, jl_8, jl_9, jl_10, jl_11, jl_12, jl_13, jl_14, jl_15, jl_16, jl_17, jl_18, jl_19, jl_20, jl_21, jl_22, jl_23, jl_24, jl_25, jl_26, jl_27, jl_28, jl_29, jl_30, jl_31, jl_32, jl_33, jl_34, jl_35, jl_36, jl_37, jl_38, jl_39, jl_40, jl_95, jl_96, jl_97, jl_98, jl_99, jl_100, jl_101, jl_102, jl_103, jl_104, jl_105, jl_106, jl_107, jl_108, jl_109, jl_110, jl_111, jl_112, jl_113, jl_114, jl_186, jl_1100, jr, ju, jpT, jpF, tnc, Nat.reduceEqDiff, reduceIte, and_false, false_and, not_true_eq_false, not_false_eq_true, or_false, gt_iff_lt, ge_iff_le, Int.lt_irrefl, Int.le_refl, m4_w, e0]
    refine qp_lp (fun en h' => ∃ (l' O' : List Int) (d' : Int), en = [45, (l'.length : Int) - 1] ∧ LM l' O' d' h' ∧ FW h h' ∧ O'.length + l'.length ≤ 1000 ∧ (ntn l' : Int) ≤ d' ∧ d' ≤ 100 ∧ ntk l = ntk l' ∧ O ++ List.replicate (ntn l) 3 = O' ++ List.replicate (ntn l') 3 ∧ d - (ntn l : Int) = d' - (ntn l' : Int)) ⟨l, O, d, rfl, m, FW.rf, hn, hd_w, hd2, rfl, rfl, rfl⟩ ?_
    intro en h1 ⟨l', O', d', e1_w, m1_w, f1_w, n1_w, b1, b2, z1, z2, z3⟩
    rw [z1, z2, z3] at hQ
    cases l' with
    | nil =>
      have e1' : en = [45, -1] := e1_w
      subst e1'
      simp only [qe_1, qe_3, qe_4, qe_5, qe_7, qe_72, qe_10, qe_102, qe_13, qe_14, qe_15, qe_16, qe_17, qe_18, qe_20, qe_22, qe_23, qe_21, qe_24, qe_25, qe_26, qe_27, qe_28, qe_30, qe_31, qe_32, qc_20, qc_22, qc_23, qc_21, qc_24, qc_25, qc_26, qc_27, qc_1, qc_3, qc_4, qc_7, qc_13, qc_28, qc_32, qs_1, qs_2, qs_3, qs_4, qs_5, qs_6, qs_9, qs_10, qs_11, qs_14, qs_15, qs_16, qs_27, qs_17, qs_18, qs_19, qs_20, qs_22, qs_23, qs_28, qs_25, qs_26, qs_7, qs_8, kc_1, kn_1, kc_2, kn_2, kc_3, kn_3, kc_4, kn_4, kc_5, kn_5, kc_6, kn_6, kc_7, kn_7, kc_8, kn_8, kc_9, kn_9, kc_10, kn_10, kc_11, kn_11, kc_12, kn_12, kc_13, kn_13, kc_14, kn_14, kc_15, kn_15, kc_16, kc_17, kc_18, kc_19, kc_20, kc_21, kc_22, kc_23, kc_30, kc_32, kc_40, kc_43, kc_45, kc_48, kc_52, kc_56, kc_57, kc_59, kc_60, kc_61, kc_63, kc_64, kc_72, kc_78, kc_97, kc_99, kc_122, kc_126, kc_128, kc_192, kc_200, kc_255, kc_999, kc_1000, kc_9999, kn_9999, kc_10000, kc_12345, kc_65536, kc_252645135, kc_858993459, kc_1103515245, kc_1431655765, kc_2147483647, kc_0, kc_24, kc_28, kc_37, kc_41, kc_42, kc_73, kc_91, kc_95, kc_96, kc_98, kc_100, kc_112, kc_125, kc_150, kc_162, kc_163, kc_168, kc_186, kc_190, kc_250, kc_355, kc_356, kc_404, kc_405, kc_429, kc_573, kc_1002, kc_1100, kc_1891, kc_2200, kc_4719, kc_4869, kc_4881, kc_5148, kc_19741, kc_25433, kc_320403, kc_628412, kc_629093, kc_660401, kc_679843, kc_918640, kc_979410, kc_1178088, kc_6232410, kc_24644941, kc_36238189, kc_38270444, kc_392531318, kc_425693491, kc_1342154595, kc_2147483648, kc_42328242873, kc_891704255789, kc_1722105685577, kc_1858726030364, ct_0, ct_1, ct_2, ct_3, ct_4, ct_5, cf_0, cf_1, cf_2, cf_3, cf_4, cf_5, w_ty6, w_ty7, m_sv, m_z0, m_hd, m_g0, m_gs, m_s0, m_ss, m_ap, m_an, forall_const, true_and, and_true, ne_eq, not_true_eq_false, not_false_eq_true, false_implies, true_implies, implies_true, eq_self, reduceCtorEq, Nat.reduceDiv, Nat.reduceMod, Int.reduceToNat, or_true, true_or, or_false, false_or, or_self, m_it, m_if, m_c1, m_01, m_02, m_03, m_04, m_10, m_12, m_13, m_14, m_20, m_21, m_23, m_24, m_30, m_31, m_32, m_34, m_40, m_41, m_42, m_43, Int.reduceLE, Int.reduceLT, Int.reduceGE, Int.reduceGT, Int.reduceNeg, Int.reduceAdd, Int.reduceSub, Int.reduceMul, Int.reduceEq, Int.reduceNe, Nat.reduceAdd, jun2, ro_0_0, ro_0_1, ro_0_2, ro_0_3, ro_0_4, ro_0_5, ro_0_6, ro_0_7, ro_0_8, ro_0_9, ro_0_10, ro_0_11, ro_0_12, ro_1_0, ro_1_1, ro_2_0, ro_4_0, ro_6_0, ro_6_1, ro_6_2, ro_6_3, ro_6_4, ro_6_5, ro_6_6, ro_6_7, ro_6_8, ro_8_0, ro_10_0, ro_12_0, ro_14_0, ro_16_0, ro_18_0, ro_20_0, ro_22_0, ro_22_1, ro_22_2, ro_23_0, ro_25_0, ro_27_0, ro_29_0, ro_29_1, ro_29_2, ro_29_3, ro_29_4, ro_29_5, ro_29_6, ro_29_7, ro_29_8, ro_31_0, ro_33_0, ro_35_0, ro_37_0, ro_39_0, ro_41_0, ro_43_0, ro_45_0, ro_45_1, ro_45_2, ro_46_0, ro_48_0, ro_50_0, ro_52_0, ro_52_1, ro_52_2, ro_52_3, ro_53_0, ro_55_0, ro_57_0, ro_59_0, ro_61_0, ro_61_1, ro_61_2, ro_61_3, ro_62_0, ro_64_0, ro_66_0, ro_68_0, ro_70_0, ro_70_1, ro_70_2, ro_70_3, ro_70_4, ro_70_5, ro_70_6, ro_70_7, ro_70_8, ro_70_9, ro_71_0, ro_73_0, ro_75_0, ro_77_0, ro_79_0, ro_81_0, ro_83_0, ro_85_0, ro_87_0, ro_89_0, ro_91_0, ro_91_1, ro_91_2, ro_91_3, ro_91_4, ro_91_5, ro_91_6, ro_91_7, ro_91_8, ro_91_9, ro_92_0, ro_94_0, ro_96_0, ro_98_0, ro_100_0, ro_102_0, ro_104_0, ro_106_0, ro_108_0, ro_110_0, ro_112_0, ro_112_1, ro_112_2, ro_112_3, ro_112_4, ro_112_5, ro_112_6, ro_112_7, ro_112_8, ro_112_9, ro_113_0, ro_115_0, ro_117_0, ro_119_0, ro_121_0, ro_123_0, ro_125_0, ro_127_0, ro_129_0, ro_131_0, ro_133_0, ro_133_1, ro_133_2, ro_133_3, ro_133_4, ro_133_5, ro_133_6, ro_133_7, ro_133_8, ro_133_9, ro_134_0, ro_136_0, ro_138_0, ro_140_0, ro_142_0, ro_144_0, ro_146_0, ro_148_0, ro_150_0, ro_152_0, ro_154_0, ro_155_0, ro_157_0, ro_157_1, ro_157_2, ro_157_3, ro_157_4, ro_157_5, ro_157_6, ro_157_7, ro_157_8, ro_157_9, ro_158_0, ro_160_0, ro_162_0, ro_164_0, ro_166_0, ro_168_0, ro_170_0, ro_172_0, ro_174_0, ro_176_0, ro_178_0, ro_180_0, ro_182_1, ro_182_4, ro_182_5, ro_182_6, ro_182_9, ro_182_10, ro_182_11, ro_182_13, ro_182_14, ro_182_15, ro_182_16, ro_182_17, ro_182_20, ro_182_21, ro_182_22, ro_182_23, ro_182_24, ro_182_26, ro_182_27, ro_182_28, lo_3, lo_5, lo_7, lo_9, lo_11, lo_13, lo_15, lo_17, lo_19, lo_21, lo_24, lo_26, lo_28, lo_30, lo_32, lo_34, lo_36, lo_38, lo_40, lo_42, lo_44, lo_47, lo_49, lo_51, lo_54, lo_56, lo_58, lo_60, lo_63, lo_65, lo_67, lo_69, lo_72, lo_74, lo_76, lo_78, lo_80, lo_82, lo_84, lo_86, lo_88, lo_90, lo_93, lo_95, lo_97, lo_99, lo_101, lo_103, lo_105, lo_107, lo_109, lo_111, lo_114, lo_116, lo_118, lo_120, lo_122, lo_124, lo_126, lo_128, lo_130, lo_132, lo_135, lo_137, lo_139, lo_141, lo_143, lo_145, lo_147, lo_149, lo_151, lo_153, lo_156, lo_159, lo_161, lo_163, lo_165, lo_167, lo_169, lo_171, lo_173, lo_175, lo_177, lo_179, lo_181, lo_183, lo_184, lo_185, lo_186, lo_187, lo_188, lo_189, lo_190, lo_191, lo_192, lo_193, lo_194, lo_195, lo_196, lo_197, lo_198, lo_199, lo_200, lo_201, lo_202, lo_203, jp_nn, jp_eq, jp_e1, Classical.not_not, ji0, ji1, ji2, cs17_54, kk_54, cs17_55, kk_55, jl_0, jl_1, jl_2, jl_3, jl_4, jl_5, jl_6, jl_7, jl_8, jl_9, jl_10, jl_11, jl_12, jl_13, jl_14, jl_15, jl_16, jl_17, jl_18, jl_19, jl_20, jl_21, jl_22, jl_23, jl_24, jl_25, jl_26, jl_27, jl_28, jl_29, jl_30, jl_31, jl_32, jl_33, jl_34, jl_35, jl_36, jl_37, jl_38, jl_39, jl_40, jl_95, jl_96, jl_97, jl_98, jl_99, jl_100, jl_101, jl_102, jl_103, jl_104, jl_105, jl_106, jl_107, jl_108, jl_109, jl_110, jl_111, jl_112, jl_113, jl_114, jl_186, jl_1100, jr, ju, jpT, jpF, tnc, Nat.reduceEqDiff, reduceIte, and_false, false_and, not_true_eq_false, not_false_eq_true, or_false, gt_iff_lt, ge_iff_le, Int.lt_irrefl, Int.le_refl]
      have hq := hQ h1 f1_w
      simp only [ntn, List.replicate_zero, List.append_nil] at hq
      exact hq (by simpa [ntk] using m1_w)
    | cons w l2 =>
      have e1' : en = [45, (l2.length : Int)] := by
        rw [e1_w]
        show [45, ((l2.length + 1 : Nat) : Int) - 1] = _
        rw [show ((l2.length + 1 : Nat) : Int) - 1 = (l2.length : Int) by omega]
      subst e1'
      have tp := m1_w.top
      have y0 : (0 : Int) ≤ (l2.length : Int) := by omega
      have y0' : ¬ (l2.length : Int) < 0 := by omega
      by_cases y : w = -5
      · subst y
        have ek1 : ntn (-5 :: l2) = ntn l2 + 1 := if_pos rfl
        have ek2 : ntk (-5 :: l2) = ntk l2 := if_pos rfl
        have m3_w : h1 45 3 = (O'.length : Int) := m1_w.2.1.1
        have m4_w : h1 45 4 = (((-5 : Int) :: l2).length : Int) := m1_w.1.1
        have m5_w : h1 45 5 = d' := m1_w.2.2
        have hl2 : ((-5 : Int) :: l2).length = l2.length + 1 := rfl
        have hl64 := m1_w.1.2.1
        have s3_w : ∀ {v : Int}, rs h1 46 (O'.length : Int) v = j_up h1 47 O'.length v := fun {v} => rs46 (by omega)
        have ek := jk1 (k := O'.length) (by omega)
        have e4_w : j32 ((((-5 : Int) :: l2).length : Int) - 1) = (l2.length : Int) := by
          rw [hl2, j32_id (by omega) (by omega)]
          omega
        have e5_w : j32 (d' - 1) = d' - 1 := j32_id (by omega) (by omega)
        have e6_w : j32 ((l2.length : Int) + -1) = (l2.length : Int) - 1 := by
          rw [j32_id (by omega) (by omega)]
          omega
        have e6' : j32 ((l2.length : Int) - 1) = (l2.length : Int) - 1 := j32_id (by omega) (by omega)
        simp only [qe_1, qe_3, qe_4, qe_5, qe_7, qe_72, qe_10, qe_102, qe_13, qe_14, qe_15, qe_16, qe_17, qe_18, qe_20, qe_22, qe_23, qe_21, qe_24, qe_25, qe_26, qe_27, qe_28, qe_30, qe_31, qe_32, qc_20, qc_22, qc_23, qc_21, qc_24, qc_25, qc_26, qc_27, qc_1, qc_3, qc_4, qc_7, qc_13, qc_28, qc_32, qs_1, qs_2, qs_3, qs_4, qs_5, qs_6, qs_9, qs_10, qs_11, qs_14, qs_15, qs_16, qs_27, qs_17, qs_18, qs_19, qs_20, qs_22, qs_23, qs_28, qs_25, qs_26, qs_7, qs_8, kc_1, kn_1, kc_2, kn_2, kc_3, kn_3, kc_4, kn_4, kc_5, kn_5, kc_6, kn_6, kc_7, kn_7, kc_8, kn_8, kc_9, kn_9, kc_10, kn_10, kc_11, kn_11, kc_12, kn_12, kc_13, kn_13, kc_14, kn_14, kc_15, kn_15, kc_16, kc_17, kc_18, kc_19, kc_20, kc_21, kc_22, kc_23, kc_30, kc_32, kc_40, kc_43, kc_45, kc_48, kc_52, kc_56, kc_57, kc_59, kc_60, kc_61, kc_63, kc_64, kc_72, kc_78, kc_97, kc_99, kc_122, kc_126, kc_128, kc_192, kc_200, kc_255, kc_999, kc_1000, kc_9999, kn_9999, kc_10000, kc_12345, kc_65536, kc_252645135, kc_858993459, kc_1103515245, kc_1431655765, kc_2147483647, kc_0, kc_24, kc_28, kc_37, kc_41, kc_42, kc_73, kc_91, kc_95, kc_96, kc_98, kc_100, kc_112, kc_125, kc_150, kc_162, kc_163, kc_168, kc_186, kc_190, kc_250, kc_355, kc_356, kc_404, kc_405, kc_429, kc_573, kc_1002, kc_1100, kc_1891, kc_2200, kc_4719, kc_4869, kc_4881, kc_5148, kc_19741, kc_25433, kc_320403, kc_628412, kc_629093, kc_660401, kc_679843, kc_918640, kc_979410, kc_1178088, kc_6232410, kc_24644941, kc_36238189, kc_38270444, kc_392531318, kc_425693491, kc_1342154595, kc_2147483648, kc_42328242873, kc_891704255789, kc_1722105685577, kc_1858726030364, ct_0, ct_1, ct_2, ct_3, ct_4, ct_5, cf_0, cf_1, cf_2, cf_3, cf_4, cf_5, w_ty6, w_ty7, m_sv, m_z0, m_hd, m_g0, m_gs, m_s0, m_ss, m_ap, m_an, forall_const, true_and, and_true, ne_eq, not_true_eq_false, not_false_eq_true, false_implies, true_implies, implies_true, eq_self, reduceCtorEq, Nat.reduceDiv, Nat.reduceMod, Int.reduceToNat, or_true, true_or, or_false, false_or, or_self, m_it, m_if, m_c1, m_01, m_02, m_03, m_04, m_10, m_12, m_13, m_14, m_20, m_21, m_23, m_24, m_30, m_31, m_32, m_34, m_40, m_41, m_42, m_43, Int.reduceLE, Int.reduceLT, Int.reduceGE, Int.reduceGT, Int.reduceNeg, Int.reduceAdd, Int.reduceSub, Int.reduceMul, Int.reduceEq, Int.reduceNe, Nat.reduceAdd, jun2, ro_0_0, ro_0_1, ro_0_2, ro_0_3, ro_0_4, ro_0_5, ro_0_6, ro_0_7, ro_0_8, ro_0_9, ro_0_10, ro_0_11, ro_0_12, ro_1_0, ro_1_1, ro_2_0, ro_4_0, ro_6_0, ro_6_1, ro_6_2, ro_6_3, ro_6_4, ro_6_5, ro_6_6, ro_6_7, ro_6_8, ro_8_0, ro_10_0, ro_12_0, ro_14_0, ro_16_0, ro_18_0, ro_20_0, ro_22_0, ro_22_1, ro_22_2, ro_23_0, ro_25_0, ro_27_0, ro_29_0, ro_29_1, ro_29_2, ro_29_3, ro_29_4, ro_29_5, ro_29_6, ro_29_7, ro_29_8, ro_31_0, ro_33_0, ro_35_0, ro_37_0, ro_39_0, ro_41_0, ro_43_0, ro_45_0, ro_45_1, ro_45_2, ro_46_0, ro_48_0, ro_50_0, ro_52_0, ro_52_1, ro_52_2, ro_52_3, ro_53_0, ro_55_0, ro_57_0, ro_59_0, ro_61_0, ro_61_1, ro_61_2, ro_61_3, ro_62_0, ro_64_0, ro_66_0, ro_68_0, ro_70_0, ro_70_1, ro_70_2, ro_70_3, ro_70_4, ro_70_5, ro_70_6, ro_70_7, ro_70_8, ro_70_9, ro_71_0, ro_73_0, ro_75_0, ro_77_0, ro_79_0, ro_81_0, ro_83_0, ro_85_0, ro_87_0, ro_89_0, ro_91_0, ro_91_1, ro_91_2, ro_91_3, ro_91_4, ro_91_5, ro_91_6, ro_91_7, ro_91_8, ro_91_9, ro_92_0, ro_94_0, ro_96_0, ro_98_0, ro_100_0, ro_102_0, ro_104_0, ro_106_0, ro_108_0, ro_110_0, ro_112_0, ro_112_1, ro_112_2, ro_112_3, ro_112_4, ro_112_5, ro_112_6, ro_112_7, ro_112_8, ro_112_9, ro_113_0, ro_115_0, ro_117_0, ro_119_0, ro_121_0, ro_123_0, ro_125_0, ro_127_0, ro_129_0, ro_131_0, ro_133_0, ro_133_1, ro_133_2, ro_133_3, ro_133_4, ro_133_5, ro_133_6, ro_133_7, ro_133_8, ro_133_9, ro_134_0, ro_136_0, ro_138_0, ro_140_0, ro_142_0, ro_144_0, ro_146_0, ro_148_0, ro_150_0, ro_152_0, ro_154_0, ro_155_0, ro_157_0, ro_157_1, ro_157_2, ro_157_3, ro_157_4, ro_157_5, ro_157_6, ro_157_7, ro_157_8, ro_157_9, ro_158_0, ro_160_0, ro_162_0, ro_164_0, ro_166_0, ro_168_0, ro_170_0, ro_172_0, ro_174_0, ro_176_0, ro_178_0, ro_180_0, ro_182_1, ro_182_4, ro_182_5, ro_182_6, ro_182_9, ro_182_10, ro_182_11, ro_182_13, ro_182_14, ro_182_15, ro_182_16, ro_182_17, ro_182_20, ro_182_21, ro_182_22, ro_182_23, ro_182_24, ro_182_26, ro_182_27, ro_182_28, lo_3, lo_5, lo_7, lo_9, lo_11, lo_13, lo_15, lo_17, lo_19, lo_21, lo_24, lo_26, lo_28, lo_30, lo_32, lo_34, lo_36, lo_38, lo_40, lo_42, lo_44, lo_47, lo_49, lo_51, lo_54, lo_56, lo_58, lo_60, lo_63, lo_65, lo_67, lo_69, lo_72, lo_74, lo_76, lo_78, lo_80, lo_82, lo_84, lo_86, lo_88, lo_90, lo_93, lo_95, lo_97, lo_99, lo_101, lo_103, lo_105, lo_107, lo_109, lo_111, lo_114, lo_116, lo_118, lo_120, lo_122, lo_124, lo_126, lo_128, lo_130, lo_132, lo_135, lo_137, lo_139, lo_141, lo_143, lo_145, lo_147, lo_149, lo_151, lo_153, lo_156, lo_159, lo_161, lo_163, lo_165, lo_167, lo_169, lo_171, lo_173, lo_175, lo_177, lo_179, lo_181, lo_183, lo_184, lo_185, lo_186, lo_187, lo_188, lo_189, lo_190, lo_191, lo_192, lo_193, lo_194, lo_195, lo_196, lo_197, lo_198, lo_199, lo_200, lo_201, lo_202, lo_203, jp_nn, jp_eq, jp_e1, Classical.not_not, ji0, ji1, ji2, cs17_54, kk_54, cs17_55, kk_55, jl_0, jl_1, jl_2, jl_3, jl_4, jl_5, jl_6, jl_7, jl_8, jl_9, jl_10, jl_11, jl_12, jl_13, jl_14, jl_15, jl_16, jl_17, jl_18, jl_19, jl_20, jl_21, jl_22, jl_23, jl_24, jl_25, jl_26, jl_27, jl_28, jl_29, jl_30, jl_31, jl_32, jl_33, jl_34, jl_35, jl_36, jl_37, jl_38, jl_39, jl_40, jl_95, jl_96, jl_97, jl_98, jl_99, jl_100, jl_101, jl_102, jl_103, jl_104, jl_105, jl_106, jl_107, jl_108, jl_109, jl_110, jl_111, jl_112, jl_113, jl_114, jl_186, jl_1100, jr, ju, jpT, jpF, tnc, Nat.reduceEqDiff, reduceIte, and_false, false_and, not_true_eq_false, not_false_eq_true, or_false, gt_iff_lt, ge_iff_le, Int.lt_irrefl, Int.le_refl, tp, y0, y0', m3_w, s3_w, ek, m4_w, m5_w, e4_w, e5_w, e6_w, e6']
        refine ⟨l2, O' ++ [3], d' - 1, rfl, ((m1_w.out (c := 3) (by omega)).pop).dep, f1_w.tr ((FW.up (by omega)).tr ((FW.up (by omega)).tr ((FW.up (by omega)).tr (FW.up (by omega))))), ?_, by omega, by omega, z1.trans ek2, ?_, by omega⟩
        · rw [List.length_append]
          show O'.length + 1 + l2.length ≤ 1000
          omega
        · rw [z2, ek1, List.append_assoc, List.replicate_succ]
          rfl
      · have ek1 : ntn (w :: l2) = 0 := if_neg y
        have ek2 : ntk (w :: l2) = w :: l2 := if_neg y
        simp only [qe_1, qe_3, qe_4, qe_5, qe_7, qe_72, qe_10, qe_102, qe_13, qe_14, qe_15, qe_16, qe_17, qe_18, qe_20, qe_22, qe_23, qe_21, qe_24, qe_25, qe_26, qe_27, qe_28, qe_30, qe_31, qe_32, qc_20, qc_22, qc_23, qc_21, qc_24, qc_25, qc_26, qc_27, qc_1, qc_3, qc_4, qc_7, qc_13, qc_28, qc_32, qs_1, qs_2, qs_3, qs_4, qs_5, qs_6, qs_9, qs_10, qs_11, qs_14, qs_15, qs_16, qs_27, qs_17, qs_18, qs_19, qs_20, qs_22, qs_23, qs_28, qs_25, qs_26, qs_7, qs_8, kc_1, kn_1, kc_2, kn_2, kc_3, kn_3, kc_4, kn_4, kc_5, kn_5, kc_6, kn_6, kc_7, kn_7, kc_8, kn_8, kc_9, kn_9, kc_10, kn_10, kc_11, kn_11, kc_12, kn_12, kc_13, kn_13, kc_14, kn_14, kc_15, kn_15, kc_16, kc_17, kc_18, kc_19, kc_20, kc_21, kc_22, kc_23, kc_30, kc_32, kc_40, kc_43, kc_45, kc_48, kc_52, kc_56, kc_57, kc_59, kc_60, kc_61, kc_63, kc_64, kc_72, kc_78, kc_97, kc_99, kc_122, kc_126, kc_128, kc_192, kc_200, kc_255, kc_999, kc_1000, kc_9999, kn_9999, kc_10000, kc_12345, kc_65536, kc_252645135, kc_858993459, kc_1103515245, kc_1431655765, kc_2147483647, kc_0, kc_24, kc_28, kc_37, kc_41, kc_42, kc_73, kc_91, kc_95, kc_96, kc_98, kc_100, kc_112, kc_125, kc_150, kc_162, kc_163, kc_168, kc_186, kc_190, kc_250, kc_355, kc_356, kc_404, kc_405, kc_429, kc_573, kc_1002, kc_1100, kc_1891, kc_2200, kc_4719, kc_4869, kc_4881, kc_5148, kc_19741, kc_25433, kc_320403, kc_628412, kc_629093, kc_660401, kc_679843, kc_918640, kc_979410, kc_1178088, kc_6232410, kc_24644941, kc_36238189, kc_38270444, kc_392531318, kc_425693491, kc_1342154595, kc_2147483648, kc_42328242873, kc_891704255789, kc_1722105685577, kc_1858726030364, ct_0, ct_1, ct_2, ct_3, ct_4, ct_5, cf_0, cf_1, cf_2, cf_3, cf_4, cf_5, w_ty6, w_ty7, m_sv, m_z0, m_hd, m_g0, m_gs, m_s0, m_ss, m_ap, m_an, forall_const, true_and, and_true, ne_eq, not_true_eq_false, not_false_eq_true, false_implies, true_implies, implies_true, eq_self, reduceCtorEq, Nat.reduceDiv, Nat.reduceMod, Int.reduceToNat, or_true, true_or, or_false, false_or, or_self, m_it, m_if, m_c1, m_01, m_02, m_03, m_04, m_10, m_12, m_13, m_14, m_20, m_21, m_23, m_24, m_30, m_31, m_32, m_34, m_40, m_41, m_42, m_43, Int.reduceLE, Int.reduceLT, Int.reduceGE, Int.reduceGT, Int.reduceNeg, Int.reduceAdd, Int.reduceSub, Int.reduceMul, Int.reduceEq, Int.reduceNe, Nat.reduceAdd, jun2, ro_0_0, ro_0_1, ro_0_2, ro_0_3, ro_0_4, ro_0_5, ro_0_6, ro_0_7, ro_0_8, ro_0_9, ro_0_10, ro_0_11, ro_0_12, ro_1_0, ro_1_1, ro_2_0, ro_4_0, ro_6_0, ro_6_1, ro_6_2, ro_6_3, ro_6_4, ro_6_5, ro_6_6, ro_6_7, ro_6_8, ro_8_0, ro_10_0, ro_12_0, ro_14_0, ro_16_0, ro_18_0, ro_20_0, ro_22_0, ro_22_1, ro_22_2, ro_23_0, ro_25_0, ro_27_0, ro_29_0, ro_29_1, ro_29_2, ro_29_3, ro_29_4, ro_29_5, ro_29_6, ro_29_7, ro_29_8, ro_31_0, ro_33_0, ro_35_0, ro_37_0, ro_39_0, ro_41_0, ro_43_0, ro_45_0, ro_45_1, ro_45_2, ro_46_0, ro_48_0, ro_50_0, ro_52_0, ro_52_1, ro_52_2, ro_52_3, ro_53_0, ro_55_0, ro_57_0, ro_59_0, ro_61_0, ro_61_1, ro_61_2, ro_61_3, ro_62_0, ro_64_0, ro_66_0, ro_68_0, ro_70_0, ro_70_1, ro_70_2, ro_70_3, ro_70_4, ro_70_5, ro_70_6, ro_70_7, ro_70_8, ro_70_9, ro_71_0, ro_73_0, ro_75_0, ro_77_0, ro_79_0, ro_81_0, ro_83_0, ro_85_0, ro_87_0, ro_89_0, ro_91_0, ro_91_1, ro_91_2, ro_91_3, ro_91_4, ro_91_5, ro_91_6, ro_91_7, ro_91_8, ro_91_9, ro_92_0, ro_94_0, ro_96_0, ro_98_0, ro_100_0, ro_102_0, ro_104_0, ro_106_0, ro_108_0, ro_110_0, ro_112_0, ro_112_1, ro_112_2, ro_112_3, ro_112_4, ro_112_5, ro_112_6, ro_112_7, ro_112_8, ro_112_9, ro_113_0, ro_115_0, ro_117_0, ro_119_0, ro_121_0, ro_123_0, ro_125_0, ro_127_0, ro_129_0, ro_131_0, ro_133_0, ro_133_1, ro_133_2, ro_133_3, ro_133_4, ro_133_5, ro_133_6, ro_133_7, ro_133_8, ro_133_9, ro_134_0, ro_136_0, ro_138_0, ro_140_0, ro_142_0, ro_144_0, ro_146_0, ro_148_0, ro_150_0, ro_152_0, ro_154_0, ro_155_0, ro_157_0, ro_157_1, ro_157_2, ro_157_3, ro_157_4, ro_157_5, ro_157_6, ro_157_7, ro_157_8, ro_157_9, ro_158_0, ro_160_0, ro_162_0, ro_164_0, ro_166_0, ro_168_0, ro_170_0, ro_172_0, ro_174_0, ro_176_0, ro_178_0, ro_180_0, ro_182_1, ro_182_4, ro_182_5, ro_182_6, ro_182_9, ro_182_10, ro_182_11, ro_182_13, ro_182_14, ro_182_15, ro_182_16, ro_182_17, ro_182_20, ro_182_21, ro_182_22, ro_182_23, ro_182_24, ro_182_26, ro_182_27, ro_182_28, lo_3, lo_5, lo_7, lo_9, lo_11, lo_13, lo_15, lo_17, lo_19, lo_21, lo_24, lo_26, lo_28, lo_30, lo_32, lo_34, lo_36, lo_38, lo_40, lo_42, lo_44, lo_47, lo_49, lo_51, lo_54, lo_56, lo_58, lo_60, lo_63, lo_65, lo_67, lo_69, lo_72, lo_74, lo_76, lo_78, lo_80, lo_82, lo_84, lo_86, lo_88, lo_90, lo_93, lo_95, lo_97, lo_99, lo_101, lo_103, lo_105, lo_107, lo_109, lo_111, lo_114, lo_116, lo_118, lo_120, lo_122, lo_124, lo_126, lo_128, lo_130, lo_132, lo_135, lo_137, lo_139, lo_141, lo_143, lo_145, lo_147, lo_149, lo_151, lo_153, lo_156, lo_159, lo_161, lo_163, lo_165, lo_167, lo_169, lo_171, lo_173, lo_175, lo_177, lo_179, lo_181, lo_183, lo_184, lo_185, lo_186, lo_187, lo_188, lo_189, lo_190, lo_191, lo_192, lo_193, lo_194, lo_195, lo_196, lo_197, lo_198, lo_199, lo_200, lo_201, lo_202, lo_203, jp_nn, jp_eq, jp_e1, Classical.not_not, ji0, ji1, ji2, cs17_54, kk_54, cs17_55, kk_55, jl_0, jl_1, jl_2, jl_3, jl_4, jl_5, jl_6, jl_7, jl_8, jl_9, jl_10, jl_11, jl_12, jl_13, jl_14, jl_15, jl_16, jl_17, jl_18, jl_19, jl_20, jl_21, jl_22, jl_23, jl_24, jl_25, jl_26, jl_27, jl_28, jl_29, jl_30, jl_31, jl_32, jl_33, jl_34, jl_35, jl_36, jl_37, jl_38, jl_39, jl_40, jl_95, jl_96, jl_97, jl_98, jl_99, jl_100, jl_101, jl_102, jl_103, jl_104, jl_105, jl_106, jl_107, jl_108, jl_109, jl_110, jl_111, jl_112, jl_113, jl_114, jl_186, jl_1100, jr, ju, jpT, jpF, tnc, Nat.reduceEqDiff, reduceIte, and_false, false_and, not_true_eq_false, not_false_eq_true, or_false, gt_iff_lt, ge_iff_le, Int.lt_irrefl, Int.le_refl, tp, y0, y0', y]
        rw [ek1, ek2] at hQ
        refine hQ h1 f1_w ?_
        show LM (w :: l2) (O' ++ []) (d' - 0) h1
        rw [List.append_nil, Int.sub_zero]
        exact m1_w
  · exact hQ.elim
theorem m_91 : BodyOK CS17 CS17 91 := fun av h Q hQ => by
  rw [cs17_91] at hQ
  unfold k91 at hQ
  split at hQ
  · rename_i o t
    obtain ⟨rfl, r, l, O, d, rfl, r1_w, m, hn, hQ⟩ := hQ
    have m4_w : h 45 4 = (l.length : Int) := m.1.1
    have hl := m.1.2.1
    have e0 : j32 ((l.length : Int) - 1) = (l.length : Int) - 1 := j32_id (by omega) (by omega)
    show pS CS17 bb_91 [45, (r : Int), 0] h _
    unfold bb_91
    simp only [qe_1, qe_3, qe_4, qe_5, qe_7, qe_72, qe_10, qe_102, qe_13, qe_14, qe_15, qe_16, qe_17, qe_18, qe_20, qe_22, qe_23, qe_21, qe_24, qe_25, qe_26, qe_27, qe_28, qe_30, qe_31, qe_32, qc_20, qc_22, qc_23, qc_21, qc_24, qc_25, qc_26, qc_27, qc_1, qc_3, qc_4, qc_7, qc_13, qc_28, qc_32, qs_1, qs_2, qs_3, qs_4, qs_5, qs_6, qs_9, qs_10, qs_11, qs_14, qs_15, qs_16, qs_27, qs_17, qs_18, qs_19, qs_20, qs_22, qs_23, qs_28, qs_25, qs_26, qs_7, qs_8, kc_1, kn_1, kc_2, kn_2, kc_3, kn_3, kc_4, kn_4, kc_5, kn_5, kc_6, kn_6, kc_7, kn_7, kc_8, kn_8, kc_9, kn_9, kc_10, kn_10, kc_11, kn_11, kc_12, kn_12, kc_13, kn_13, kc_14, kn_14, kc_15, kn_15, kc_16, kc_17, kc_18, kc_19, kc_20, kc_21, kc_22, kc_23, kc_30, kc_32, kc_40, kc_43, kc_45, kc_48, kc_52, kc_56, kc_57, kc_59, kc_60, kc_61, kc_63, kc_64, kc_72, kc_78, kc_97, kc_99, kc_122, kc_126, kc_128, kc_192, kc_200, kc_255, kc_999, kc_1000, kc_9999, kn_9999, kc_10000, kc_12345, kc_65536, kc_252645135, kc_858993459, kc_1103515245, kc_1431655765, kc_2147483647, kc_0, kc_24, kc_28, kc_37, kc_41, kc_42, kc_73, kc_91, kc_95, kc_96, kc_98, kc_100, kc_112, kc_125, kc_150, kc_162, kc_163, kc_168, kc_186, kc_190, kc_250, kc_355, kc_356, kc_404, kc_405, kc_429, kc_573, kc_1002, kc_1100, kc_1891, kc_2200, kc_4719, kc_4869, kc_4881, kc_5148, kc_19741, kc_25433, kc_320403, kc_628412, kc_629093, kc_660401, kc_679843, kc_918640, kc_979410, kc_1178088, kc_6232410, kc_24644941, kc_36238189, kc_38270444, kc_392531318, kc_425693491, kc_1342154595, kc_2147483648, kc_42328242873, kc_891704255789, kc_1722105685577, kc_1858726030364, ct_0, ct_1, ct_2, ct_3, ct_4, ct_5, cf_0, cf_1, cf_2, cf_3, cf_4, cf_5, w_ty6, w_ty7, m_sv, m_z0, m_hd, m_g0, m_gs, m_s0, m_ss, m_ap, m_an, forall_const, true_and, and_true, ne_eq, not_true_eq_false, not_false_eq_true, false_implies, true_implies, implies_true, eq_self, reduceCtorEq, Nat.reduceDiv, Nat.reduceMod, Int.reduceToNat, or_true, true_or, or_false, false_or, or_self, m_it, m_if, m_c1, m_01, m_02, m_03, m_04, m_10, m_12, m_13, m_14, m_20, m_21, m_23, m_24, m_30, m_31, m_32, m_34, m_40, m_41, m_42, m_43, Int.reduceLE, Int.reduceLT, Int.reduceGE, Int.reduceGT, Int.reduceNeg, Int.reduceAdd, Int.reduceSub, Int.reduceMul, Int.reduceEq, Int.reduceNe, Nat.reduceAdd, jun2, ro_0_0, ro_0_1, ro_0_2, ro_0_3, ro_0_4, ro_0_5, ro_0_6, ro_0_7, ro_0_8, ro_0_9, ro_0_10, ro_0_11, ro_0_12, ro_1_0, ro_1_1, ro_2_0, ro_4_0, ro_6_0, ro_6_1, ro_6_2, ro_6_3, ro_6_4, ro_6_5, ro_6_6, ro_6_7, ro_6_8, ro_8_0, ro_10_0, ro_12_0, ro_14_0, ro_16_0, ro_18_0, ro_20_0, ro_22_0, ro_22_1, ro_22_2, ro_23_0, ro_25_0, ro_27_0, ro_29_0, ro_29_1, ro_29_2, ro_29_3, ro_29_4, ro_29_5, ro_29_6, ro_29_7, ro_29_8, ro_31_0, ro_33_0, ro_35_0, ro_37_0, ro_39_0, ro_41_0, ro_43_0, ro_45_0, ro_45_1, ro_45_2, ro_46_0, ro_48_0, ro_50_0, ro_52_0, ro_52_1, ro_52_2, ro_52_3, ro_53_0, ro_55_0, ro_57_0, ro_59_0, ro_61_0, ro_61_1, ro_61_2, ro_61_3, ro_62_0, ro_64_0, ro_66_0, ro_68_0, ro_70_0, ro_70_1, ro_70_2, ro_70_3, ro_70_4, ro_70_5, ro_70_6, ro_70_7, ro_70_8, ro_70_9, ro_71_0, ro_73_0, ro_75_0, ro_77_0, ro_79_0, ro_81_0, ro_83_0, ro_85_0, ro_87_0, ro_89_0, ro_91_0, ro_91_1, ro_91_2, ro_91_3, ro_91_4, ro_91_5, ro_91_6, ro_91_7, ro_91_8, ro_91_9, ro_92_0, ro_94_0, ro_96_0, ro_98_0, ro_100_0, ro_102_0, ro_104_0, ro_106_0, ro_108_0, ro_110_0, ro_112_0, ro_112_1, ro_112_2, ro_112_3, ro_112_4, ro_112_5, ro_112_6, ro_112_7, ro_112_8, ro_112_9, ro_113_0, ro_115_0, ro_117_0, ro_119_0, ro_121_0, ro_123_0, ro_125_0, ro_127_0, ro_129_0, ro_131_0, ro_133_0, ro_133_1, ro_133_2, ro_133_3, ro_133_4, ro_133_5, ro_133_6, ro_133_7, ro_133_8, ro_133_9, ro_134_0, ro_136_0, ro_138_0, ro_140_0, ro_142_0, ro_144_0, ro_146_0, ro_148_0, ro_150_0, ro_152_0, ro_154_0, ro_155_0, ro_157_0, ro_157_1, ro_157_2, ro_157_3, ro_157_4, ro_157_5, ro_157_6, ro_157_7, ro_157_8, ro_157_9, ro_158_0, ro_160_0, ro_162_0, ro_164_0, ro_166_0, ro_168_0, ro_170_0, ro_172_0, ro_174_0, ro_176_0, ro_178_0, ro_180_0, ro_182_1, ro_182_4, ro_182_5, ro_182_6, ro_182_9, ro_182_10, ro_182_11, ro_182_13, ro_182_14, ro_182_15, ro_182_16, ro_182_17, ro_182_20, ro_182_21, ro_182_22, ro_182_23, ro_182_24, ro_182_26, ro_182_27, ro_182_28, lo_3, lo_5, lo_7, lo_9, lo_11, lo_13, lo_15, lo_17, lo_19, lo_21, lo_24, lo_26, lo_28, lo_30, lo_32, lo_34, lo_36, lo_38, lo_40, lo_42, lo_44, lo_47, lo_49, lo_51, lo_54, lo_56, lo_58, lo_60, lo_63, lo_65, lo_67, lo_69, lo_72, lo_74, lo_76, lo_78, lo_80, lo_82, lo_84, lo_86, lo_88, lo_90, lo_93, lo_95, lo_97, lo_99, lo_101, lo_103, lo_105, lo_107, lo_109, lo_111, lo_114, lo_116, lo_118, lo_120, lo_122, lo_124, lo_126, lo_128, lo_130, lo_132, lo_135, lo_137, lo_139, lo_141, lo_143, lo_145, lo_147, lo_149, lo_151, lo_153, lo_156, lo_159, lo_161, lo_163, lo_165, lo_167, lo_169, lo_171, lo_173, lo_175, lo_177, lo_179, lo_181, lo_183, lo_184, lo_185, lo_186, lo_187, lo_188, lo_189, lo_190, lo_191, lo_192, lo_193, lo_194, lo_195, lo_196, lo_197, lo_198, lo_199, lo_200, lo_201, lo_202, lo_203, jp_nn, jp_eq, jp_e1, Classical.not_not, ji0, ji1, ji2, cs17_54, kk_54, cs17_55, kk_55, cs17_84, kk_84, jl_0, jl_1, jl_2, jl_3, jl_4, jl_5, jl_6, jl_7, jl_8, jl_9, jl_10, jl_11, jl_12, jl_13, jl_14, jl_15, jl_16, jl_17, jl_18, jl_19, jl_20, jl_21, jl_22, jl_23, jl_24, jl_25, jl_26, jl_27, jl_28, jl_29, jl_30, jl_31, jl_32, jl_33, jl_34, jl_35, jl_36, jl_37, jl_38, jl_39, jl_40, jl_95, jl_96, jl_97, jl_98, jl_99, jl_100, jl_101, jl_102, jl_103, jl_104, jl_105, jl_106, jl_107, jl_108, jl_109, jl_110, jl_111, jl_112, jl_113, jl_114, jl_186, jl_1100, jr, ju, jpT, jpF, tnc, Nat.reduceEqDiff, reduceIte, and_false, false_and, not_true_eq_false, not_false_eq_true, or_false, gt_iff_lt, ge_iff_le, Int.lt_irrefl, Int.le_refl, m4_w, e0]
    refine qp_lp (fun en h' => ∃ (l' O' : List Int), en = [45, (r : Int), (l'.length : Int) - 1] ∧ LM l' O' d h' ∧ FW h h' ∧ O'.length + l'.length ≤ 1000 ∧ rlk r l = rlk r l' ∧ O ++ rlo r l = O' ++ rlo r l') ⟨l, O, rfl, m, FW.rf, hn, rfl, rfl⟩ ?_
    intro en h1 ⟨l', O', e1_w, m1_w, f1_w, n1_w, z1, z2⟩
    rw [z1, z2] at hQ
    cases l' with
    | nil =>
      have e1' : en = [45, (r : Int), -1] := e1_w
      subst e1'
      simp only [qe_1, qe_3, qe_4, qe_5, qe_7, qe_72, qe_10, qe_102, qe_13, qe_14, qe_15, qe_16, qe_17, qe_18, qe_20, qe_22, qe_23, qe_21, qe_24, qe_25, qe_26, qe_27, qe_28, qe_30, qe_31, qe_32, qc_20, qc_22, qc_23, qc_21, qc_24, qc_25, qc_26, qc_27, qc_1, qc_3, qc_4, qc_7, qc_13, qc_28, qc_32, qs_1, qs_2, qs_3, qs_4, qs_5, qs_6, qs_9, qs_10, qs_11, qs_14, qs_15, qs_16, qs_27, qs_17, qs_18, qs_19, qs_20, qs_22, qs_23, qs_28, qs_25, qs_26, qs_7, qs_8, kc_1, kn_1, kc_2, kn_2, kc_3, kn_3, kc_4, kn_4, kc_5, kn_5, kc_6, kn_6, kc_7, kn_7, kc_8, kn_8, kc_9, kn_9, kc_10, kn_10, kc_11, kn_11, kc_12, kn_12, kc_13, kn_13, kc_14, kn_14, kc_15, kn_15, kc_16, kc_17, kc_18, kc_19, kc_20, kc_21, kc_22, kc_23, kc_30, kc_32, kc_40, kc_43, kc_45, kc_48, kc_52, kc_56, kc_57, kc_59, kc_60, kc_61, kc_63, kc_64, kc_72, kc_78, kc_97, kc_99, kc_122, kc_126, kc_128, kc_192, kc_200, kc_255, kc_999, kc_1000, kc_9999, kn_9999, kc_10000, kc_12345, kc_65536, kc_252645135, kc_858993459, kc_1103515245, kc_1431655765, kc_2147483647, kc_0, kc_24, kc_28, kc_37, kc_41, kc_42, kc_73, kc_91, kc_95, kc_96, kc_98, kc_100, kc_112, kc_125, kc_150, kc_162, kc_163, kc_168, kc_186, kc_190, kc_250, kc_355, kc_356, kc_404, kc_405, kc_429, kc_573, kc_1002, kc_1100, kc_1891, kc_2200, kc_4719, kc_4869, kc_4881, kc_5148, kc_19741, kc_25433, kc_320403, kc_628412, kc_629093, kc_660401, kc_679843, kc_918640, kc_979410, kc_1178088, kc_6232410, kc_24644941, kc_36238189, kc_38270444, kc_392531318, kc_425693491, kc_1342154595, kc_2147483648, kc_42328242873, kc_891704255789, kc_1722105685577, kc_1858726030364, ct_0, ct_1, ct_2, ct_3, ct_4, ct_5, cf_0, cf_1, cf_2, cf_3, cf_4, cf_5, w_ty6, w_ty7, m_sv, m_z0, m_hd, m_g0, m_gs, m_s0, m_ss, m_ap, m_an, forall_const, true_and, and_true, ne_eq, not_true_eq_false, not_false_eq_true, false_implies, true_implies, implies_true, eq_self, reduceCtorEq, Nat.reduceDiv, Nat.reduceMod, Int.reduceToNat, or_true, true_or, or_false, false_or, or_self, m_it, m_if, m_c1, m_01, m_02, m_03, m_04, m_10, m_12, m_13, m_14, m_20, m_21, m_23, m_24, m_30, m_31, m_32, m_34, m_40, m_41, m_42, m_43, Int.reduceLE, Int.reduceLT, Int.reduceGE, Int.reduceGT, Int.reduceNeg, Int.reduceAdd, Int.reduceSub, Int.reduceMul, Int.reduceEq, Int.reduceNe, Nat.reduceAdd, jun2, ro_0_0, ro_0_1, ro_0_2, ro_0_3, ro_0_4, ro_0_5, ro_0_6, ro_0_7, ro_0_8, ro_0_9, ro_0_10, ro_0_11, ro_0_12, ro_1_0, ro_1_1, ro_2_0, ro_4_0, ro_6_0, ro_6_1, ro_6_2, ro_6_3, ro_6_4, ro_6_5, ro_6_6, ro_6_7, ro_6_8, ro_8_0, ro_10_0, ro_12_0, ro_14_0, ro_16_0, ro_18_0, ro_20_0, ro_22_0, ro_22_1, ro_22_2, ro_23_0, ro_25_0, ro_27_0, ro_29_0, ro_29_1, ro_29_2, ro_29_3, ro_29_4, ro_29_5, ro_29_6, ro_29_7, ro_29_8, ro_31_0, ro_33_0, ro_35_0, ro_37_0, ro_39_0, ro_41_0, ro_43_0, ro_45_0, ro_45_1, ro_45_2, ro_46_0, ro_48_0, ro_50_0, ro_52_0, ro_52_1, ro_52_2, ro_52_3, ro_53_0, ro_55_0, ro_57_0, ro_59_0, ro_61_0, ro_61_1, ro_61_2, ro_61_3, ro_62_0, ro_64_0, ro_66_0, ro_68_0, ro_70_0, ro_70_1, ro_70_2, ro_70_3, ro_70_4, ro_70_5, ro_70_6, ro_70_7, ro_70_8, ro_70_9, ro_71_0, ro_73_0, ro_75_0, ro_77_0, ro_79_0, ro_81_0, ro_83_0, ro_85_0, ro_87_0, ro_89_0, ro_91_0, ro_91_1, ro_91_2, ro_91_3, ro_91_4, ro_91_5, ro_91_6, ro_91_7, ro_91_8, ro_91_9, ro_92_0, ro_94_0, ro_96_0, ro_98_0, ro_100_0, ro_102_0, ro_104_0, ro_106_0, ro_108_0, ro_110_0, ro_112_0, ro_112_1, ro_112_2, ro_112_3, ro_112_4, ro_112_5, ro_112_6, ro_112_7, ro_112_8, ro_112_9, ro_113_0, ro_115_0, ro_117_0, ro_119_0, ro_121_0, ro_123_0, ro_125_0, ro_127_0, ro_129_0, ro_131_0, ro_133_0, ro_133_1, ro_133_2, ro_133_3, ro_133_4, ro_133_5, ro_133_6, ro_133_7, ro_133_8, ro_133_9, ro_134_0, ro_136_0, ro_138_0, ro_140_0, ro_142_0, ro_144_0, ro_146_0, ro_148_0, ro_150_0, ro_152_0, ro_154_0, ro_155_0, ro_157_0, ro_157_1, ro_157_2, ro_157_3, ro_157_4, ro_157_5, ro_157_6, ro_157_7, ro_157_8, ro_157_9, ro_158_0, ro_160_0, ro_162_0, ro_164_0, ro_166_0, ro_168_0, ro_170_0, ro_172_0, ro_174_0, ro_176_0, ro_178_0, ro_180_0, ro_182_1, ro_182_4, ro_182_5, ro_182_6, ro_182_9, ro_182_10, ro_182_11, ro_182_13, ro_182_14, ro_182_15, ro_182_16, ro_182_17, ro_182_20, ro_182_21, ro_182_22, ro_182_23, ro_182_24, ro_182_26, ro_182_27, ro_182_28, lo_3, lo_5, lo_7, lo_9, lo_11, lo_13, lo_15, lo_17, lo_19, lo_21, lo_24, lo_26, lo_28, lo_30, lo_32, lo_34, lo_36, lo_38, lo_40, lo_42, lo_44, lo_47, lo_49, lo_51, lo_54, lo_56, lo_58, lo_60, lo_63, lo_65, lo_67, lo_69, lo_72, lo_74, lo_76, lo_78, lo_80, lo_82, lo_84, lo_86, lo_88, lo_90, lo_93, lo_95, lo_97, lo_99, lo_101, lo_103, lo_105, lo_107, lo_109, lo_111, lo_114, lo_116, lo_118, lo_120, lo_122, lo_124, lo_126, lo_128, lo_130, lo_132, lo_135, lo_137, lo_139, lo_141, lo_143, lo_145, lo_147, lo_149, lo_151, lo_153, lo_156, lo_159, lo_161, lo_163, lo_165, lo_167, lo_169, lo_171, lo_173, lo_175, lo_177, lo_179, lo_181, lo_183, lo_184, lo_185, lo_186, lo_187, lo_188, lo_189, lo_190, lo_191, lo_192, lo_193, lo_194, lo_195, lo_196, lo_197, lo_198, lo_199, lo_200, lo_201, lo_202, lo_203, jp_nn, jp_eq, jp_e1, Classical.not_not, ji0, ji1, ji2, cs17_54, kk_54, cs17_55, kk_55, cs17_84, kk_84, jl_0, jl_1, jl_2, jl_3, jl_4, jl_5, jl_6, jl_7, jl_8, jl_9, jl_10, jl_11, jl_12, jl_13, jl_14, jl_15, jl_16, jl_17, jl_18, jl_19, jl_20, jl_21, jl_22, jl_23, jl_24, jl_25, jl_26, jl_27, jl_28, jl_29, jl_30, jl_31, jl_32, jl_33, jl_34, jl_35, jl_36, jl_37, jl_38, jl_39, jl_40, jl_95, jl_96, jl_97, jl_98, jl_99, jl_100, jl_101, jl_102, jl_103, jl_104, jl_105, jl_106, jl_107, jl_108, jl_109, jl_110, jl_111, jl_112, jl_113, jl_114, jl_186, jl_1100, jr, ju, jpT, jpF, tnc, Nat.reduceEqDiff, reduceIte, and_false, false_and, not_true_eq_false, not_false_eq_true, or_false, gt_iff_lt, ge_iff_le, Int.lt_irrefl, Int.le_refl]
      refine hQ h1 f1_w ?_
      show LM [] (O' ++ []) d h1
      rw [List.append_nil]
      exact m1_w
    | cons w l2 =>
      have e1' : en = [45, (r : Int), (l2.length : Int)] := by
        rw [e1_w]
        show [45, (r : Int), ((l2.length + 1 : Nat) : Int) - 1] = _
        rw [show ((l2.length + 1 : Nat) : Int) - 1 = (l2.length : Int) by omega]
      subst e1'
      have tp := m1_w.top
      have y0 : (0 : Int) ≤ (l2.length : Int) := by omega
      have y0' : ¬ (l2.length : Int) < 0 := by omega
      by_cases y : r ≤ rkk w
      · have ek1 : rlo r (w :: l2) = cdt w :: rlo r l2 := if_pos y
        have ek2 : rlk r (w :: l2) = rlk r l2 := if_pos y
        have yr : (r : Int) ≤ (rkk w : Int) := by omega
        have yr' : ¬ (rkk w : Int) < (r : Int) := by omega
        have m3_w : h1 45 3 = (O'.length : Int) := m1_w.2.1.1
        have m4_w : h1 45 4 = ((w :: l2).length : Int) := m1_w.1.1
        have hl2 : (w :: l2).length = l2.length + 1 := rfl
        have hl64 := m1_w.1.2.1
        have s3_w : ∀ {v : Int}, rs h1 46 (O'.length : Int) v = j_up h1 47 O'.length v := fun {v} => rs46 (by omega)
        have ek := jk1 (k := O'.length) (by omega)
        have e4_w : j32 (((w :: l2).length : Int) - 1) = (l2.length : Int) := by
          rw [hl2, j32_id (by omega) (by omega)]
          omega
        have e6_w : j32 ((l2.length : Int) + -1) = (l2.length : Int) - 1 := by
          rw [j32_id (by omega) (by omega)]
          omega
        have e6' : j32 ((l2.length : Int) - 1) = (l2.length : Int) - 1 := j32_id (by omega) (by omega)
        simp only [qe_1, qe_3, qe_4, qe_5, qe_7, qe_72, qe_10, qe_102, qe_13, qe_14, qe_15, qe_16, qe_17, qe_18, qe_20, qe_22, qe_23, qe_21, qe_24, qe_25, qe_26, qe_27, qe_28, qe_30, qe_31, qe_32, qc_20, qc_22, qc_23, qc_21, qc_24, qc_25, qc_26, qc_27, qc_1, qc_3, qc_4, qc_7, qc_13, qc_28, qc_32, qs_1, qs_2, qs_3, qs_4, qs_5, qs_6, qs_9, qs_10, qs_11, qs_14, qs_15, qs_16, qs_27, qs_17, qs_18, qs_19, qs_20, qs_22, qs_23, qs_28, qs_25, qs_26, qs_7, qs_8, kc_1, kn_1, kc_2, kn_2, kc_3, kn_3, kc_4, kn_4, kc_5, kn_5, kc_6, kn_6, kc_7, kn_7, kc_8, kn_8, kc_9, kn_9, kc_10, kn_10, kc_11, kn_11, kc_12, kn_12, kc_13, kn_13, kc_14, kn_14, kc_15, kn_15, kc_16, kc_17, kc_18, kc_19, kc_20, kc_21, kc_22, kc_23, kc_30, kc_32, kc_40, kc_43, kc_45, kc_48, kc_52, kc_56, kc_57, kc_59, kc_60, kc_61, kc_63, kc_64, kc_72, kc_78, kc_97, kc_99, kc_122, kc_126, kc_128, kc_192, kc_200, kc_255, kc_999, kc_1000, kc_9999, kn_9999, kc_10000, kc_12345, kc_65536, kc_252645135, kc_858993459, kc_1103515245, kc_1431655765, kc_2147483647, kc_0, kc_24, kc_28, kc_37, kc_41, kc_42, kc_73, kc_91, kc_95, kc_96, kc_98, kc_100, kc_112, kc_125, kc_150, kc_162, kc_163, kc_168, kc_186, kc_190, kc_250, kc_355, kc_356, kc_404, kc_405, kc_429, kc_573, kc_1002, kc_1100, kc_1891, kc_2200, kc_4719, kc_4869, kc_4881, kc_5148, kc_19741, kc_25433, kc_320403, kc_628412, kc_629093, kc_660401, kc_679843, kc_918640, kc_979410, kc_1178088, kc_6232410, kc_24644941, kc_36238189, kc_38270444, kc_392531318, kc_425693491, kc_1342154595, kc_2147483648, kc_42328242873, kc_891704255789, kc_1722105685577, kc_1858726030364, ct_0, ct_1, ct_2, ct_3, ct_4, ct_5, cf_0, cf_1, cf_2, cf_3, cf_4, cf_5, w_ty6, w_ty7, m_sv, m_z0, m_hd, m_g0, m_gs, m_s0, m_ss, m_ap, m_an, forall_const, true_and, and_true, ne_eq, not_true_eq_false, not_false_eq_true, false_implies, true_implies, implies_true, eq_self, reduceCtorEq, Nat.reduceDiv, Nat.reduceMod, Int.reduceToNat, or_true, true_or, or_false, false_or, or_self, m_it, m_if, m_c1, m_01, m_02, m_03, m_04, m_10, m_12, m_13, m_14, m_20, m_21, m_23, m_24, m_30, m_31, m_32, m_34, m_40, m_41, m_42, m_43, Int.reduceLE, Int.reduceLT, Int.reduceGE, Int.reduceGT, Int.reduceNeg, Int.reduceAdd, Int.reduceSub, Int.reduceMul, Int.reduceEq, Int.reduceNe, Nat.reduceAdd, jun2, ro_0_0, ro_0_1, ro_0_2, ro_0_3, ro_0_4, ro_0_5, ro_0_6, ro_0_7, ro_0_8, ro_0_9, ro_0_10, ro_0_11, ro_0_12, ro_1_0, ro_1_1, ro_2_0, ro_4_0, ro_6_0, ro_6_1, ro_6_2, ro_6_3, ro_6_4, ro_6_5, ro_6_6, ro_6_7, ro_6_8, ro_8_0, ro_10_0, ro_12_0, ro_14_0, ro_16_0, ro_18_0, ro_20_0, ro_22_0, ro_22_1, ro_22_2, ro_23_0, ro_25_0, ro_27_0, ro_29_0, ro_29_1, ro_29_2, ro_29_3, ro_29_4, ro_29_5, ro_29_6, ro_29_7, ro_29_8, ro_31_0, ro_33_0, ro_35_0, ro_37_0, ro_39_0, ro_41_0, ro_43_0, ro_45_0, ro_45_1, ro_45_2, ro_46_0, ro_48_0, ro_50_0, ro_52_0, ro_52_1, ro_52_2, ro_52_3, ro_53_0, ro_55_0, ro_57_0, ro_59_0, ro_61_0, ro_61_1, ro_61_2, ro_61_3, ro_62_0, ro_64_0, ro_66_0, ro_68_0, ro_70_0, ro_70_1, ro_70_2, ro_70_3, ro_70_4, ro_70_5, ro_70_6, ro_70_7, ro_70_8, ro_70_9, ro_71_0, ro_73_0, ro_75_0, ro_77_0, ro_79_0, ro_81_0, ro_83_0, ro_85_0, ro_87_0, ro_89_0, ro_91_0, ro_91_1, ro_91_2, ro_91_3, ro_91_4, ro_91_5, ro_91_6, ro_91_7, ro_91_8, ro_91_9, ro_92_0, ro_94_0, ro_96_0, ro_98_0, ro_100_0, ro_102_0, ro_104_0, ro_106_0, ro_108_0, ro_110_0, ro_112_0, ro_112_1, ro_112_2, ro_112_3, ro_112_4, ro_112_5, ro_112_6, ro_112_7, ro_112_8, ro_112_9, ro_113_0, ro_115_0, ro_117_0, ro_119_0, ro_121_0, ro_123_0, ro_125_0, ro_127_0, ro_129_0, ro_131_0, ro_133_0, ro_133_1, ro_133_2, ro_133_3, ro_133_4, ro_133_5, ro_133_6, ro_133_7, ro_133_8, ro_133_9, ro_134_0, ro_136_0, ro_138_0, ro_140_0, ro_142_0, ro_144_0, ro_146_0, ro_148_0, ro_150_0, ro_152_0, ro_154_0, ro_155_0, ro_157_0, ro_157_1, ro_157_2, ro_157_3, ro_157_4, ro_157_5, ro_157_6, ro_157_7, ro_157_8, ro_157_9, ro_158_0, ro_160_0, ro_162_0, ro_164_0, ro_166_0, ro_168_0, ro_170_0, ro_172_0, ro_174_0, ro_176_0, ro_178_0, ro_180_0, ro_182_1, ro_182_4, ro_182_5, ro_182_6, ro_182_9, ro_182_10, ro_182_11, ro_182_13, ro_182_14, ro_182_15, ro_182_16, ro_182_17, ro_182_20, ro_182_21, ro_182_22, ro_182_23, ro_182_24, ro_182_26, ro_182_27, ro_182_28, lo_3, lo_5, lo_7, lo_9, lo_11, lo_13, lo_15, lo_17, lo_19, lo_21, lo_24, lo_26, lo_28, lo_30, lo_32, lo_34, lo_36, lo_38, lo_40, lo_42, lo_44, lo_47, lo_49, lo_51, lo_54, lo_56, lo_58, lo_60, lo_63, lo_65, lo_67, lo_69, lo_72, lo_74, lo_76, lo_78, lo_80, lo_82, lo_84, lo_86, lo_88, lo_90, lo_93, lo_95, lo_97, lo_99, lo_101, lo_103, lo_105, lo_107, lo_109, lo_111, lo_114, lo_116, lo_118, lo_120, lo_122, lo_124, lo_126, lo_128, lo_130, lo_132, lo_135, lo_137, lo_139, lo_141, lo_143, lo_145, lo_147, lo_149, lo_151, lo_153, lo_156, lo_159, lo_161, lo_163, lo_165, lo_167, lo_169, lo_171, lo_173, lo_175, lo_177, lo_179, lo_181, lo_183, lo_184, lo_185, lo_186, lo_187, lo_188, lo_189, lo_190, lo_191, lo_192, lo_193, lo_194, lo_195, lo_196, lo_197, lo_198, lo_199, lo_200, lo_201, lo_202, lo_203, jp_nn, jp_eq, jp_e1, Classical.not_not, ji0, ji1, ji2, cs17_54, kk_54, cs17_55, kk_55, cs17_84, kk_84, jl_0, jl_1, jl_2, jl_3, jl_4, jl_5, jl_6, jl_7, jl_8, jl_9, jl_10, jl_11, jl_12, jl_13, jl_14, jl_15, jl_16, jl_17, jl_18, jl_19, jl_20, jl_21, jl_22, jl_23, jl_24, jl_25, jl_26, jl_27, jl_28, jl_29, jl_30, jl_31, jl_32, jl_33, jl_34, jl_35, jl_36, jl_37, jl_38, jl_39, jl_40, jl_95, jl_96, jl_97, jl_98, jl_99, jl_100, jl_101, jl_102, jl_103, jl_104, jl_105, jl_106, jl_107, jl_108, jl_109, jl_110, jl_111, jl_112, jl_113, jl_114, jl_186, jl_1100, jr, ju, jpT, jpF, tnc, Nat.reduceEqDiff, reduceIte, and_false, false_and, not_true_eq_false, not_false_eq_true, or_false, gt_iff_lt, ge_iff_le, Int.lt_irrefl, Int.le_refl, rkn_k, tp, y0, y0', yr, yr', m3_w, s3_w, ek, m4_w, e4_w, e6_w, e6']
        have mo := m1_w.out (c := cdt w) (by omega)
        rw [cst_cdt (by omega)] at mo
        refine ⟨l2, O' ++ [cdt w], rfl, mo.pop, f1_w.tr ((FW.up (by omega)).tr ((FW.up (by omega)).tr (FW.up (by omega)))), ?_, z1.trans ek2, ?_⟩
        · rw [List.length_append]
          show O'.length + 1 + l2.length ≤ 1000
          omega
        · rw [z2, ek1, List.append_assoc]
          rfl
      · have ek1 : rlo r (w :: l2) = [] := if_neg y
        have ek2 : rlk r (w :: l2) = w :: l2 := if_neg y
        have yr : ¬ (r : Int) ≤ (rkk w : Int) := by omega
        have yr' : (rkk w : Int) < (r : Int) := by omega
        simp only [qe_1, qe_3, qe_4, qe_5, qe_7, qe_72, qe_10, qe_102, qe_13, qe_14, qe_15, qe_16, qe_17, qe_18, qe_20, qe_22, qe_23, qe_21, qe_24, qe_25, qe_26, qe_27, qe_28, qe_30, qe_31, qe_32, qc_20, qc_22, qc_23, qc_21, qc_24, qc_25, qc_26, qc_27, qc_1, qc_3, qc_4, qc_7, qc_13, qc_28, qc_32, qs_1, qs_2, qs_3, qs_4, qs_5, qs_6, qs_9, qs_10, qs_11, qs_14, qs_15, qs_16, qs_27, qs_17, qs_18, qs_19, qs_20, qs_22, qs_23, qs_28, qs_25, qs_26, qs_7, qs_8, kc_1, kn_1, kc_2, kn_2, kc_3, kn_3, kc_4, kn_4, kc_5, kn_5, kc_6, kn_6, kc_7, kn_7, kc_8, kn_8, kc_9, kn_9, kc_10, kn_10, kc_11, kn_11, kc_12, kn_12, kc_13, kn_13, kc_14, kn_14, kc_15, kn_15, kc_16, kc_17, kc_18, kc_19, kc_20, kc_21, kc_22, kc_23, kc_30, kc_32, kc_40, kc_43, kc_45, kc_48, kc_52, kc_56, kc_57, kc_59, kc_60, kc_61, kc_63, kc_64, kc_72, kc_78, kc_97, kc_99, kc_122, kc_126, kc_128, kc_192, kc_200, kc_255, kc_999, kc_1000, kc_9999, kn_9999, kc_10000, kc_12345, kc_65536, kc_252645135, kc_858993459, kc_1103515245, kc_1431655765, kc_2147483647, kc_0, kc_24, kc_28, kc_37, kc_41, kc_42, kc_73, kc_91, kc_95, kc_96, kc_98, kc_100, kc_112, kc_125, kc_150, kc_162, kc_163, kc_168, kc_186, kc_190, kc_250, kc_355, kc_356, kc_404, kc_405, kc_429, kc_573, kc_1002, kc_1100, kc_1891, kc_2200, kc_4719, kc_4869, kc_4881, kc_5148, kc_19741, kc_25433, kc_320403, kc_628412, kc_629093, kc_660401, kc_679843, kc_918640, kc_979410, kc_1178088, kc_6232410, kc_24644941, kc_36238189, kc_38270444, kc_392531318, kc_425693491, kc_1342154595, kc_2147483648, kc_42328242873, kc_891704255789, kc_1722105685577, kc_1858726030364, ct_0, ct_1, ct_2, ct_3, ct_4, ct_5, cf_0, cf_1, cf_2, cf_3, cf_4, cf_5, w_ty6, w_ty7, m_sv, m_z0, m_hd, m_g0, m_gs, m_s0, m_ss, m_ap, m_an, forall_const, true_and, and_true, ne_eq, not_true_eq_false, not_false_eq_true, false_implies, true_implies, implies_true, eq_self, reduceCtorEq, Nat.reduceDiv, Nat.reduceMod, Int.reduceToNat, or_true, true_or, or_false, false_or, or_self, m_it, m_if, m_c1, m_01, m_02, m_03, m_04, m_10, m_12, m_13, m_14, m_20, m_21, m_23, m_24, m_30, m_31, m_32, m_34, m_40, m_41, m_42, m_43, Int.reduceLE, Int.reduceLT, Int.reduceGE, Int.reduceGT, Int.reduceNeg, Int.reduceAdd, Int.reduceSub, Int.reduceMul, Int.reduceEq, Int.reduceNe, Nat.reduceAdd, jun2, ro_0_0, ro_0_1, ro_0_2, ro_0_3, ro_0_4, ro_0_5, ro_0_6, ro_0_7, ro_0_8, ro_0_9, ro_0_10, ro_0_11, ro_0_12, ro_1_0, ro_1_1, ro_2_0, ro_4_0, ro_6_0, ro_6_1, ro_6_2, ro_6_3, ro_6_4, ro_6_5, ro_6_6, ro_6_7, ro_6_8, ro_8_0, ro_10_0, ro_12_0, ro_14_0, ro_16_0, ro_18_0, ro_20_0, ro_22_0, ro_22_1, ro_22_2, ro_23_0, ro_25_0, ro_27_0, ro_29_0, ro_29_1, ro_29_2, ro_29_3, ro_29_4, ro_29_5, ro_29_6, ro_29_7, ro_29_8, ro_31_0, ro_33_0, ro_35_0, ro_37_0, ro_39_0, ro_41_0, ro_43_0, ro_45_0, ro_45_1, ro_45_2, ro_46_0, ro_48_0, ro_50_0, ro_52_0, ro_52_1, ro_52_2, ro_52_3, ro_53_0, ro_55_0, ro_57_0, ro_59_0, ro_61_0, ro_61_1, ro_61_2, ro_61_3, ro_62_0, ro_64_0, ro_66_0, ro_68_0, ro_70_0, ro_70_1, ro_70_2, ro_70_3, ro_70_4, ro_70_5, ro_70_6, ro_70_7, ro_70_8, ro_70_9, ro_71_0, ro_73_0, ro_75_0, ro_77_0, ro_79_0, ro_81_0, ro_83_0, ro_85_0, ro_87_0, ro_89_0, ro_91_0, ro_91_1, ro_91_2, ro_91_3, ro_91_4, ro_91_5, ro_91_6, ro_91_7, ro_91_8, ro_91_9, ro_92_0, ro_94_0, ro_96_0, ro_98_0, ro_100_0, ro_102_0, ro_104_0, ro_106_0, ro_108_0, ro_110_0, ro_112_0, ro_112_1, ro_112_2, ro_112_3, ro_112_4, ro_112_5, ro_112_6, ro_112_7, ro_112_8, ro_112_9, ro_113_0, ro_115_0, ro_117_0, ro_119_0, ro_121_0, ro_123_0, ro_125_0, ro_127_0, ro_129_0, ro_131_0, ro_133_0, ro_133_1, ro_133_2, ro_133_3, ro_133_4, ro_133_5, ro_133_6, ro_133_7, ro_133_8, ro_133_9, ro_134_0, ro_136_0, ro_138_0, ro_140_0, ro_142_0, ro_144_0, ro_146_0, ro_148_0, ro_150_0, ro_152_0, ro_154_0, ro_155_0, ro_157_0, ro_157_1, ro_157_2, ro_157_3, ro_157_4, ro_157_5, ro_157_6, ro_157_7, ro_157_8, ro_157_9, ro_158_0, ro_160_0, ro_162_0, ro_164_0, ro_166_0, ro_168_0, ro_170_0, ro_172_0, ro_174_0, ro_176_0, ro_178_0, ro_180_0, ro_182_1, ro_182_4, ro_182_5, ro_182_6, ro_182_9, ro_182_10, ro_182_11, ro_182_13, ro_182_14, ro_182_15, ro_182_16, ro_182_17, ro_182_20, ro_182_21, ro_182_22, ro_182_23, ro_182_24, ro_182_26, ro_182_27, ro_182_28, lo_3, lo_5, lo_7, lo_9, lo_11, lo_13, lo_15, lo_17, lo_19, lo_21, lo_24, lo_26, lo_28, lo_30, lo_32, lo_34, lo_36, lo_38, lo_40, lo_42, lo_44, lo_47, lo_49, lo_51, lo_54, lo_56, lo_58, lo_60, lo_63, lo_65, lo_67, lo_69, lo_72, lo_74, lo_76, lo_78, lo_80, lo_82, lo_84, lo_86, lo_88, lo_90, lo_93, lo_95, lo_97, lo_99, lo_101, lo_103, lo_105, lo_107, lo_109, lo_111, lo_114, lo_116, lo_118, lo_120, lo_122, lo_124, lo_126, lo_128, lo_130, lo_132, lo_135, lo_137, lo_139, lo_141, lo_143, lo_145, lo_147, lo_149, lo_151, lo_153, lo_156, lo_159, lo_161, lo_163, lo_165, lo_167, lo_169, lo_171, lo_173, lo_175, lo_177, lo_179, lo_181, lo_183, lo_184, lo_185, lo_186, lo_187, lo_188, lo_189, lo_190, lo_191, lo_192, lo_193, lo_194, lo_195, lo_196, lo_197, lo_198, lo_199, lo_200, lo_201, lo_202, lo_203, jp_nn, jp_eq, jp_e1, Classical.not_not, ji0, ji1, ji2, cs17_54, kk_54, cs17_55, kk_55, cs17_84, kk_84, jl_0, jl_1, jl_2, jl_3, jl_4, jl_5, jl_6, jl_7, jl_8, jl_9, jl_10, jl_11, jl_12, jl_13, jl_14, jl_15, jl_16, jl_17, jl_18, jl_19, jl_20, jl_21, jl_22, jl_23, jl_24, jl_25, jl_26, jl_27, jl_28, jl_29, jl_30, jl_31, jl_32, jl_33, jl_34, jl_35, jl_36, jl_37, jl_38, jl_39, jl_40, jl_95, jl_96, jl_97, jl_98, jl_99, jl_100, jl_101, jl_102, jl_103, jl_104, jl_105, jl_106, jl_107, jl_108, jl_109, jl_110, jl_111, jl_112, jl_113, jl_114, jl_186, jl_1100, jr, ju, jpT, jpF, tnc, Nat.reduceEqDiff, reduceIte, and_false, false_and, not_true_eq_false, not_false_eq_true, or_false, gt_iff_lt, ge_iff_le, Int.lt_irrefl, Int.le_refl, rkn_k, tp, y0, y0', yr, yr']
        rw [ek1, ek2] at hQ
        refine hQ h1 f1_w ?_
        rw [List.append_nil]
        exact m1_w
  · exact hQ.elim
theorem m_85 : BodyOK CS17 CS17 85 := fun av h Q hQ => by
  rw [cs17_85] at hQ
  unfold k85 at hQ
  split at hQ
  · rename_i o t
    obtain ⟨rfl, l, O, d, m, hQ⟩ := hQ
    have m4_w : h 45 4 = (l.length : Int) := m.1.1
    have hl := m.1.2.1
    have e0 : j32 ((l.length : Int) - 1) = (l.length : Int) - 1 := j32_id (by omega) (by omega)
    show pS CS17 bb_85 [45, t, 0] h _
    by_cases yt : rkk t = 2
    · have yt' : (rkk t : Int) = 2 := by omega
      unfold bb_85
      simp only [qe_1, qe_3, qe_4, qe_5, qe_7, qe_72, qe_10, qe_102, qe_13, qe_14, qe_15, qe_16, qe_17, qe_18, qe_20, qe_22, qe_23, qe_21, qe_24, qe_25, qe_26, qe_27, qe_28, qe_30, qe_31, qe_32, qc_20, qc_22, qc_23, qc_21, qc_24, qc_25, qc_26, qc_27, qc_1, qc_3, qc_4, qc_7, qc_13, qc_28, qc_32, qs_1, qs_2, qs_3, qs_4, qs_5, qs_6, qs_9, qs_10, qs_11, qs_14, qs_15, qs_16, qs_27, qs_17, qs_18, qs_19, qs_20, qs_22, qs_23, qs_28, qs_25, qs_26, qs_7, qs_8, kc_1, kn_1, kc_2, kn_2, kc_3, kn_3, kc_4, kn_4, kc_5, kn_5, kc_6, kn_6, kc_7, kn_7, kc_8, kn_8, kc_9, kn_9, kc_10, kn_10, kc_11, kn_11, kc_12, kn_12, kc_13, kn_13, kc_14, kn_14, kc_15, kn_15, kc_16, kc_17, kc_18, kc_19, kc_20, kc_21, kc_22, kc_23, kc_30, kc_32, kc_40, kc_43, kc_45, kc_48, kc_52, kc_56, kc_57, kc_59, kc_60, kc_61, kc_63, kc_64, kc_72, kc_78, kc_97, kc_99, kc_122, kc_126, kc_128, kc_192, kc_200, kc_255, kc_999, kc_1000, kc_9999, kn_9999, kc_10000, kc_12345, kc_65536, kc_252645135, kc_858993459, kc_1103515245, kc_1431655765, kc_2147483647, kc_0, kc_24, kc_28, kc_37, kc_41, kc_42, kc_73, kc_91, kc_95, kc_96, kc_98, kc_100, kc_112, kc_125, kc_150, kc_162, kc_163, kc_168, kc_186, kc_190, kc_250, kc_355, kc_356, kc_404, kc_405, kc_429, kc_573, kc_1002, kc_1100, kc_1891, kc_2200, kc_4719, kc_4869, kc_4881, kc_5148, kc_19741, kc_25433, kc_320403, kc_628412, kc_629093, kc_660401, kc_679843, kc_918640, kc_979410, kc_1178088, kc_6232410, kc_24644941, kc_36238189, kc_38270444, kc_392531318, kc_425693491, kc_1342154595, kc_2147483648, kc_42328242873, kc_891704255789, kc_1722105685577, kc_1858726030364, ct_0, ct_1, ct_2, ct_3, ct_4, ct_5, cf_0, cf_1, cf_2, cf_3, cf_4, cf_5, w_ty6, w_ty7, m_sv, m_z0, m_hd, m_g0, m_gs, m_s0, m_ss, m_ap, m_an, forall_const, true_and, and_true, ne_eq, not_true_eq_false, not_false_eq_true, false_implies, true_implies, implies_true, eq_self, reduceCtorEq, Nat.reduceDiv, Nat.reduceMod, Int.reduceToNat, or_true, true_or, or_false, false_or, or_self, m_it, m_if, m_c1, m_01, m_02, m_03, m_04, m_10, m_12, m_13, m_14, m_20, m_21, m_23, m_24, m_30, m_31, m_32, m_34, m_40, m_41, m_42, m_43, Int.reduceLE, Int.reduceLT, Int.reduceGE, Int.reduceGT, Int.reduceNeg, Int.reduceAdd, Int.reduceSub, Int.reduceMul, Int.reduceEq, Int.reduceNe, Nat.reduceAdd, jun2, ro_0_0, ro_0_1, ro_0_2, ro_0_3, ro_0_4, ro_0_5, ro_0_6, ro_0_7, ro_0_8, ro_0_9, ro_0_10, ro_0_11, ro_0_12, ro_1_0, ro_1_1, ro_2_0, ro_4_0, ro_6_0, ro_6_1, ro_6_2, ro_6_3, ro_6_4, ro_6_5, ro_6_6, ro_6_7, ro_6_8, ro_8_0, ro_10_0, ro_12_0, ro_14_0, ro_16_0, ro_18_0, ro_20_0, ro_22_0, ro_22_1, ro_22_2, ro_23_0, ro_25_0, ro_27_0, ro_29_0, ro_29_1, ro_29_2, ro_29_3, ro_29_4, ro_29_5, ro_29_6, ro_29_7, ro_29_8, ro_31_0, ro_33_0, ro_35_0, ro_37_0, ro_39_0, ro_41_0, ro_43_0, ro_45_0, ro_45_1, ro_45_2, ro_46_0, ro_48_0, ro_50_0, ro_52_0, ro_52_1, ro_52_2, ro_52_3, ro_53_0, ro_55_0, ro_57_0, ro_59_0, ro_61_0, ro_61_1, ro_61_2, ro_61_3, ro_62_0, ro_64_0, ro_66_0, ro_68_0, ro_70_0, ro_70_1, ro_70_2, ro_70_3, ro_70_4, ro_70_5, ro_70_6, ro_70_7, ro_70_8, ro_70_9, ro_71_0, ro_73_0, ro_75_0, ro_77_0, ro_79_0, ro_81_0, ro_83_0, ro_85_0, ro_87_0, ro_89_0, ro_91_0, ro_91_1, ro_91_2, ro_91_3, ro_91_4, ro_91_5, ro_91_6, ro_91_7, ro_91_8, ro_91_9, ro_92_0, ro_94_0, ro_96_0, ro_98_0, ro_100_0, ro_102_0, ro_104_0, ro_106_0, ro_108_0, ro_110_0, ro_112_0, ro_112_1, ro_112_2, ro_112_3, ro_112_4, ro_112_5, ro_112_6, ro_112_7, ro_112_8, ro_112_9, ro_113_0, ro_115_0, ro_117_0, ro_119_0, ro_121_0, ro_123_0, ro_125_0, ro_127_0, ro_129_0, ro_131_0, ro_133_0, ro_133_1, ro_133_2, ro_133_3, ro_133_4, ro_133_5, ro_133_6, ro_133_7, ro_133_8, ro_133_9, ro_134_0, ro_136_0, ro_138_0, ro_140_0, ro_142_0, ro_144_0, ro_146_0, ro_148_0, ro_150_0, ro_152_0, ro_154_0, ro_155_0, ro_157_0, ro_157_1, ro_157_2, ro_157_3, ro_157_4, ro_157_5, ro_157_6, ro_157_7, ro_157_8, ro_157_9, ro_158_0, ro_160_0, ro_162_0, ro_164_0, ro_166_0, ro_168_0, ro_170_0, ro_172_0, ro_174_0, ro_176_0, ro_178_0, ro_180_0, ro_182_1, ro_182_4, ro_182_5, ro_182_6, ro_182_9, ro_182_10, ro_182_11, ro_182_13, ro_182_14, ro_182_15, ro_182_16, ro_182_17, ro_182_20, ro_182_21, ro_182_22, ro_182_23, ro_182_24, ro_182_26, ro_182_27, ro_182_28, lo_3, lo_5, lo_7, lo_9, lo_11, lo_13, lo_15, lo_17, lo_19, lo_21, lo_24, lo_26, lo_28, lo_30, lo_32, lo_34, lo_36, lo_38, lo_40, lo_42, lo_44, lo_47, lo_49, lo_51, lo_54, lo_56, lo_58, lo_60, lo_63, lo_65, lo_67, lo_69, lo_72, lo_74, lo_76, lo_78, lo_80, lo_82, lo_84, lo_86, lo_88, lo_90, lo_93, lo_95, lo_97, lo_99, lo_101, lo_103, lo_105, lo_107, lo_109, lo_111, lo_114, lo_116, lo_118, lo_120, lo_122, lo_124, lo_126, lo_128, lo_130, lo_132, lo_135, lo_137, lo_139, lo_141, lo_143, lo_145, lo_147, lo_149, lo_151, lo_153, lo_156, lo_159, lo_161, lo_163, lo_165, lo_167, lo_169, lo_171, lo_173, lo_175, lo_177, lo_179, lo_181, lo_183, lo_184, lo_185, lo_186, lo_187, lo_188, lo_189, lo_190, lo_191, lo_192, lo_193, lo_194, lo_195, lo_196, lo_197, lo_198, lo_199, lo_200, lo_201, lo_202, lo_203, jp_nn, jp_eq, jp_e1, Classical.not_not, ji0, ji1, ji2, cs17_54, kk_54, cs17_84, kk_84, jl_0, jl_1, jl_2, jl_3, jl_4, jl_5, jl_6, jl_7, jl_8, jl_9, jl_10, jl_11, jl_12, jl_13, jl_14, jl_15, jl_16, jl_17, jl_18, jl_19, jl_20, jl_21, jl_22, jl_23, jl_24, jl_25, jl_26, jl_27, jl_28, jl_29, jl_30, jl_31, jl_32, jl_33, jl_34, jl_35, jl_36, jl_37, jl_38, jl_39, jl_40, jl_95, jl_96, jl_97, jl_98, jl_99, jl_100, jl_101, jl_102, jl_103, jl_104, jl_105, jl_106, jl_107, jl_108, jl_109, jl_110, jl_111, jl_112, jl_113, jl_114, jl_186, jl_1100, jr, ju, jpT, jpF, tnc, Nat.reduceEqDiff, reduceIte, and_false, false_and, not_true_eq_false, not_false_eq_true, or_false, gt_iff_lt, ge_iff_le, Int.lt_irrefl, Int.le_refl, rkn_k, yt', m4_w, e0]
      refine qp_lp (fun en h' => h' = h ∧ ∃ (l' : List Int), en = [45, t, (l'.length : Int) - 1] ∧ LM l' O d (j_up h 45 4 (l'.length : Int)) ∧ cag l = cag l') ⟨rfl, l, rfl, ?_, rfl⟩ ?_
      · have : j_up h 45 4 (l.length : Int) = h := by
          rw [← m4_w]
          funext a b
          by_cases z : a = 45 ∧ b = 4
          · rw [z.1, z.2, up_eq]
          · rw [up_ne z]
        rw [this]
        exact m
      intro en h1 ⟨e0, l', e1_w, m1_w, z1⟩
      subst e0
      rw [z1] at hQ
      cases l' with
      | nil =>
        have e1' : en = [45, t, -1] := e1_w
        subst e1'
        rw [jp_f (fun z => by cases z.2)] at hQ
        simp only [qe_1, qe_3, qe_4, qe_5, qe_7, qe_72, qe_10, qe_102, qe_13, qe_14, qe_15, qe_16, qe_17, qe_18, qe_20, qe_22, qe_23, qe_21, qe_24, qe_25, qe_26, qe_27, qe_28, qe_30, qe_31, qe_32, qc_20, qc_22, qc_23, qc_21, qc_24, qc_25, qc_26, qc_27, qc_1, qc_3, qc_4, qc_7, qc_13, qc_28, qc_32, qs_1, qs_2, qs_3, qs_4, qs_5, qs_6, qs_9, qs_10, qs_11, qs_14, qs_15, qs_16, qs_27, qs_17, qs_18, qs_19, qs_20, qs_22, qs_23, qs_28, qs_25, qs_26, qs_7, qs_8, kc_1, kn_1, kc_2, kn_2, kc_3, kn_3, kc_4, kn_4, kc_5, kn_5, kc_6, kn_6, kc_7, kn_7, kc_8, kn_8, kc_9, kn_9, kc_10, kn_10, kc_11, kn_11, kc_12, kn_12, kc_13, kn_13, kc_14, kn_14, kc_15, kn_15, kc_16, kc_17, kc_18, kc_19, kc_20, kc_21, kc_22, kc_23, kc_30, kc_32, kc_40, kc_43, kc_45, kc_48, kc_52, kc_56, kc_57, kc_59, kc_60, kc_61, kc_63, kc_64, kc_72, kc_78, kc_97, kc_99, kc_122, kc_126, kc_128, kc_192, kc_200, kc_255, kc_999, kc_1000, kc_9999, kn_9999, kc_10000, kc_12345, kc_65536, kc_252645135, kc_858993459, kc_1103515245, kc_1431655765, kc_2147483647, kc_0, kc_24, kc_28, kc_37, kc_41, kc_42, kc_73, kc_91, kc_95, kc_96, kc_98, kc_100, kc_112, kc_125, kc_150, kc_162, kc_163, kc_168, kc_186, kc_190, kc_250, kc_355, kc_356, kc_404, kc_405, kc_429, kc_573, kc_1002, kc_1100, kc_1891, kc_2200, kc_4719, kc_4869, kc_4881, kc_5148, kc_19741, kc_25433, kc_320403, kc_628412, kc_629093, kc_660401, kc_679843, kc_918640, kc_979410, kc_1178088, kc_6232410, kc_24644941, kc_36238189, kc_38270444, kc_392531318, kc_425693491, kc_1342154595, kc_2147483648, kc_42328242873, kc_891704255789, kc_1722105685577, kc_1858726030364, ct_0, ct_1, ct_2, ct_3, ct_4, ct_5, cf_0, cf_1, cf_2, cf_3, cf_4, cf_5, w_ty6, w_ty7, m_sv, m_z0, m_hd, m_g0, m_gs, m_s0, m_ss, m_ap, m_an, forall_const, true_and, and_true, ne_eq, not_true_eq_false, not_false_eq_true, false_implies, true_implies, implies_true, eq_self, reduceCtorEq, Nat.reduceDiv, Nat.reduceMod, Int.reduceToNat, or_true, true_or, or_false, false_or, or_self, m_it, m_if, m_c1, m_01, m_02, m_03, m_04, m_10, m_12, m_13, m_14, m_20, m_21, m_23, m_24, m_30, m_31, m_32, m_34, m_40, m_41, m_42, m_43, Int.reduceLE, Int.reduceLT, Int.reduceGE, Int.reduceGT, Int.reduceNeg, Int.reduceAdd, Int.reduceSub, Int.reduceMul, Int.reduceEq, Int.reduceNe, Nat.reduceAdd, jun2, ro_0_0, ro_0_1, ro_0_2, ro_0_3, ro_0_4, ro_0_5, ro_0_6, ro_0_7, ro_0_8, ro_0_9, ro_0_10, ro_0_11, ro_0_12, ro_1_0, ro_1_1, ro_2_0, ro_4_0, ro_6_0, ro_6_1, ro_6_2, ro_6_3, ro_6_4, ro_6_5, ro_6_6, ro_6_7, ro_6_8, ro_8_0, ro_10_0, ro_12_0, ro_14_0, ro_16_0, ro_18_0, ro_20_0, ro_22_0, ro_22_1, ro_22_2, ro_23_0, ro_25_0, ro_27_0, ro_29_0, ro_29_1, ro_29_2, ro_29_3, ro_29_4, ro_29_5, ro_29_6, ro_29_7, ro_29_8, ro_31_0, ro_33_0, ro_35_0, ro_37_0, ro_39_0, ro_41_0, ro_43_0, ro_45_0, ro_45_1, ro_45_2, ro_46_0, ro_48_0, ro_50_0, ro_52_0, ro_52_1, ro_52_2, ro_52_3, ro_53_0, ro_55_0, ro_57_0, ro_59_0, ro_61_0, ro_61_1, ro_61_2, ro_61_3, ro_62_0, ro_64_0, ro_66_0, ro_68_0, ro_70_0, ro_70_1, ro_70_2, ro_70_3, ro_70_4, ro_70_5, ro_70_6, ro_70_7, ro_70_8, ro_70_9, ro_71_0, ro_73_0, ro_75_0, ro_77_0, ro_79_0, ro_81_0, ro_83_0, ro_85_0, ro_87_0, ro_89_0, ro_91_0, ro_91_1, ro_91_2, ro_91_3, ro_91_4, ro_91_5, ro_91_6, ro_91_7, ro_91_8, ro_91_9, ro_92_0, ro_94_0, ro_96_0, ro_98_0, ro_100_0, ro_102_0, ro_104_0, ro_106_0, ro_108_0, ro_110_0, ro_112_0, ro_112_1, ro_112_2, ro_112_3, ro_112_4, ro_112_5, ro_112_6, ro_112_7, ro_112_8, ro_112_9, ro_113_0, ro_115_0, ro_117_0, ro_119_0, ro_121_0, ro_123_0, ro_125_0, ro_127_0, ro_129_0, ro_131_0, ro_133_0, ro_133_1, ro_133_2, ro_133_3, ro_133_4, ro_133_5, ro_133_6, ro_133_7, ro_133_8, ro_133_9, ro_134_0, ro_136_0, ro_138_0, ro_140_0, ro_142_0, ro_144_0, ro_146_0, ro_148_0, ro_150_0, ro_152_0, ro_154_0, ro_155_0, ro_157_0, ro_157_1, ro_157_2, ro_157_3, ro_157_4, ro_157_5, ro_157_6, ro_157_7, ro_157_8, ro_157_9, ro_158_0, ro_160_0, ro_162_0, ro_164_0, ro_166_0, ro_168_0, ro_170_0, ro_172_0, ro_174_0, ro_176_0, ro_178_0, ro_180_0, ro_182_1, ro_182_4, ro_182_5, ro_182_6, ro_182_9, ro_182_10, ro_182_11, ro_182_13, ro_182_14, ro_182_15, ro_182_16, ro_182_17, ro_182_20, ro_182_21, ro_182_22, ro_182_23, ro_182_24, ro_182_26, ro_182_27, ro_182_28, lo_3, lo_5, lo_7, lo_9, lo_11, lo_13, lo_15, lo_17, lo_19, lo_21, lo_24, lo_26, lo_28, lo_30, lo_32, lo_34, lo_36, lo_38, lo_40, lo_42, lo_44, lo_47, lo_49, lo_51, lo_54, lo_56, lo_58, lo_60, lo_63, lo_65, lo_67, lo_69, lo_72, lo_74, lo_76, lo_78, lo_80, lo_82, lo_84, lo_86, lo_88, lo_90, lo_93, lo_95, lo_97, lo_99, lo_101, lo_103, lo_105, lo_107, lo_109, lo_111, lo_114, lo_116, lo_118, lo_120, lo_122, lo_124, lo_126, lo_128, lo_130, lo_132, lo_135, lo_137, lo_139, lo_141, lo_143, lo_145, lo_147, lo_149, lo_151, lo_153, lo_156, lo_159, lo_161, lo_163, lo_165, lo_167, lo_169, lo_171, lo_173, lo_175, lo_177, lo_179, lo_181, lo_183, lo_184, lo_185, lo_186, lo_187, lo_188, lo_189, lo_190, lo_191, lo_192, lo_193, lo_194, lo_195, lo_196, lo_197, lo_198, lo_199, lo_200, lo_201, lo_202, lo_203, jp_nn, jp_eq, jp_e1, Classical.not_not, ji0, ji1, ji2, cs17_54, kk_54, cs17_84, kk_84, jl_0, jl_1, jl_2, jl_3, jl_4, jl_5, jl_6, jl_7, jl_8, jl_9, jl_10, jl_11, jl_12, jl_13, jl_14, jl_15, jl_16, jl_17, jl_18, jl_19, jl_20, jl_21, jl_22, jl_23, jl_24, jl_25, jl_26, jl_27, jl_28, jl_29, jl_30, jl_31, jl_32, jl_33, jl_34, jl_35, jl_36, jl_37, jl_38, jl_39, jl_40, jl_95, jl_96, jl_97, jl_98, jl_99, jl_100, jl_101, jl_102, jl_103, jl_104, jl_105, jl_106, jl_107, jl_108, jl_109, jl_110, jl_111, jl_112, jl_113, jl_114, jl_186, jl_1100, jr, ju, jpT, jpF, tnc, Nat.reduceEqDiff, reduceIte, and_false, false_and, not_true_eq_false, not_false_eq_true, or_false, gt_iff_lt, ge_iff_le, Int.lt_irrefl, Int.le_refl]
        exact hQ
      | cons w l2 =>
        have e1' : en = [45, t, (l2.length : Int)] := by
          rw [e1_w]
          show [45, t, ((l2.length + 1 : Nat) : Int) - 1] = _
          rw [show ((l2.length + 1 : Nat) : Int) - 1 = (l2.length : Int) by omega]
        subst e1'
        have tp : rg h1 48 (l2.length : Int) = w := by
          have el : (w :: l2).length = l2.length + 1 := rfl
          have a2 := m1_w.1.2.1
          exact (rg_in (o := 48) (c := 49) (n := 64) ro_48_0 lo_49 (by omega)).trans ((up_ne (by omega)).symm.trans m1_w.1.2.2.1)
        have y0 : (0 : Int) ≤ (l2.length : Int) := by omega
        have y0' : ¬ (l2.length : Int) < 0 := by omega
        have hl64 := m1_w.1.2.1
        have hl2 : (w :: l2).length = l2.length + 1 := rfl
        have e6_w : j32 ((l2.length : Int) + -1) = (l2.length : Int) - 1 := by
          rw [j32_id (by omega) (by omega)]
          omega
        have e6' : j32 ((l2.length : Int) - 1) = (l2.length : Int) - 1 := j32_id (by omega) (by omega)
        by_cases y : 2 ≤ rkk w
        · have yr : (2 : Int) ≤ (rkk w : Int) := by omega
          have yr' : ¬ (rkk w : Int) < 2 := by omega
          by_cases y2 : rkk w = 2
          · have y2' : (rkk w : Int) = 2 := by omega
            rw [jp_t ⟨yt, by rw [cag, if_pos y, if_pos y2]⟩] at hQ
            simp only [qe_1, qe_3, qe_4, qe_5, qe_7, qe_72, qe_10, qe_102, qe_13, qe_14, qe_15, qe_16, qe_17, qe_18, qe_20, qe_22, qe_23, qe_21, qe_24, qe_25, qe_26, qe_27, qe_28, qe_30, qe_31, qe_32, qc_20, qc_22, qc_23, qc_21, qc_24, qc_25, qc_26, qc_27, qc_1, qc_3, qc_4, qc_7, qc_13, qc_28, qc_32, qs_1, qs_2, qs_3, qs_4, qs_5, qs_6, qs_9, qs_10, qs_11, qs_14, qs_15, qs_16, qs_27, qs_17, qs_18, qs_19, qs_20, qs_22, qs_23, qs_28, qs_25, qs_26, qs_7, qs_8, kc_1, kn_1, kc_2, kn_2, kc_3, kn_3, kc_4, kn_4, kc_5, kn_5, kc_6, kn_6, kc_7, kn_7, kc_8, kn_8, kc_9, kn_9, kc_10, kn_10, kc_11, kn_11, kc_12, kn_12, kc_13, kn_13, kc_14, kn_14, kc_15, kn_15, kc_16, kc_17, kc_18, kc_19, kc_20, kc_21, kc_22, kc_23, kc_30, kc_32, kc_40, kc_43, kc_45, kc_48, kc_52, kc_56, kc_57, kc_59, kc_60, kc_61, kc_63, kc_64, kc_72, kc_78, kc_97, kc_99, kc_122, kc_126, kc_128, kc_192, kc_200, kc_255, kc_999, kc_1000, kc_9999, kn_9999, kc_10000, kc_12345, kc_65536, kc_252645135, kc_858993459, kc_1103515245, kc_1431655765, kc_2147483647, kc_0, kc_24, kc_28, kc_37, kc_41, kc_42, kc_73, kc_91, kc_95, kc_96, kc_98, kc_100, kc_112, kc_125, kc_150, kc_162, kc_163, kc_168, kc_186, kc_190, kc_250, kc_355, kc_356, kc_404, kc_405, kc_429, kc_573, kc_1002, kc_1100, kc_1891, kc_2200, kc_4719, kc_4869, kc_4881, kc_5148, kc_19741, kc_25433, kc_320403, kc_628412, kc_629093, kc_660401, kc_679843, kc_918640, kc_979410, kc_1178088, kc_6232410, kc_24644941, kc_36238189, kc_38270444, kc_392531318, kc_425693491, kc_1342154595, kc_2147483648, kc_42328242873, kc_891704255789, kc_1722105685577, kc_1858726030364, ct_0, ct_1, ct_2, ct_3, ct_4, ct_5, cf_0, cf_1, cf_2, cf_3, cf_4, cf_5, w_ty6, w_ty7, m_sv, m_z0, m_hd, m_g0, m_gs, m_s0, m_ss, m_ap, m_an, forall_const, true_and, and_true, ne_eq, not_true_eq_false, not_false_eq_true, false_implies, true_implies, implies_true, eq_self, reduceCtorEq, Nat.reduceDiv, Nat.reduceMod, Int.reduceToNat, or_true, true_or, or_false, false_or, or_self, m_it, m_if, m_c1, m_01, m_02, m_03, m_04, m_10, m_12, m_13, m_14, m_20, m_21, m_23, m_24, m_30, m_31, m_32, m_34, m_40, m_41, m_42, m_43, Int.reduceLE, Int.reduceLT, Int.reduceGE, Int.reduceGT, Int.reduceNeg, Int.reduceAdd, Int.reduceSub, Int.reduceMul, Int.reduceEq, Int.reduceNe, Nat.reduceAdd, jun2, ro_0_0, ro_0_1, ro_0_2, ro_0_3, ro_0_4, ro_0_5, ro_0_6, ro_0_7, ro_0_8, ro_0_9, ro_0_10, ro_0_11, ro_0_12, ro_1_0, ro_1_1, ro_2_0, ro_4_0, ro_6_0, ro_6_1, ro_6_2, ro_6_3, ro_6_4, ro_6_5, ro_6_6, ro_6_7, ro_6_8, ro_8_0, ro_10_0, ro_12_0, ro_14_0, ro_16_0, ro_18_0, ro_20_0, ro_22_0, ro_22_1, ro_22_2, ro_23_0, ro_25_0, ro_27_0, ro_29_0, ro_29_1, ro_29_2, ro_29_3, ro_29_4, ro_29_5, ro_29_6, ro_29_7, ro_29_8, ro_31_0, ro_33_0, ro_35_0, ro_37_0, ro_39_0, ro_41_0, ro_43_0, ro_45_0, ro_45_1, ro_45_2, ro_46_0, ro_48_0, ro_50_0, ro_52_0, ro_52_1, ro_52_2, ro_52_3, ro_53_0, ro_55_0, ro_57_0, ro_59_0, ro_61_0, ro_61_1, ro_61_2, ro_61_3, ro_62_0, ro_64_0, ro_66_0, ro_68_0, ro_70_0, ro_70_1, ro_70_2, ro_70_3, ro_70_4, ro_70_5, ro_70_6, ro_70_7, ro_70_8, ro_70_9, ro_71_0, ro_73_0, ro_75_0, ro_77_0, ro_79_0, ro_81_0, ro_83_0, ro_85_0, ro_87_0, ro_89_0, ro_91_0, ro_91_1, ro_91_2, ro_91_3, ro_91_4, ro_91_5, ro_91_6, ro_91_7, ro_91_8, ro_91_9, ro_92_0, ro_94_0, ro_96_0, ro_98_0, ro_100_0, ro_102_0, ro_104_0, ro_106_0, ro_108_0, ro_110_0, ro_112_0, ro_112_1, ro_112_2, ro_112_3, ro_112_4, ro_112_5, ro_112_6, ro_112_7, ro_112_8, ro_112_9, ro_113_0, ro_115_0, ro_117_0, ro_119_0, ro_121_0, ro_123_0, ro_125_0, ro_127_0, ro_129_0, ro_131_0, ro_133_0, ro_133_1, ro_133_2, ro_133_3, ro_133_4, ro_133_5, ro_133_6, ro_133_7, ro_133_8, ro_133_9, ro_134_0, ro_136_0, ro_138_0, ro_140_0, ro_142_0, ro_144_0, ro_146_0, ro_148_0, ro_150_0, ro_152_0, ro_154_0, ro_155_0, ro_157_0, ro_157_1, ro_157_2, ro_157_3, ro_157_4, ro_157_5, ro_157_6, ro_157_7, ro_157_8, ro_157_9, ro_158_0, ro_160_0, ro_162_0, ro_164_0, ro_166_0, ro_168_0, ro_170_0, ro_172_0, ro_174_0, ro_176_0, ro_178_0, ro_180_0, ro_182_1, ro_182_4, ro_182_5, ro_182_6, ro_182_9, ro_182_10, ro_182_11, ro_182_13, ro_182_14, ro_182_15, ro_182_16, ro_182_17, ro_182_20, ro_182_21, ro_182_22, ro_182_23, ro_182_24, ro_182_26, ro_182_27, ro_182_28, lo_3, lo_5, lo_7, lo_9, lo_11, lo_13, lo_15, lo_17, lo_19, lo_21, lo_24, lo_26, lo_28, lo_30, lo_32, lo_34, lo_36, lo_38, lo_40, lo_42, lo_44, lo_47, lo_49, lo_51, lo_54, lo_56, lo_58, lo_60, lo_63, lo_65, lo_67, lo_69, lo_72, lo_74, lo_76, lo_78, lo_80, lo_82, lo_84, lo_86, lo_88, lo_90, lo_93, lo_95, lo_97, lo_99, lo_101, lo_103, lo_105, lo_107, lo_109, lo_111, lo_114, lo_116, lo_118, lo_120, lo_122, lo_124, lo_126, lo_128, lo_130, lo_132, lo_135, lo_137, lo_139, lo_141, lo_143, lo_145, lo_147, lo_149, lo_151, lo_153, lo_156, lo_159, lo_161, lo_163, lo_165, lo_167, lo_169, lo_171, lo_173, lo_175, lo_177, lo_179, lo_181, lo_183, lo_184, lo_185, lo_186, lo_187, lo_188, lo_189, lo_190, lo_191, lo_192, lo_193, lo_194, lo_195, lo_196, lo_197, lo_198, lo_199, lo_200, lo_201, lo_202, lo_203, jp_nn, jp_eq, jp_e1, Classical.not_not, ji0, ji1, ji2, cs17_54, kk_54, cs17_84, kk_84, jl_0, jl_1, jl_2, jl_3, jl_4, jl_5, jl_6, jl_7, jl_8, jl_9, jl_10, jl_11, jl_12, jl_13, jl_14, jl_15, jl_16, jl_17, jl_18, jl_19, jl_20, jl_21, jl_22, jl_23, jl_24, jl_25, jl_26, jl_27, jl_28, jl_29, jl_30, jl_31, jl_32, jl_33, jl_34, jl_35, jl_36, jl_37, jl_38, jl_39, jl_40, jl_95, jl_96, jl_97, jl_98, jl_99, jl_100, jl_101, jl_102, jl_103, jl_104, jl_105, jl_106, jl_107, jl_108, jl_109, jl_110, jl_111, jl_112, jl_113, jl_114, jl_186, jl_1100, jr, ju, jpT, jpF, tnc, Nat.reduceEqDiff, reduceIte, and_false, false_and, not_true_eq_false, not_false_eq_true, or_false, gt_iff_lt, ge_iff_le, Int.lt_irrefl, Int.le_refl, rkn_k, tp, y0, y0', y2', e6_w, e6']
            exact hQ
          · have y2' : ¬ (rkk w : Int) = 2 := by omega
            simp only [qe_1, qe_3, qe_4, qe_5, qe_7, qe_72, qe_10, qe_102, qe_13, qe_14, qe_15, qe_16, qe_17, qe_18, qe_20, qe_22, qe_23, qe_21, qe_24, qe_25, qe_26, qe_27, qe_28, qe_30, qe_31, qe_32, qc_20, qc_22, qc_23, qc_21, qc_24, qc_25, qc_26, qc_27, qc_1, qc_3, qc_4, qc_7, qc_13, qc_28, qc_32, qs_1, qs_2, qs_3, qs_4, qs_5, qs_6, qs_9, qs_10, qs_11, qs_14, qs_15, qs_16, qs_27, qs_17, qs_18, qs_19, qs_20, qs_22, qs_23, qs_28, qs_25, qs_26, qs_7, qs_8, kc_1, kn_1, kc_2, kn_2, kc_3, kn_3, kc_4, kn_4, kc_5, kn_5, kc_6, kn_6, kc_7, kn_7, kc_8, kn_8, kc_9, kn_9, kc_10, kn_10, kc_11, kn_11, kc_12, kn_12, kc_13, kn_13, kc_14, kn_14, kc_15, kn_15, kc_16, kc_17, kc_18, kc_19, kc_20, kc_21, kc_22, kc_23, kc_30, kc_32, kc_40, kc_43, kc_45, kc_48, kc_52, kc_56, kc_57, kc_59, kc_60, kc_61, kc_63, kc_64, kc_72, kc_78, kc_97, kc_99, kc_122, kc_126, kc_128, kc_192, kc_200, kc_255, kc_999, kc_1000, kc_9999, kn_9999, kc_10000, kc_12345, kc_65536, kc_252645135, kc_858993459, kc_1103515245, kc_1431655765, kc_2147483647, kc_0, kc_24, kc_28, kc_37, kc_41, kc_42, kc_73, kc_91, kc_95, kc_96, kc_98, kc_100, kc_112, kc_125, kc_150, kc_162, kc_163, kc_168, kc_186, kc_190, kc_250, kc_355, kc_356, kc_404, kc_405, kc_429, kc_573, kc_1002, kc_1100, kc_1891, kc_2200, kc_4719, kc_4869, kc_4881, kc_5148, kc_19741, kc_25433, kc_320403, kc_628412, kc_629093, kc_660401, kc_679843, kc_918640, kc_979410, kc_1178088, kc_6232410, kc_24644941, kc_36238189, kc_38270444, kc_392531318, kc_425693491, kc_1342154595, kc_2147483648, kc_42328242873, kc_891704255789, kc_1722105685577, kc_1858726030364, ct_0, ct_1, ct_2, ct_3, ct_4, ct_5, cf_0, cf_1, cf_2, cf_3, cf_4, cf_5, w_ty6, w_ty7, m_sv, m_z0, m_hd, m_g0, m_gs, m_s0, m_ss, m_ap, m_an, forall_const, true_and, and_true, ne_eq, not_true_eq_false, not_false_eq_true, false_implies, true_implies, implies_true, eq_self, reduceCtorEq, Nat.reduceDiv, Nat.reduceMod, Int.reduceToNat, or_true, true_or, or_false, false_or, or_self, m_it, m_if, m_c1, m_01, m_02, m_03, m_04, m_10, m_12, m_13, m_14, m_20, m_21, m_23, m_24, m_30, m_31, m_32, m_34, m_40, m_41, m_42, m_43, Int.reduceLE, Int.reduceLT, Int.reduceGE, Int.reduceGT, Int.reduceNeg, Int.reduceAdd, Int.reduceSub, Int.reduceMul, Int.reduceEq, Int.reduceNe, Nat.reduceAdd, jun2, ro_0_0, ro_0_1, ro_0_2, ro_0_3, ro_0_4, ro_0_5, ro_0_6, ro_0_7, ro_0_8, ro_0_9, ro_0_10, ro_0_11, ro_0_12, ro_1_0, ro_1_1, ro_2_0, ro_4_0, ro_6_0, ro_6_1, ro_6_2, ro_6_3, ro_6_4, ro_6_5, ro_6_6, ro_6_7, ro_6_8, ro_8_0, ro_10_0, ro_12_0, ro_14_0, ro_16_0, ro_18_0, ro_20_0, ro_22_0, ro_22_1, ro_22_2, ro_23_0, ro_25_0, ro_27_0, ro_29_0, ro_29_1, ro_29_2, ro_29_3, ro_29_4, ro_29_5, ro_29_6, ro_29_7, ro_29_8, ro_31_0, ro_33_0, ro_35_0, ro_37_0, ro_39_0, ro_41_0, ro_43_0, ro_45_0, ro_45_1, ro_45_2, ro_46_0, ro_48_0, ro_50_0, ro_52_0, ro_52_1, ro_52_2, ro_52_3, ro_53_0, ro_55_0, ro_57_0, ro_59_0, ro_61_0, ro_61_1, ro_61_2, ro_61_3, ro_62_0, ro_64_0, ro_66_0, ro_68_0, ro_70_0, ro_70_1, ro_70_2, ro_70_3, ro_70_4, ro_70_5, ro_70_6, ro_70_7, ro_70_8, ro_70_9, ro_71_0, ro_73_0, ro_75_0, ro_77_0, ro_79_0, ro_81_0, ro_83_0, ro_85_0, ro_87_0, ro_89_0, ro_91_0, ro_91_1, ro_91_2, ro_91_3, ro_91_4, ro_91_5, ro_91_6, ro_91_7, ro_91_8, ro_91_9, ro_92_0, ro_94_0, ro_96_0, ro_98_0, ro_100_0, ro_102_0, ro_104_0, ro_106_0, ro_108_0, ro_110_0, ro_112_0, ro_112_1, ro_112_2, ro_112_3, ro_112_4, ro_112_5, ro_112_6, ro_112_7, ro_112_8, ro_112_9, ro_113_0, ro_115_0, ro_117_0, ro_119_0, ro_121_0, ro_123_0, ro_125_0, ro_127_0, ro_129_0, ro_131_0, ro_133_0, ro_133_1, ro_133_2, ro_133_3, ro_133_4, ro_133_5, ro_133_6, ro_133_7, ro_133_8, ro_133_9, ro_134_0, ro_136_0, ro_138_0, ro_140_0, ro_142_0, ro_144_0, ro_146_0, ro_148_0, ro_150_0, ro_152_0, ro_154_0, ro_155_0, ro_157_0, ro_157_1, ro_157_2, ro_157_3, ro_157_4, ro_157_5, ro_157_6, ro_157_7, ro_157_8, ro_157_9, ro_158_0, ro_160_0, ro_162_0, ro_164_0, ro_166_0, ro_168_0, ro_170_0, ro_172_0, ro_174_0, ro_176_0, ro_178_0, ro_180_0, ro_182_1, ro_182_4, ro_182_5, ro_182_6, ro_182_9, ro_182_10, ro_182_11, ro_182_13, ro_182_14, ro_182_15, ro_182_16, ro_182_17, ro_182_20, ro_182_21, ro_182_22, ro_182_23, ro_182_24, ro_182_26, ro_182_27, ro_182_28, lo_3, lo_5, lo_7, lo_9, lo_11, lo_13, lo_15, lo_17, lo_19, lo_21, lo_24, lo_26, lo_28, lo_30, lo_32, lo_34, lo_36, lo_38, lo_40, lo_42, lo_44, lo_47, lo_49, lo_51, lo_54, lo_56, lo_58, lo_60, lo_63, lo_65, lo_67, lo_69, lo_72, lo_74, lo_76, lo_78, lo_80, lo_82, lo_84, lo_86, lo_88, lo_90, lo_93, lo_95, lo_97, lo_99, lo_101, lo_103, lo_105, lo_107, lo_109, lo_111, lo_114, lo_116, lo_118, lo_120, lo_122, lo_124, lo_126, lo_128, lo_130, lo_132, lo_135, lo_137, lo_139, lo_141, lo_143, lo_145, lo_147, lo_149, lo_151, lo_153, lo_156, lo_159, lo_161, lo_163, lo_165, lo_167, lo_169, lo_171, lo_173, lo_175, lo_177, lo_179, lo_181, lo_183, lo_184, lo_185, lo_186, lo_187, lo_188, lo_189, lo_190, lo_191, lo_192, lo_193, lo_194, lo_195, lo_196, lo_197, lo_198, lo_199, lo_200, lo_201, lo_202, lo_203, jp_nn, jp_eq, jp_e1, Classical.not_not, ji0, ji1, ji2, cs17_54, kk_54, cs17_84, kk_84, jl_0, jl_1, jl_2, jl_3, jl_4, jl_5, jl_6, jl_7, jl_8, jl_9, jl_10, jl_11, jl_12, jl_13, jl_14, jl_15, jl_16, jl_17, jl_18, jl_19, jl_20, jl_21, jl_22, jl_23, jl_24, jl_25, jl_26, jl_27, jl_28, jl_29, jl_30, jl_31, jl_32, jl_33, jl_34, jl_35, jl_36, jl_37, jl_38, jl_39, jl_40, jl_95, jl_96, jl_97, jl_98, jl_99, jl_100, jl_101, jl_102, jl_103, jl_104, jl_105, jl_106, jl_107, jl_108, jl_109, jl_110, jl_111, jl_112, jl_113, jl_114, jl_186, jl_1100, jr, ju, jpT, jpF, tnc, Nat.reduceEqDiff, reduceIte, and_false, false_and, not_true_eq_false, not_false_eq_true, or_false, gt_iff_lt, ge_iff_le, Int.lt_irrefl, Int.le_refl, rkn_k, tp, y0, y0', yr, yr', y2', e6_w, e6']
            have mp := m1_w.pop
            have eh : j_up (j_up h1 45 4 ((w :: l2).length : Int)) 45 4 (l2.length : Int) = j_up h1 45 4 (l2.length : Int) := by
              funext a b
              by_cases z : a = 45 ∧ b = 4
              · rw [z.1, z.2, up_eq, up_eq]
              · rw [up_ne z, up_ne z, up_ne z]
            rw [eh] at mp
            refine ⟨l2, rfl, mp, ?_⟩
            rw [z1, cag, if_pos y, if_neg y2]
        · have yr : ¬ (2 : Int) ≤ (rkk w : Int) := by omega
          have yr' : (rkk w : Int) < 2 := by omega
          rw [jp_f (fun z => by have k := z.2; rw [cag, if_neg y] at k; cases k)] at hQ
          simp only [qe_1, qe_3, qe_4, qe_5, qe_7, qe_72, qe_10, qe_102, qe_13, qe_14, qe_15, qe_16, qe_17, qe_18, qe_20, qe_22, qe_23, qe_21, qe_24, qe_25, qe_26, qe_27, qe_28, qe_30, qe_31, qe_32, qc_20, qc_22, qc_23, qc_21, qc_24, qc_25, qc_26, qc_27, qc_1, qc_3, qc_4, qc_7, qc_13, qc_28, qc_32, qs_1, qs_2, qs_3, qs_4, qs_5, qs_6, qs_9, qs_10, qs_11, qs_14, qs_15, qs_16, qs_27, qs_17, qs_18, qs_19, qs_20, qs_22, qs_23, qs_28, qs_25, qs_26, qs_7, qs_8, kc_1, kn_1, kc_2, kn_2, kc_3, kn_3, kc_4, kn_4, kc_5, kn_5, kc_6, kn_6, kc_7, kn_7, kc_8, kn_8, kc_9, kn_9, kc_10, kn_10, kc_11, kn_11, kc_12, kn_12, kc_13, kn_13, kc_14, kn_14, kc_15, kn_15, kc_16, kc_17, kc_18, kc_19, kc_20, kc_21, kc_22, kc_23, kc_30, kc_32, kc_40, kc_43, kc_45, kc_48, kc_52, kc_56, kc_57, kc_59, kc_60, kc_61, kc_63, kc_64, kc_72, kc_78, kc_97, kc_99, kc_122, kc_126, kc_128, kc_192, kc_200, kc_255, kc_999, kc_1000, kc_9999, kn_9999, kc_10000, kc_12345, kc_65536, kc_252645135, kc_858993459, kc_1103515245, kc_1431655765, kc_2147483647, kc_0, kc_24, kc_28, kc_37, kc_41, kc_42, kc_73, kc_91, kc_95, kc_96, kc_98, kc_100, kc_112, kc_125, kc_150, kc_162, kc_163, kc_168, kc_186, kc_190, kc_250, kc_355, kc_356, kc_404, kc_405, kc_429, kc_573, kc_1002, kc_1100, kc_1891, kc_2200, kc_4719, kc_4869, kc_4881, kc_5148, kc_19741, kc_25433, kc_320403, kc_628412, kc_629093, kc_660401, kc_679843, kc_918640, kc_979410, kc_1178088, kc_6232410, kc_24644941, kc_36238189, kc_38270444, kc_392531318, kc_425693491, kc_1342154595, kc_2147483648, kc_42328242873, kc_891704255789, kc_1722105685577, kc_1858726030364, ct_0, ct_1, ct_2, ct_3, ct_4, ct_5, cf_0, cf_1, cf_2, cf_3, cf_4, cf_5, w_ty6, w_ty7, m_sv, m_z0, m_hd, m_g0, m_gs, m_s0, m_ss, m_ap, m_an, forall_const, true_and, and_true, ne_eq, not_true_eq_false, not_false_eq_true, false_implies, true_implies, implies_true, eq_self, reduceCtorEq, Nat.reduceDiv, Nat.reduceMod, Int.reduceToNat, or_true, true_or, or_false, false_or, or_self, m_it, m_if, m_c1, m_01, m_02, m_03, m_04, m_10, m_12, m_13, m_14, m_20, m_21, m_23, m_24, m_30, m_31, m_32, m_34, m_40, m_41, m_42, m_43, Int.reduceLE, Int.reduceLT, Int.reduceGE, Int.reduceGT, Int.reduceNeg, Int.reduceAdd, Int.reduceSub, Int.reduceMul, Int.reduceEq, Int.reduceNe, Nat.reduceAdd, jun2, ro_0_0, ro_0_1, ro_0_2, ro_0_3, ro_0_4, ro_0_5, ro_0_6, ro_0_7, ro_0_8, ro_0_9, ro_0_10, ro_0_11, ro_0_12, ro_1_0, ro_1_1, ro_2_0, ro_4_0, ro_6_0, ro_6_1, ro_6_2, ro_6_3, ro_6_4, ro_6_5, ro_6_6, ro_6_7, ro_6_8, ro_8_0, ro_10_0, ro_12_0, ro_14_0, ro_16_0, ro_18_0, ro_20_0, ro_22_0, ro_22_1, ro_22_2, ro_23_0, ro_25_0, ro_27_0, ro_29_0, ro_29_1, ro_29_2, ro_29_3, ro_29_4, ro_29_5, ro_29_6, ro_29_7, ro_29_8, ro_31_0, ro_33_0, ro_35_0, ro_37_0, ro_39_0, ro_41_0, ro_43_0, ro_45_0, ro_45_1, ro_45_2, ro_46_0, ro_48_0, ro_50_0, ro_52_0, ro_52_1, ro_52_2, ro_52_3, ro_53_0, ro_55_0, ro_57_0, ro_59_0, ro_61_0, ro_61_1, ro_61_2, ro_61_3, ro_62_0, ro_64_0, ro_66_0, ro_68_0, ro_70_0, ro_70_1, ro_70_2, ro_70_3, ro_70_4, ro_70_5, ro_70_6, ro_70_7, ro_70_8, ro_70_9, ro_71_0, ro_73_0, ro_75_0, ro_77_0, ro_79_0, ro_81_0, ro_83_0, ro_85_0, ro_87_0, ro_89_0, ro_91_0, ro_91_1, ro_91_2, ro_91_3, ro_91_4, ro_91_5, ro_91_6, ro_91_7, ro_91_8, ro_91_9, ro_92_0, ro_94_0, ro_96_0, ro_98_0, ro_100_0, ro_102_0, ro_104_0, ro_106_0, ro_108_0, ro_110_0, ro_112_0, ro_112_1, ro_112_2, ro_112_3, ro_112_4, ro_112_5, ro_112_6, ro_112_7, ro_112_8, ro_112_9, ro_113_0, ro_115_0, ro_117_0, ro_119_0, ro_121_0, ro_123_0, ro_125_0, ro_127_0, ro_129_0, ro_131_0, ro_133_0, ro_133_1, ro_133_2, ro_133_3, ro_133_4, ro_133_5, ro_133_6, ro_133_7, ro_133_8, ro_133_9, ro_134_0, ro_136_0, ro_138_0, ro_140_0, ro_142_0, ro_144_0, ro_146_0, ro_148_0, ro_150_0, ro_152_0, ro_154_0, ro_155_0, ro_157_0, ro_157_1, ro_157_2, ro_157_3, ro_157_4, ro_157_5, ro_157_6, ro_157_7, ro_157_8, ro_157_9, ro_158_0, ro_160_0, ro_162_0, ro_164_0, ro_166_0, ro_168_0, ro_170_0, ro_172_0, ro_174_0, ro_176_0, ro_178_0, ro_180_0, ro_182_1, ro_182_4, ro_182_5, ro_182_6, ro_182_9, ro_182_10, ro_182_11, ro_182_13, ro_182_14, ro_182_15, ro_182_16, ro_182_17, ro_182_20, ro_182_21, ro_182_22, ro_182_23, ro_182_24, ro_182_26, ro_182_27, ro_182_28, lo_3, lo_5, lo_7, lo_9, lo_11, lo_13, lo_15, lo_17, lo_19, lo_21, lo_24, lo_26, lo_28, lo_30, lo_32, lo_34, lo_36, lo_38, lo_40, lo_42, lo_44, lo_47, lo_49, lo_51, lo_54, lo_56, lo_58, lo_60, lo_63, lo_65, lo_67, lo_69, lo_72, lo_74, lo_76, lo_78, lo_80, lo_82, lo_84, lo_86, lo_88, lo_90, lo_93, lo_95, lo_97, lo_99, lo_101, lo_103, lo_105, lo_107, lo_109, lo_111, lo_114, lo_116, lo_118, lo_120, lo_122, lo_124, lo_126, lo_128, lo_130, lo_132, lo_135, lo_137, lo_139, lo_141, lo_143, lo_145, lo_147, lo_149, lo_151, lo_153, lo_156, lo_159, lo_161, lo_163, lo_165, lo_167, lo_169, lo_171, lo_173, lo_175, lo_177, lo_179, lo_181, lo_183, lo_184, lo_185, lo_186, lo_187, lo_188, lo_189, lo_190, lo_191, lo_192, lo_193, lo_194, lo_195, lo_196, lo_197, lo_198, lo_199, lo_200, lo_201, lo_202, lo_203, jp_nn, jp_eq, jp_e1, Classical.not_not, ji0, ji1, ji2, cs17_54, kk_54, cs17_84, kk_84, jl_0, jl_1, jl_2, jl_3, jl_4, jl_5, jl_6, jl_7, jl_8, jl_9, jl_10, jl_11, jl_12, jl_13, jl_14, jl_15, jl_16, jl_17, jl_18, jl_19, jl_20, jl_21, jl_22, jl_23, jl_24, jl_25, jl_26, jl_27, jl_28, jl_29, jl_30, jl_31, jl_32, jl_33, jl_34, jl_35, jl_36, jl_37, jl_38, jl_39, jl_40, jl_95, jl_96, jl_97, jl_98, jl_99, jl_100, jl_101, jl_102, jl_103, jl_104, jl_105, jl_106, jl_107, jl_108, jl_109, jl_110, jl_111, jl_112, jl_113, jl_114, jl_186, jl_1100, jr, ju, jpT, jpF, tnc, Nat.reduceEqDiff, reduceIte, and_false, false_and, not_true_eq_false, not_false_eq_true, or_false, gt_iff_lt, ge_iff_le, Int.lt_irrefl, Int.le_refl, rkn_k, tp, y0, y0', yr, yr']
          exact hQ
    · have yt' : ¬ (rkk t : Int) = 2 := by omega
      rw [jp_f (fun z => yt z.1)] at hQ
      unfold bb_85
      simp only [qe_1, qe_3, qe_4, qe_5, qe_7, qe_72, qe_10, qe_102, qe_13, qe_14, qe_15, qe_16, qe_17, qe_18, qe_20, qe_22, qe_23, qe_21, qe_24, qe_25, qe_26, qe_27, qe_28, qe_30, qe_31, qe_32, qc_20, qc_22, qc_23, qc_21, qc_24, qc_25, qc_26, qc_27, qc_1, qc_3, qc_4, qc_7, qc_13, qc_28, qc_32, qs_1, qs_2, qs_3, qs_4, qs_5, qs_6, qs_9, qs_10, qs_11, qs_14, qs_15, qs_16, qs_27, qs_17, qs_18, qs_19, qs_20, qs_22, qs_23, qs_28, qs_25, qs_26, qs_7, qs_8, kc_1, kn_1, kc_2, kn_2, kc_3, kn_3, kc_4, kn_4, kc_5, kn_5, kc_6, kn_6, kc_7, kn_7, kc_8, kn_8, kc_9, kn_9, kc_10, kn_10, kc_11, kn_11, kc_12, kn_12, kc_13, kn_13, kc_14, kn_14, kc_15, kn_15, kc_16, kc_17, kc_18, kc_19, kc_20, kc_21, kc_22, kc_23, kc_30, kc_32, kc_40, kc_43, kc_45, kc_48, kc_52, kc_56, kc_57, kc_59, kc_60, kc_61, kc_63, kc_64, kc_72, kc_78, kc_97, kc_99, kc_122, kc_126, kc_128, kc_192, kc_200, kc_255, kc_999, kc_1000, kc_9999, kn_9999, kc_10000, kc_12345, kc_65536, kc_252645135, kc_858993459, kc_1103515245, kc_1431655765, kc_2147483647, kc_0, kc_24, kc_28, kc_37, kc_41, kc_42, kc_73, kc_91, kc_95, kc_96, kc_98, kc_100, kc_112, kc_125, kc_150, kc_162, kc_163, kc_168, kc_186, kc_190, kc_250, kc_355, kc_356, kc_404, kc_405, kc_429, kc_573, kc_1002, kc_1100, kc_1891, kc_2200, kc_4719, kc_4869, kc_4881, kc_5148, kc_19741, kc_25433, kc_320403, kc_628412, kc_629093, kc_660401, kc_679843, kc_918640, kc_979410, kc_1178088, kc_6232410, kc_24644941, kc_36238189, kc_38270444, kc_392531318, kc_425693491, kc_1342154595, kc_2147483648, kc_42328242873, kc_891704255789, kc_1722105685577, kc_1858726030364, ct_0, ct_1, ct_2, ct_3, ct_4, ct_5, cf_0, cf_1, cf_2, cf_3, cf_4, cf_5, w_ty6, w_ty7, m_sv, m_z0, m_hd, m_g0, m_gs, m_s0, m_ss, m_ap, m_an, forall_const, true_and, and_true, ne_eq, not_true_eq_false, not_false_eq_true, false_implies, true_implies, implies_true, eq_self, reduceCtorEq, Nat.reduceDiv, Nat.reduceMod, Int.reduceToNat, or_true, true_or, or_false, false_or, or_self, m_it, m_if, m_c1, m_01, m_02, m_03, m_04, m_10, m_12, m_13, m_14, m_20, m_21, m_23, m_24, m_30, m_31, m_32, m_34, m_40, m_41, m_42, m_43, Int.reduceLE, Int.reduceLT, Int.reduceGE, Int.reduceGT, Int.reduceNeg, Int.reduceAdd, Int.reduceSub, Int.reduceMul, Int.reduceEq, Int.reduceNe, Nat.reduceAdd, jun2, ro_0_0, ro_0_1, ro_0_2, ro_0_3, ro_0_4, ro_0_5, ro_0_6, ro_0_7, ro_0_8, ro_0_9, ro_0_10, ro_0_11, ro_0_12, ro_1_0, ro_1_1, ro_2_0, ro_4_0, ro_6_0, ro_6_1, ro_6_2, ro_6_3, ro_6_4, ro_6_5, ro_6_6, ro_6_7, ro_6_8, ro_8_0, ro_10_0, ro_12_0, ro_14_0, ro_16_0, ro_18_0, ro_20_0, ro_22_0, ro_22_1, ro_22_2, ro_23_0, ro_25_0, ro_27_0, ro_29_0, ro_29_1, ro_29_2, ro_29_3, ro_29_4, ro_29_5, ro_29_6, ro_29_7, ro_29_8, ro_31_0, ro_33_0, ro_35_0, ro_37_0, ro_39_0, ro_41_0, ro_43_0, ro_45_0, ro_45_1, ro_45_2, ro_46_0, ro_48_0, ro_50_0, ro_52_0, ro_52_1, ro_52_2, ro_52_3, ro_53_0, ro_55_0, ro_57_0, ro_59_0, ro_61_0, ro_61_1, ro_61_2, ro_61_3, ro_62_0, ro_64_0, ro_66_0, ro_68_0, ro_70_0, ro_70_1, ro_70_2, ro_70_3, ro_70_4, ro_70_5, ro_70_6, ro_70_7, ro_70_8, ro_70_9, ro_71_0, ro_73_0, ro_75_0, ro_77_0, ro_79_0, ro_81_0, ro_83_0, ro_85_0, ro_87_0, ro_89_0, ro_91_0, ro_91_1, ro_91_2, ro_91_3, ro_91_4, ro_91_5, ro_91_6, ro_91_7, ro_91_8, ro_91_9, ro_92_0, ro_94_0, ro_96_0, ro_98_0, ro_100_0, ro_102_0, ro_104_0, ro_106_0, ro_108_0, ro_110_0, ro_112_0, ro_112_1, ro_112_2, ro_112_3, ro_112_4, ro_112_5, ro_112_6, ro_112_7, ro_112_8, ro_112_9, ro_113_0, ro_115_0, ro_117_0, ro_119_0, ro_121_0, ro_123_0, ro_125_0, ro_127_0, ro_129_0, ro_131_0, ro_133_0, ro_133_1, ro_133_2, ro_133_3, ro_133_4, ro_133_5, ro_133_6, ro_133_7, ro_133_8, ro_133_9, ro_134_0, ro_136_0, ro_138_0, ro_140_0, ro_142_0, ro_144_0, ro_146_0, ro_148_0, ro_150_0, ro_152_0, ro_154_0, ro_155_0, ro_157_0, ro_157_1, ro_157_2, ro_157_3, ro_157_4, ro_157_5, ro_157_6, ro_157_7, ro_157_8, ro_157_9, ro_158_0, ro_160_0, ro_162_0, ro_164_0, ro_166_0, ro_168_0, ro_170_0, ro_172_0, ro_174_0, ro_176_0, ro_178_0, ro_180_0, ro_182_1, ro_182_4, ro_182_5, ro_182_6, ro_182_9, ro_182_10, ro_182_11, ro_182_13, ro_182_14, ro_182_15, ro_182_16, ro_182_17, ro_182_20, ro_182_21, ro_182_22, ro_182_23, ro_182_24, ro_182_26, ro_182_27, ro_182_28, lo_3, lo_5, lo_7, lo_9, lo_11, lo_13, lo_15, lo_17, lo_19, lo_21, lo_24, lo_26, lo_28, lo_30, lo_32, lo_34, lo_36, lo_38, lo_40, lo_42, lo_44, lo_47, lo_49, lo_51, lo_54, lo_56, lo_58, lo_60, lo_63, lo_65, lo_67, lo_69, lo_72, lo_74, lo_76, lo_78, lo_80, lo_82, lo_84, lo_86, lo_88, lo_90, lo_93, lo_95, lo_97, lo_99, lo_101, lo_103, lo_105, lo_107, lo_109, lo_111, lo_114, lo_116, lo_118, lo_120, lo_122, lo_124, lo_126, lo_128, lo_130, lo_132, lo_135, lo_137, lo_139, lo_141, lo_143, lo_145, lo_147, lo_149, lo_151, lo_153, lo_156, lo_159, lo_161, lo_163, lo_165, lo_167, lo_169, lo_171, lo_173, lo_175, lo_177, lo_179, lo_181, lo_183, lo_184, lo_185, lo_186, lo_187, lo_188, lo_189, lo_190, lo_191, lo_192, lo_193, lo_194, lo_195, lo_196, lo_197, lo_198, lo_199, lo_200, lo_201, lo_202, lo_203, jp_nn, jp_eq, jp_e1, Classical.not_not, ji0, ji1, ji2, cs17_54, kk_54, cs17_84, kk_84, jl_0, jl_1, jl_2, jl_3, jl_4, jl_5, jl_6, jl_7, jl_8, jl_9, jl_10, jl_11, jl_12, jl_13, jl_14, jl_15, jl_16, jl_17, jl_18, jl_19, jl_20, jl_21, jl_22, jl_23, jl_24, jl_25, jl_26, jl_27, jl_28, jl_29, jl_30, jl_31, jl_32, jl_33, jl_34, jl_35, jl_36, jl_37, jl_38, jl_39, jl_40, jl_95, jl_96, jl_97, jl_98, jl_99, jl_100, jl_101, jl_102, jl_103, jl_104, jl_105, jl_106, jl_107, jl_108, jl_109, jl_110, jl_111, jl_112, jl_113, jl_114, jl_186, jl_1100, jr, ju, jpT, jpF, tnc, Nat.reduceEqDiff, reduceIte, and_false, false_and, not_true_eq_false, not_false_eq_true, or_false, gt_iff_lt, ge_iff_le, Int.lt_irrefl, Int.le_refl, rkn_k, yt']
      exact hQ
  · exact hQ.elim
theorem m_88 : BodyOK CS17 CS17 88 := fun av h Q hQ => by
  rw [cs17_88] at hQ
  unfold k88 at hQ
  split at hQ
  · rename_i o
    obtain ⟨rfl, l, O, d, m, hn, hQ⟩ := hQ
    show pS CS17 bb_88 [45] h _
    unfold bb_88
    simp only [qe_1, qe_3, qe_4, qe_5, qe_7, qe_72, qe_10, qe_102, qe_13, qe_14, qe_15, qe_16, qe_17, qe_18, qe_20, qe_22, qe_23, qe_21, qe_24, qe_25, qe_26, qe_27, qe_28, qe_30, qe_31, qe_32, qc_20, qc_22, qc_23, qc_21, qc_24, qc_25, qc_26, qc_27, qc_1, qc_3, qc_4, qc_7, qc_13, qc_28, qc_32, qs_1, qs_2, qs_3, qs_4, qs_5, qs_6, qs_9, qs_10, qs_11, qs_14, qs_15, qs_16, qs_27, qs_17, qs_18, qs_19, qs_20, qs_22, qs_23, qs_28, qs_25, qs_26, qs_7, qs_8, kc_1, kn_1, kc_2, kn_2, kc_3, kn_3, kc_4, kn_4, kc_5, kn_5, kc_6, kn_6, kc_7, kn_7, kc_8, kn_8, kc_9, kn_9, kc_10, kn_10, kc_11, kn_11, kc_12, kn_12, kc_13, kn_13, kc_14, kn_14, kc_15, kn_15, kc_16, kc_17, kc_18, kc_19, kc_20, kc_21, kc_22, kc_23, kc_30, kc_32, kc_40, kc_43, kc_45, kc_48, kc_52, kc_56, kc_57, kc_59, kc_60, kc_61, kc_63, kc_64, kc_72, kc_78, kc_97, kc_99, kc_122, kc_126, kc_128, kc_192, kc_200, kc_255, kc_999, kc_1000, kc_9999, kn_9999, kc_10000, kc_12345, kc_65536, kc_252645135, kc_858993459, kc_1103515245, kc_1431655765, kc_2147483647, kc_0, kc_24, kc_28, kc_37, kc_41, kc_42, kc_73, kc_91, kc_95, kc_96, kc_98, kc_100, kc_112, kc_125, kc_150, kc_162, kc_163, kc_168, kc_186, kc_190, kc_250, kc_355, kc_356, kc_404, kc_405, kc_429, kc_573, kc_1002, kc_1100, kc_1891, kc_2200, kc_4719, kc_4869, kc_4881, kc_5148, kc_19741, kc_25433, kc_320403, kc_628412, kc_629093, kc_660401, kc_679843, kc_918640, kc_979410, kc_1178088, kc_6232410, kc_24644941, kc_36238189, kc_38270444, kc_392531318, kc_425693491, kc_1342154595, kc_2147483648, kc_42328242873, kc_891704255789, kc_1722105685577, kc_1858726030364, ct_0, ct_1, ct_2, ct_3, ct_4, ct_5, cf_0, cf_1, cf_2, cf_3, cf_4, cf_5, w_ty6, w_ty7, m_sv, m_z0, m_hd, m_g0, m_gs, m_s0, m_ss, m_ap, m_an, forall_const, true_and, and_true, ne_eq, not_true_eq_false, not_false_eq_true, false_implies, true_implies, implies_true, eq_self, reduceCtorEq, Nat.reduceDiv, Nat.reduceMod, Int.reduceToNat, or_true, true_or, or_false, false_or, or_self, m_it, m_if, m_c1, m_01, m_02, m_03, m_04, m_10, m_12, m_13, m_14, m_20, m_21, m_23, m_24, m_30, m_31, m_32, m_34, m_40, m_41, m_42, m_43, Int.reduceLE, Int.reduceLT, Int.reduceGE, Int.reduceGT, Int.reduceNeg, Int.reduceAdd, Int.reduceSub, Int.reduceMul, Int.reduceEq, Int.reduceNe, Nat.reduceAdd, jun2, ro_0_0, ro_0_1, ro_0_2, ro_0_3, ro_0_4, ro_0_5, ro_0_6, ro_0_7, ro_0_8, ro_0_9, ro_0_10, ro_0_11, ro_0_12, ro_1_0, ro_1_1, ro_2_0, ro_4_0, ro_6_0, ro_6_1, ro_6_2, ro_6_3, ro_6_4, ro_6_5, ro_6_6, ro_6_7, ro_6_8, ro_8_0, ro_10_0, ro_12_0, ro_14_0, ro_16_0, ro_18_0, ro_20_0, ro_22_0, ro_22_1, ro_22_2, ro_23_0, ro_25_0, ro_27_0, ro_29_0, ro_29_1, ro_29_2, ro_29_3, ro_29_4, ro_29_5, ro_29_6, ro_29_7, ro_29_8, ro_31_0, ro_33_0, ro_35_0, ro_37_0, ro_39_0, ro_41_0, ro_43_0, ro_45_0, ro_45_1, ro_45_2, ro_46_0, ro_48_0, ro_50_0, ro_52_0, ro_52_1, ro_52_2, ro_52_3, ro_53_0, ro_55_0, ro_57_0, ro_59_0, ro_61_0, ro_61_1, ro_61_2, ro_61_3, ro_62_0, ro_64_0, ro_66_0, ro_68_0, ro_70_0, ro_70_1, ro_70_2, ro_70_3, ro_70_4, ro_70_5, ro_70_6, ro_70_7, ro_70_8, ro_70_9, ro_71_0, ro_73_0, ro_75_0, ro_77_0, ro_79_0, ro_81_0, ro_83_0, ro_85_0, ro_87_0, ro_89_0, ro_91_0, ro_91_1, ro_91_2, ro_91_3, ro_91_4, ro_91_5, ro_91_6, ro_91_7, ro_91_8, ro_91_9, ro_92_0, ro_94_0, ro_96_0, ro_98_0, ro_100_0, ro_102_0, ro_104_0, ro_106_0, ro_108_0, ro_110_0, ro_112_0, ro_112_1, ro_112_2, ro_112_3, ro_112_4, ro_112_5, ro_112_6, ro_112_7, ro_112_8, ro_112_9, ro_113_0, ro_115_0, ro_117_0, ro_119_0, ro_121_0, ro_123_0, ro_125_0, ro_127_0, ro_129_0, ro_131_0, ro_133_0, ro_133_1, ro_133_2, ro_133_3, ro_133_4, ro_133_5, ro_133_6, ro_133_7, ro_133_8, ro_133_9, ro_134_0, ro_136_0, ro_138_0, ro_140_0, ro_142_0, ro_144_0, ro_146_0, ro_148_0, ro_150_0, ro_152_0, ro_154_0, ro_155_0, ro_157_0, ro_157_1, ro_157_2, ro_157_3, ro_157_4, ro_157_5, ro_157_6, ro_157_7, ro_157_8, ro_157_9, ro_158_0, ro_160_0, ro_162_0, ro_164_0, ro_166_0, ro_168_0, ro_170_0, ro_172_0, ro_174_0, ro_176_0, ro_178_0, ro_180_0, ro_182_1, ro_182_4, ro_182_5, ro_182_6, ro_182_9, ro_182_10, ro_182_11, ro_182_13, ro_182_14, ro_182_15, ro_182_16, ro_182_17, ro_182_20, ro_182_21, ro_182_22, ro_182_23, ro_182_24, ro_182_26, ro_182_27, ro_182_28, lo_3, lo_5, lo_7, lo_9, lo_11, lo_13, lo_15, lo_17, lo_19, lo_21, lo_24, lo_26, lo_28, lo_30, lo_32, lo_34, lo_36, lo_38, lo_40, lo_42, lo_44, lo_47, lo_49, lo_51, lo_54, lo_56, lo_58, lo_60, lo_63, lo_65, lo_67, lo_69, lo_72, lo_74, lo_76, lo_78, lo_80, lo_82, lo_84, lo_86, lo_88, lo_90, lo_93, lo_95, lo_97, lo_99, lo_101, lo_103, lo_105, lo_107, lo_109, lo_111, lo_114, lo_116, lo_118, lo_120, lo_122, lo_124, lo_126, lo_128, lo_130, lo_132, lo_135, lo_137, lo_139, lo_141, lo_143, lo_145, lo_147, lo_149, lo_151, lo_153, lo_156, lo_159, lo_161, lo_163, lo_165, lo_167, lo_169, lo_171, lo_173, lo_175, lo_177, lo_179, lo_181, lo_183, lo_184, lo_185, lo_186, lo_187, lo_188, lo_189, lo_190, lo_191, lo_192, lo_193, lo_194, lo_195, lo_196, lo_197, lo_198, lo_199, lo_200, lo_201, lo_202, lo_203, jp_nn, jp_eq, jp_e1, Classical.not_not, ji0, ji1, ji2, cs17_91, kk_91, jl_0, jl_1, jl_2, jl_3, jl_4, jl_5, jl_6, jl_7, jl_8, jl_9, jl_10, jl_11, jl_12, jl_13, jl_14, jl_15, jl_16, jl_17, jl_18, jl_19, jl_20, jl_21, jl_22, jl_23, jl_24, jl_25, jl_26, jl_27, jl_28, jl_29, jl_30, jl_31, jl_32, jl_33, jl_34, jl_35, jl_36, jl_37, jl_38, jl_39, jl_40, jl_95, jl_96, jl_97, jl_98, jl_99, jl_100, jl_101, jl_102, jl_103, jl_104, jl_105, jl_106, jl_107, jl_108, jl_109, jl_110, jl_111, jl_112, jl_113, jl_114, jl_186, jl_1100, jr, ju, jpT, jpF, tnc, Nat.reduceEqDiff, reduceIte, and_false, false_and, not_true_eq_false, not_false_eq_true, or_false, gt_iff_lt, ge_iff_le, Int.lt_irrefl, Int.le_refl]
    exact ⟨1, l, O, d, rfl, Nat.le_refl _, m, hn, hQ⟩
  · exact hQ.elim
theorem m_86 : BodyOK CS17 CS17 86 := fun av h Q hQ => by
  rw [cs17_86] at hQ
  unfold k86 at hQ
  split at hQ
  · rename_i o t
    obtain ⟨rfl, l, O, d, m, hl, hn, hd_w, hd2, q1_w, q2_w⟩ := hQ
    show pS CS17 bb_86 [45, t] h _
    by_cases y : t = -5 ∨ t = -13
    · have q := q1_w y
      have fin_w : ∃ (l O : List Int) (d : Int), LM l O d h ∧ l.length < 64 ∧ ∀ h', FW h h' → LM (t :: l) O d h' → Q 1 [1] (j_up h' 45 5 (j32 (h' 45 5 + 1))) := by
        refine ⟨l, O, d, m, hl, fun h1 f1_w m1_w => ?_⟩
        have m5_w : h1 45 5 = d := m1_w.2.2
        have e5_w : j32 (d + 1) = d + 1 := j32_id (by omega) (by omega)
        rw [m5_w, e5_w]
        exact q _ (f1_w.tr (FW.up (by omega))) m1_w.dep
      rcases y with rfl | rfl
      · unfold bb_86
        simp only [qe_1, qe_3, qe_4, qe_5, qe_7, qe_72, qe_10, qe_102, qe_13, qe_14, qe_15, qe_16, qe_17, qe_18, qe_20, qe_22, qe_23, qe_21, qe_24, qe_25, qe_26, qe_27, qe_28, qe_30, qe_31, qe_32, qc_20, qc_22, qc_23, qc_21, qc_24, qc_25, qc_26, qc_27, qc_1, qc_3, qc_4, qc_7, qc_13, qc_28, qc_32, qs_1, qs_2, qs_3, qs_4, qs_5, qs_6, qs_9, qs_10, qs_11, qs_14, qs_15, qs_16, qs_27, qs_17, qs_18, qs_19, qs_20, qs_22, qs_23, qs_28, qs_25, qs_26, qs_7, qs_8, kc_1, kn_1, kc_2, kn_2, kc_3, kn_3, kc_4, kn_4, kc_5, kn_5, kc_6, kn_6, kc_7, kn_7, kc_8, kn_8, kc_9, kn_9, kc_10, kn_10, kc_11, kn_11, kc_12, kn_12, kc_13, kn_13, kc_14, kn_14, kc_15, kn_15, kc_16, kc_17, kc_18, kc_19, kc_20, kc_21, kc_22, kc_23, kc_30, kc_32, kc_40, kc_43, kc_45, kc_48, kc_52, kc_56, kc_57, kc_59, kc_60, kc_61, kc_63, kc_64, kc_72, kc_78, kc_97, kc_99, kc_122, kc_126, kc_128, kc_192, kc_200, kc_255, kc_999, kc_1000, kc_9999, kn_9999, kc_10000, kc_12345, kc_65536, kc_252645135, kc_858993459, kc_1103515245, kc_1431655765, kc_2147483647, kc_0, kc_24, kc_28, kc_37, kc_41, kc_42, kc_73, kc_91, kc_95, kc_96, kc_98, kc_100, kc_112, kc_125, kc_150, kc_162, kc_163, kc_168, kc_186, kc_190, kc_250, kc_355, kc_356, kc_404, kc_405, kc_429, kc_573, kc_1002, kc_1100, kc_1891, kc_2200, kc_4719, kc_4869, kc_4881, kc_5148, kc_19741, kc_25433, kc_320403, kc_628412, kc_629093, kc_660401, kc_679843, kc_918640, kc_979410, kc_1178088, kc_6232410, kc_24644941, kc_36238189, kc_38270444, kc_392531318, kc_425693491, kc_1342154595, kc_2147483648, kc_42328242873, kc_891704255789, kc_1722105685577, kc_1858726030364, ct_0, ct_1, ct_2, ct_3, ct_4, ct_5, cf_0, cf_1, cf_2, cf_3, cf_4, cf_5, w_ty6, w_ty7, m_sv, m_z0, m_hd, m_g0, m_gs, m_s0, m_ss, m_ap, m_an, forall_const, true_and, and_true, ne_eq, not_true_eq_false, not_false_eq_true, false_implies, true_implies, implies_true, eq_self, reduceCtorEq, Nat.reduceDiv, Nat.reduceMod, Int.reduceToNat, or_true, true_or, or_false, false_or, or_self, m_it, m_if, m_c1, m_01, m_02, m_03, m_04, m_10, m_12, m_13, m_14, m_20, m_21, m_23, m_24, m_30, m_31, m_32, m_34, m_40, m_41, m_42, m_43, Int.reduceLE, Int.reduceLT, Int.reduceGE, Int.reduceGT, Int.reduceNeg, Int.reduceAdd, Int.reduceSub, Int.reduceMul, Int.reduceEq, Int.reduceNe, Nat.reduceAdd, jun2, ro_0_0, ro_0_1, ro_0_2, ro_0_3, ro_0_4, ro_0_5, ro_0_6, ro_0_7, ro_0_8, ro_0_9, ro_0_10, ro_0_11, ro_0_12, ro_1_0, ro_1_1, ro_2_0, ro_4_0, ro_6_0, ro_6_1, ro_6_2, ro_6_3, ro_6_4, ro_6_5, ro_6_6, ro_6_7, ro_6_8, ro_8_0, ro_10_0, ro_12_0, ro_14_0, ro_16_0, ro_18_0, ro_20_0, ro_22_0, ro_22_1, ro_22_2, ro_23_0, ro_25_0, ro_27_0, ro_29_0, ro_29_1, ro_29_2, ro_29_3, ro_29_4, ro_29_5, ro_29_6, ro_29_7, ro_29_8, ro_31_0, ro_33_0, ro_35_0, ro_37_0, ro_39_0, ro_41_0, ro_43_0, ro_45_0, ro_45_1, ro_45_2, ro_46_0, ro_48_0, ro_50_0, ro_52_0, ro_52_1, ro_52_2, ro_52_3, ro_53_0, ro_55_0, ro_57_0, ro_59_0, ro_61_0, ro_61_1, ro_61_2, ro_61_3, ro_62_0, ro_64_0, ro_66_0, ro_68_0, ro_70_0, ro_70_1, ro_70_2, ro_70_3, ro_70_4, ro_70_5, ro_70_6, ro_70_7, ro_70_8, ro_70_9, ro_71_0, ro_73_0, ro_75_0, ro_77_0, ro_79_0, ro_81_0, ro_83_0, ro_85_0, ro_87_0, ro_89_0, ro_91_0, ro_91_1, ro_91_2, ro_91_3, ro_91_4, ro_91_5, ro_91_6, ro_91_7, ro_91_8, ro_91_9, ro_92_0, ro_94_0, ro_96_0, ro_98_0, ro_100_0, ro_102_0, ro_104_0, ro_106_0, ro_108_0, ro_110_0, ro_112_0, ro_112_1, ro_112_2, ro_112_3, ro_112_4, ro_112_5, ro_112_6, ro_112_7, ro_112_8, ro_112_9, ro_113_0, ro_115_0, ro_117_0, ro_119_0, ro_121_0, ro_123_0, ro_125_0, ro_127_0, ro_129_0, ro_131_0, ro_133_0, ro_133_1, ro_133_2, ro_133_3, ro_133_4, ro_133_5, ro_133_6, ro_133_7, ro_133_8, ro_133_9, ro_134_0, ro_136_0, ro_138_0, ro_140_0, ro_142_0, ro_144_0, ro_146_0, ro_148_0, ro_150_0, ro_152_0, ro_154_0, ro_155_0, ro_157_0, ro_157_1, ro_157_2, ro_157_3, ro_157_4, ro_157_5, ro_157_6, ro_157_7, ro_157_8, ro_157_9, ro_158_0, ro_160_0, ro_162_0, ro_164_0, ro_166_0, ro_168_0, ro_170_0, ro_172_0, ro_174_0, ro_176_0, ro_178_0, ro_180_0, ro_182_1, ro_182_4, ro_182_5, ro_182_6, ro_182_9, ro_182_10, ro_182_11, ro_182_13, ro_182_14, ro_182_15, ro_182_16, ro_182_17, ro_182_20, ro_182_21, ro_182_22, ro_182_23, ro_182_24, ro_182_26, ro_182_27, ro_182_28, lo_3, lo_5, lo_7, lo_9, lo_11, lo_13, lo_15, lo_17, lo_19, lo_21, lo_24, lo_26, lo_28, lo_30, lo_32, lo_34, lo_36, lo_38, lo_40, lo_42, lo_44, lo_47, lo_49, lo_51, lo_54, lo_56, lo_58, lo_60, lo_63, lo_65, lo_67, lo_69, lo_72, lo_74, lo_76, lo_78, lo_80, lo_82, lo_84, lo_86, lo_88, lo_90, lo_93, lo_95, lo_97, lo_99, lo_101, lo_103, lo_105, lo_107, lo_109, lo_111, lo_114, lo_116, lo_118, lo_120, lo_122, lo_124, lo_126, lo_128, lo_130, lo_132, lo_135, lo_137, lo_139, lo_141, lo_143, lo_145, lo_147, lo_149, lo_151, lo_153, lo_156, lo_159, lo_161, lo_163, lo_165, lo_167, lo_169, lo_171, lo_173, lo_175, lo_177, lo_179, lo_181, lo_183, lo_184, lo_185, lo_186, lo_187, lo_188, lo_189, lo_190, lo_191, lo_192, lo_193, lo_194, lo_195, lo_196, lo_197, lo_198, lo_199, lo_200, lo_201, lo_202, lo_203, jp_nn, jp_eq, jp_e1, Classical.not_not, ji0, ji1, ji2, cs17_55, kk_55, cs17_89, kk_89, cs17_90, kk_90, jl_0, jl_1, jl_2, jl_3, jl_4, jl_5, jl_6, jl_7, jl_8, jl_9, jl_10, jl_11, jl_12, jl_13, jl_14, jl_15, jl_16, jl_17, jl_18, jl_19, jl_20, jl_21, jl_22, jl_23, jl_24, jl_25, jl_26, jl_27, jl_28, jl_29, jl_30, jl_31, jl_32, jl_33, jl_34, jl_35, jl_36, jl_37, jl_38, jl_39, jl_40, jl_95, jl_96, jl_97, jl_98, jl_99, jl_100, jl_101, jl_102, jl_103, jl_104, jl_105, jl_106, jl_107, jl_108, jl_109, jl_110, jl_111, jl_112, jl_113, jl_114, jl_186, jl_1100, jr, ju, jpT, jpF, tnc, Nat.reduceEqDiff, reduceIte, and_false, false_and, not_true_eq_false, not_false_eq_true, or_false, gt_iff_lt, ge_iff_le, Int.lt_irrefl, Int.le_refl]
        exact fin_w
      · unfold bb_86
        simp only [qe_1, qe_3, qe_4, qe_5, qe_7, qe_72, qe_10, qe_102, qe_13, qe_14, qe_15, qe_16, qe_17, qe_18, qe_20, qe_22, qe_23, qe_21, qe_24, qe_25, qe_26, qe_27, qe_28, qe_30, qe_31, qe_32, qc_20, qc_22, qc_23, qc_21, qc_24, qc_25, qc_26, qc_27, qc_1, qc_3, qc_4, qc_7, qc_13, qc_28, qc_32, qs_1, qs_2, qs_3, qs_4, qs_5, qs_6, qs_9, qs_10, qs_11, qs_14, qs_15, qs_16, qs_27, qs_17, qs_18, qs_19, qs_20, qs_22, qs_23, qs_28, qs_25, qs_26, qs_7, qs_8, kc_1, kn_1, kc_2, kn_2, kc_3, kn_3, kc_4, kn_4, kc_5, kn_5, kc_6, kn_6, kc_7, kn_7, kc_8, kn_8, kc_9, kn_9, kc_10, kn_10, kc_11, kn_11, kc_12, kn_12, kc_13, kn_13, kc_14, kn_14, kc_15, kn_15, kc_16, kc_17, kc_18, kc_19, kc_20, kc_21, kc_22, kc_23, kc_30, kc_32, kc_40, kc_43, kc_45, kc_48, kc_52, kc_56, kc_57, kc_59, kc_60, kc_61, kc_63, kc_64, kc_72, kc_78, kc_97, kc_99, kc_122, kc_126, kc_128, kc_192, kc_200, kc_255, kc_999, kc_1000, kc_9999, kn_9999, kc_10000, kc_12345, kc_65536, kc_252645135, kc_858993459, kc_1103515245, kc_1431655765, kc_2147483647, kc_0, kc_24, kc_28, kc_37, kc_41, kc_42, kc_73, kc_91, kc_95, kc_96, kc_98, kc_100, kc_112, kc_125, kc_150, kc_162, kc_163, kc_168, kc_186, kc_190, kc_250, kc_355, kc_356, kc_404, kc_405, kc_429, kc_573, kc_1002, kc_1100, kc_1891, kc_2200, kc_4719, kc_4869, kc_4881, kc_5148, kc_19741, kc_25433, kc_320403, kc_628412, kc_629093, kc_660401, kc_679843, kc_918640, kc_979410, kc_1178088, kc_6232410, kc_24644941, kc_36238189, kc_38270444, kc_392531318, kc_425693491, kc_1342154595, kc_2147483648, kc_42328242873, kc_891704255789, kc_1722105685577, kc_1858726030364, ct_0, ct_1, ct_2, ct_3, ct_4, ct_5, cf_0, cf_1, cf_2, cf_3, cf_4, cf_5, w_ty6, w_ty7, m_sv, m_z0, m_hd, m_g0, m_gs, m_s0, m_ss, m_ap, m_an, forall_const, true_and, and_true, ne_eq, not_true_eq_false, not_false_eq_true, false_implies, true_implies, implies_true, eq_self, reduceCtorEq, Nat.reduceDiv, Nat.reduceMod, Int.reduceToNat, or_true, true_or, or_false, false_or, or_self, m_it, m_if, m_c1, m_01, m_02, m_03, m_04, m_10, m_12, m_13, m_14, m_20, m_21, m_23, m_24, m_30, m_31, m_32, m_34, m_40, m_41, m_42, m_43, Int.reduceLE, Int.reduceLT, Int.reduceGE, Int.reduceGT, Int.reduceNeg, Int.reduceAdd, Int.reduceSub, Int.reduceMul, Int.reduceEq, Int.reduceNe, Nat.reduceAdd, jun2, ro_0_0, ro_0_1, ro_0_2, ro_0_3, ro_0_4, ro_0_5, ro_0_6, ro_0_7, ro_0_8, ro_0_9, ro_0_10, ro_0_11, ro_0_12, ro_1_0, ro_1_1, ro_2_0, ro_4_0, ro_6_0, ro_6_1, ro_6_2, ro_6_3, ro_6_4, ro_6_5, ro_6_6, ro_6_7, ro_6_8, ro_8_0, ro_10_0, ro_12_0, ro_14_0, ro_16_0, ro_18_0, ro_20_0, ro_22_0, ro_22_1, ro_22_2, ro_23_0, ro_25_0, ro_27_0, ro_29_0, ro_29_1, ro_29_2, ro_29_3, ro_29_4, ro_29_5, ro_29_6, ro_29_7, ro_29_8, ro_31_0, ro_33_0, ro_35_0, ro_37_0, ro_39_0, ro_41_0, ro_43_0, ro_45_0, ro_45_1, ro_45_2, ro_46_0, ro_48_0, ro_50_0, ro_52_0, ro_52_1, ro_52_2, ro_52_3, ro_53_0, ro_55_0, ro_57_0, ro_59_0, ro_61_0, ro_61_1, ro_61_2, ro_61_3, ro_62_0, ro_64_0, ro_66_0, ro_68_0, ro_70_0, ro_70_1, ro_70_2, ro_70_3, ro_70_4, ro_70_5, ro_70_6, ro_70_7, ro_70_8, ro_70_9, ro_71_0, ro_73_0, ro_75_0, ro_77_0, ro_79_0, ro_81_0, ro_83_0, ro_85_0, ro_87_0, ro_89_0, ro_91_0, ro_91_1, ro_91_2, ro_91_3, ro_91_4, ro_91_5, ro_91_6, ro_91_7, ro_91_8, ro_91_9, ro_92_0, ro_94_0, ro_96_0, ro_98_0, ro_100_0, ro_102_0, ro_104_0, ro_106_0, ro_108_0, ro_110_0, ro_112_0, ro_112_1, ro_112_2, ro_112_3, ro_112_4, ro_112_5, ro_112_6, ro_112_7, ro_112_8, ro_112_9, ro_113_0, ro_115_0, ro_117_0, ro_119_0, ro_121_0, ro_123_0, ro_125_0, ro_127_0, ro_129_0, ro_131_0, ro_133_0, ro_133_1, ro_133_2, ro_133_3, ro_133_4, ro_133_5, ro_133_6, ro_133_7, ro_133_8, ro_133_9, ro_134_0, ro_136_0, ro_138_0, ro_140_0, ro_142_0, ro_144_0, ro_146_0, ro_148_0, ro_150_0, ro_152_0, ro_154_0, ro_155_0, ro_157_0, ro_157_1, ro_157_2, ro_157_3, ro_157_4, ro_157_5, ro_157_6, ro_157_7, ro_157_8, ro_157_9, ro_158_0, ro_160_0, ro_162_0, ro_164_0, ro_166_0, ro_168_0, ro_170_0, ro_172_0, ro_174_0, ro_176_0, ro_178_0, ro_180_0, ro_182_1, ro_182_4, ro_182_5, ro_182_6, ro_182_9, ro_182_10, ro_182_11, ro_182_13, ro_182_14, ro_182_15, ro_182_16, ro_182_17, ro_182_20, ro_182_21, ro_182_22, ro_182_23, ro_182_24, ro_182_26, ro_182_27, ro_182_28, lo_3, lo_5, lo_7, lo_9, lo_11, lo_13, lo_15, lo_17, lo_19, lo_21, lo_24, lo_26, lo_28, lo_30, lo_32, lo_34, lo_36, lo_38, lo_40, lo_42, lo_44, lo_47, lo_49, lo_51, lo_54, lo_56, lo_58, lo_60, lo_63, lo_65, lo_67, lo_69, lo_72, lo_74, lo_76, lo_78, lo_80, lo_82, lo_84, lo_86, lo_88, lo_90, lo_93, lo_95, lo_97, lo_99, lo_101, lo_103, lo_105, lo_107, lo_109, lo_111, lo_114, lo_116, lo_118, lo_120, lo_122, lo_124, lo_126, lo_128, lo_130, lo_132, lo_135, lo_137, lo_139, lo_141, lo_143, lo_145, lo_147, lo_149, lo_151, lo_153, lo_156, lo_159, lo_161, lo_163, lo_165, lo_167, lo_169, lo_171, lo_173, lo_175, lo_177, lo_179, lo_181, lo_183, lo_184, lo_185, lo_186, lo_187, lo_188, lo_189, lo_190, lo_191, lo_192, lo_193, lo_194, lo_195, lo_196, lo_197, lo_198, lo_199, lo_200, lo_201, lo_202, lo_203, jp_nn, jp_eq, jp_e1, Classical.not_not, ji0, ji1, ji2, cs17_55, kk_55, cs17_89, kk_89, cs17_90, kk_90, jl_0, jl_1, jl_2, jl_3, jl_4, jl_5, jl_6, jl_7, jl_8, jl_9, jl_10, jl_11, jl_12, jl_13, jl_14, jl_15, jl_16, jl_17, jl_18, jl_19, jl_20, jl_21, jl_22, jl_23, jl_24, jl_25, jl_26, jl_27, jl_28, jl_29, jl_30, jl_31, jl_32, jl_33, jl_34, jl_35, jl_36, jl_37, jl_38, jl_39, jl_40, jl_95, jl_96, jl_97, jl_98, jl_99, jl_100, jl_101, jl_102, jl_103, jl_104, jl_105, jl_106, jl_107, jl_108, jl_109, jl_110, jl_111, jl_112, jl_113, jl_114, jl_186, jl_1100, jr, ju, jpT, jpF, tnc, Nat.reduceEqDiff, reduceIte, and_false, false_and, not_true_eq_false, not_false_eq_true, or_false, gt_iff_lt, ge_iff_le, Int.lt_irrefl, Int.le_refl]
        exact fin_w
    · obtain ⟨c, rfl, q⟩ := q2_w y
      have y5 : ¬ cst c = -5 := fun z => y (Or.inl z)
      have y13 : ¬ cst c = -13 := fun z => y (Or.inr z)
      have m3_w : h 45 3 = (O.length : Int) := m.2.1.1
      have s3_w : ∀ {v : Int}, rs h 46 (O.length : Int) v = j_up h 47 O.length v := fun {v} => rs46 (by omega)
      have ek := jk1 (k := O.length) (by omega)
      unfold bb_86
      simp only [qe_1, qe_3, qe_4, qe_5, qe_7, qe_72, qe_10, qe_102, qe_13, qe_14, qe_15, qe_16, qe_17, qe_18, qe_20, qe_22, qe_23, qe_21, qe_24, qe_25, qe_26, qe_27, qe_28, qe_30, qe_31, qe_32, qc_20, qc_22, qc_23, qc_21, qc_24, qc_25, qc_26, qc_27, qc_1, qc_3, qc_4, qc_7, qc_13, qc_28, qc_32, qs_1, qs_2, qs_3, qs_4, qs_5, qs_6, qs_9, qs_10, qs_11, qs_14, qs_15, qs_16, qs_27, qs_17, qs_18, qs_19, qs_20, qs_22, qs_23, qs_28, qs_25, qs_26, qs_7, qs_8, kc_1, kn_1, kc_2, kn_2, kc_3, kn_3, kc_4, kn_4, kc_5, kn_5, kc_6, kn_6, kc_7, kn_7, kc_8, kn_8, kc_9, kn_9, kc_10, kn_10, kc_11, kn_11, kc_12, kn_12, kc_13, kn_13, kc_14, kn_14, kc_15, kn_15, kc_16, kc_17, kc_18, kc_19, kc_20, kc_21, kc_22, kc_23, kc_30, kc_32, kc_40, kc_43, kc_45, kc_48, kc_52, kc_56, kc_57, kc_59, kc_60, kc_61, kc_63, kc_64, kc_72, kc_78, kc_97, kc_99, kc_122, kc_126, kc_128, kc_192, kc_200, kc_255, kc_999, kc_1000, kc_9999, kn_9999, kc_10000, kc_12345, kc_65536, kc_252645135, kc_858993459, kc_1103515245, kc_1431655765, kc_2147483647, kc_0, kc_24, kc_28, kc_37, kc_41, kc_42, kc_73, kc_91, kc_95, kc_96, kc_98, kc_100, kc_112, kc_125, kc_150, kc_162, kc_163, kc_168, kc_186, kc_190, kc_250, kc_355, kc_356, kc_404, kc_405, kc_429, kc_573, kc_1002, kc_1100, kc_1891, kc_2200, kc_4719, kc_4869, kc_4881, kc_5148, kc_19741, kc_25433, kc_320403, kc_628412, kc_629093, kc_660401, kc_679843, kc_918640, kc_979410, kc_1178088, kc_6232410, kc_24644941, kc_36238189, kc_38270444, kc_392531318, kc_425693491, kc_1342154595, kc_2147483648, kc_42328242873, kc_891704255789, kc_1722105685577, kc_1858726030364, ct_0, ct_1, ct_2, ct_3, ct_4, ct_5, cf_0, cf_1, cf_2, cf_3, cf_4, cf_5, w_ty6, w_ty7, m_sv, m_z0, m_hd, m_g0, m_gs, m_s0, m_ss, m_ap, m_an, forall_const, true_and, and_true, ne_eq, not_true_eq_false, not_false_eq_true, false_implies, true_implies, implies_true, eq_self, reduceCtorEq, Nat.reduceDiv, Nat.reduceMod, Int.reduceToNat, or_true, true_or, or_false, false_or, or_self, m_it, m_if, m_c1, m_01, m_02, m_03, m_04, m_10, m_12, m_13, m_14, m_20, m_21, m_23, m_24, m_30, m_31, m_32, m_34, m_40, m_41, m_42, m_43, Int.reduceLE, Int.reduceLT, Int.reduceGE, Int.reduceGT, Int.reduceNeg, Int.reduceAdd, Int.reduceSub, Int.reduceMul, Int.reduceEq, Int.reduceNe, Nat.reduceAdd, jun2, ro_0_0, ro_0_1, ro_0_2, ro_0_3, ro_0_4, ro_0_5, ro_0_6, ro_0_7, ro_0_8, ro_0_9, ro_0_10, ro_0_11, ro_0_12, ro_1_0, ro_1_1, ro_2_0, ro_4_0, ro_6_0, ro_6_1, ro_6_2, ro_6_3, ro_6_4, ro_6_5, ro_6_6, ro_6_7, ro_6_8, ro_8_0, ro_10_0, ro_12_0, ro_14_0, ro_16_0, ro_18_0, ro_20_0, ro_22_0, ro_22_1, ro_22_2, ro_23_0, ro_25_0, ro_27_0, ro_29_0, ro_29_1, ro_29_2, ro_29_3, ro_29_4, ro_29_5, ro_29_6, ro_29_7, ro_29_8, ro_31_0, ro_33_0, ro_35_0, ro_37_0, ro_39_0, ro_41_0, ro_43_0, ro_45_0, ro_45_1, ro_45_2, ro_46_0, ro_48_0, ro_50_0, ro_52_0, ro_52_1, ro_52_2, ro_52_3, ro_53_0, ro_55_0, ro_57_0, ro_59_0, ro_61_0, ro_61_1, ro_61_2, ro_61_3, ro_62_0, ro_64_0, ro_66_0, ro_68_0, ro_70_0, ro_70_1, ro_70_2, ro_70_3, ro_70_4, ro_70_5, ro_70_6, ro_70_7, ro_70_8, ro_70_9, ro_71_0, ro_73_0, ro_75_0, ro_77_0, ro_79_0, ro_81_0, ro_83_0, ro_85_0, ro_87_0, ro_89_0, ro_91_0, ro_91_1, ro_91_2, ro_91_3, ro_91_4, ro_91_5, ro_91_6, ro_91_7, ro_91_8, ro_91_9, ro_92_0, ro_94_0, ro_96_0, ro_98_0, ro_100_0, ro_102_0, ro_104_0, ro_106_0, ro_108_0, ro_110_0, ro_112_0, ro_112_1, ro_112_2, ro_112_3, ro_112_4, ro_112_5, ro_112_6, ro_112_7, ro_112_8, ro_112_9, ro_113_0, ro_115_0, ro_117_0, ro_119_0, ro_121_0, ro_123_0, ro_125_0, ro_127_0, ro_129_0, ro_131_0, ro_133_0, ro_133_1, ro_133_2, ro_133_3, ro_133_4, ro_133_5, ro_133_6, ro_133_7, ro_133_8, ro_133_9, ro_134_0, ro_136_0, ro_138_0, ro_140_0, ro_142_0, ro_144_0, ro_146_0, ro_148_0, ro_150_0, ro_152_0, ro_154_0, ro_155_0, ro_157_0, ro_157_1, ro_157_2, ro_157_3, ro_157_4, ro_157_5, ro_157_6, ro_157_7, ro_157_8, ro_157_9, ro_158_0, ro_160_0, ro_162_0, ro_164_0, ro_166_0, ro_168_0, ro_170_0, ro_172_0, ro_174_0, ro_176_0, ro_178_0, ro_180_0, ro_182_1, ro_182_4, ro_182_5, ro_182_6, ro_182_9, ro_182_10, ro_182_11, ro_182_13, ro_182_14, ro_182_15, ro_182_16, ro_182_17, ro_182_20, ro_182_21, ro_182_22, ro_182_23, ro_182_24, ro_182_26, ro_182_27, ro_182_28, lo_3, lo_5, lo_7, lo_9, lo_11, lo_13, lo_15, lo_17, lo_19, lo_21, lo_24, lo_26, lo_28, lo_30, lo_32, lo_34, lo_36, lo_38, lo_40, lo_42, lo_44, lo_47, lo_49, lo_51, lo_54, lo_56, lo_58, lo_60, lo_63, lo_65, lo_67, lo_69, lo_72, lo_74, lo_76, lo_78, lo_80, lo_82, lo_84, lo_86, lo_88, lo_90, lo_93, lo_95, lo_97, lo_99, lo_101, lo_103, lo_105, lo_107, lo_109, lo_111, lo_114, lo_116, lo_118, lo_120, lo_122, lo_124, lo_126, lo_128, lo_130, lo_132, lo_135, lo_137, lo_139, lo_141, lo_143, lo_145, lo_147, lo_149, lo_151, lo_153, lo_156, lo_159, lo_161, lo_163, lo_165, lo_167, lo_169, lo_171, lo_173, lo_175, lo_177, lo_179, lo_181, lo_183, lo_184, lo_185, lo_186, lo_187, lo_188, lo_189, lo_190, lo_191, lo_192, lo_193, lo_194, lo_195, lo_196, lo_197, lo_198, lo_199, lo_200, lo_201, lo_202, lo_203, jp_nn, jp_eq, jp_e1, Classical.not_not, ji0, ji1, ji2, cs17_55, kk_55, cs17_89, kk_89, cs17_90, kk_90, jl_0, jl_1, jl_2, jl_3, jl_4, jl_5, jl_6, jl_7, jl_8, jl_9, jl_10, jl_11, jl_12, jl_13, jl_14, jl_15, jl_16, jl_17, jl_18, jl_19, jl_20, jl_21, jl_22, jl_23, jl_24, jl_25, jl_26, jl_27, jl_28, jl_29, jl_30, jl_31, jl_32, jl_33, jl_34, jl_35, jl_36, jl_37, jl_38, jl_39, jl_40, jl_95, jl_96, jl_97, jl_98, jl_99, jl_100, jl_101, jl_102, jl_103, jl_104, jl_105, jl_106, jl_107, jl_108, jl_109, jl_110, jl_111, jl_112, jl_113, jl_114, jl_186, jl_1100, jr, ju, jpT, jpF, tnc, Nat.reduceEqDiff, reduceIte, and_false, false_and, not_true_eq_false, not_false_eq_true, or_false, gt_iff_lt, ge_iff_le, Int.lt_irrefl, Int.le_refl, y5, y13, m3_w, s3_w, ek]
      refine ⟨l, O ++ [c], d, m.out (by omega), ?_, hd_w, by omega, fun h1 f1_w m1_w => q h1 (((FW.up (by omega)).tr (FW.up (by omega))).tr f1_w) m1_w⟩
      rw [List.length_append]
      show O.length + 1 + l.length ≤ 1000
      omega
  · exact hQ.elim
theorem m_87 : BodyOK CS17 CS17 87 := fun av h Q hQ => by
  rw [cs17_87] at hQ
  unfold k87 at hQ
  split at hQ
  · rename_i o t
    obtain ⟨rfl, l, O, d, m, hl, hn, hd2, q1_w, q2_w⟩ := hQ
    show pS CS17 bb_87 [45, t] h _
    by_cases y : t = -14
    · obtain ⟨w, l2, e2_w, hd_w, q⟩ := q1_w y
      unfold bb_87
      simp only [qe_1, qe_3, qe_4, qe_5, qe_7, qe_72, qe_10, qe_102, qe_13, qe_14, qe_15, qe_16, qe_17, qe_18, qe_20, qe_22, qe_23, qe_21, qe_24, qe_25, qe_26, qe_27, qe_28, qe_30, qe_31, qe_32, qc_20, qc_22, qc_23, qc_21, qc_24, qc_25, qc_26, qc_27, qc_1, qc_3, qc_4, qc_7, qc_13, qc_28, qc_32, qs_1, qs_2, qs_3, qs_4, qs_5, qs_6, qs_9, qs_10, qs_11, qs_14, qs_15, qs_16, qs_27, qs_17, qs_18, qs_19, qs_20, qs_22, qs_23, qs_28, qs_25, qs_26, qs_7, qs_8, kc_1, kn_1, kc_2, kn_2, kc_3, kn_3, kc_4, kn_4, kc_5, kn_5, kc_6, kn_6, kc_7, kn_7, kc_8, kn_8, kc_9, kn_9, kc_10, kn_10, kc_11, kn_11, kc_12, kn_12, kc_13, kn_13, kc_14, kn_14, kc_15, kn_15, kc_16, kc_17, kc_18, kc_19, kc_20, kc_21, kc_22, kc_23, kc_30, kc_32, kc_40, kc_43, kc_45, kc_48, kc_52, kc_56, kc_57, kc_59, kc_60, kc_61, kc_63, kc_64, kc_72, kc_78, kc_97, kc_99, kc_122, kc_126, kc_128, kc_192, kc_200, kc_255, kc_999, kc_1000, kc_9999, kn_9999, kc_10000, kc_12345, kc_65536, kc_252645135, kc_858993459, kc_1103515245, kc_1431655765, kc_2147483647, kc_0, kc_24, kc_28, kc_37, kc_41, kc_42, kc_73, kc_91, kc_95, kc_96, kc_98, kc_100, kc_112, kc_125, kc_150, kc_162, kc_163, kc_168, kc_186, kc_190, kc_250, kc_355, kc_356, kc_404, kc_405, kc_429, kc_573, kc_1002, kc_1100, kc_1891, kc_2200, kc_4719, kc_4869, kc_4881, kc_5148, kc_19741, kc_25433, kc_320403, kc_628412, kc_629093, kc_660401, kc_679843, kc_918640, kc_979410, kc_1178088, kc_6232410, kc_24644941, kc_36238189, kc_38270444, kc_392531318, kc_425693491, kc_1342154595, kc_2147483648, kc_42328242873, kc_891704255789, kc_1722105685577, kc_1858726030364, ct_0, ct_1, ct_2, ct_3, ct_4, ct_5, cf_0, cf_1, cf_2, cf_3, cf_4, cf_5, w_ty6, w_ty7, m_sv, m_z0, m_hd, m_g0, m_gs, m_s0, m_ss, m_ap, m_an, forall_const, true_and, and_true, ne_eq, not_true_eq_false, not_false_eq_true, false_implies, true_implies, implies_true, eq_self, reduceCtorEq, Nat.reduceDiv, Nat.reduceMod, Int.reduceToNat, or_true, true_or, or_false, false_or, or_self, m_it, m_if, m_c1, m_01, m_02, m_03, m_04, m_10, m_12, m_13, m_14, m_20, m_21, m_23, m_24, m_30, m_31, m_32, m_34, m_40, m_41, m_42, m_43, Int.reduceLE, Int.reduceLT, Int.reduceGE, Int.reduceGT, Int.reduceNeg, Int.reduceAdd, Int.reduceSub, Int.reduceMul, Int.reduceEq, Int.reduceNe, Nat.reduceAdd, jun2, ro_0_0, ro_0_1, ro_0_2, ro_0_3, ro_0_4, ro_0_5, ro_0_6, ro_0_7, ro_0_8, ro_0_9, ro_0_10, ro_0_11, ro_0_12, ro_1_0, ro_1_1, ro_2_0, ro_4_0, ro_6_0, ro_6_1, ro_6_2, ro_6_3, ro_6_4, ro_6_5, ro_6_6, ro_6_7, ro_6_8, ro_8_0, ro_10_0, ro_12_0, ro_14_0, ro_16_0, ro_18_0, ro_20_0, ro_22_0, ro_22_1, ro_22_2, ro_23_0, ro_25_0, ro_27_0, ro_29_0, ro_29_1, ro_29_2, ro_29_3, ro_29_4, ro_29_5, ro_29_6, ro_29_7, ro_29_8, ro_31_0, ro_33_0, ro_35_0, ro_37_0, ro_39_0, ro_41_0, ro_43_0, ro_45_0, ro_45_1, ro_45_2, ro_46_0, ro_48_0, ro_50_0, ro_52_0, ro_52_1, ro_52_2, ro_52_3, ro_53_0, ro_55_0, ro_57_0, ro_59_0, ro_61_0, ro_61_1, ro_61_2, ro_61_3, ro_62_0, ro_64_0, ro_66_0, ro_68_0, ro_70_0, ro_70_1, ro_70_2, ro_70_3, ro_70_4, ro_70_5, ro_70_6, ro_70_7, ro_70_8, ro_70_9, ro_71_0, ro_73_0, ro_75_0, ro_77_0, ro_79_0, ro_81_0, ro_83_0, ro_85_0, ro_87_0, ro_89_0, ro_91_0, ro_91_1, ro_91_2, ro_91_3, ro_91_4, ro_91_5, ro_91_6, ro_91_7, ro_91_8, ro_91_9, ro_92_0, ro_94_0, ro_96_0, ro_98_0, ro_100_0, ro_102_0, ro_104_0, ro_106_0, ro_108_0, ro_110_0, ro_112_0, ro_112_1, ro_112_2, ro_112_3, ro_112_4, ro_112_5, ro_112_6, ro_112_7, ro_112_8, ro_112_9, ro_113_0, ro_115_0, ro_117_0, ro_119_0, ro_121_0, ro_123_0, ro_125_0, ro_127_0, ro_129_0, ro_131_0, ro_133_0, ro_133_1, ro_133_2, ro_133_3, ro_133_4, ro_133_5, ro_133_6, ro_133_7, ro_133_8, ro_133_9, ro_134_0, ro_136_0, ro_138_0, ro_140_0, ro_142_0, ro_144_0, ro_146_0, ro_148_0, ro_150_0, ro_152_0, ro_154_0, ro_155_0, ro_157_0, ro_157_1, ro_157_2, ro_157_3, ro_157_4, ro_157_5, ro_157_6, ro_157_7, ro_157_8, ro_157_9, ro_158_0, ro_160_0, ro_162_0, ro_164_0, ro_166_0, ro_168_0, ro_170_0, ro_172_0, ro_174_0, ro_176_0, ro_178_0, ro_180_0, ro_182_1, ro_182_4, ro_182_5, ro_182_6, ro_182_9, ro_182_10, ro_182_11, ro_182_13, ro_182_14, ro_182_15, ro_182_16, ro_182_17, ro_182_20, ro_182_21, ro_182_22, ro_182_23, ro_182_24, ro_182_26, ro_182_27, ro_182_28, lo_3, lo_5, lo_7, lo_9, lo_11, lo_13, lo_15, lo_17, lo_19, lo_21, lo_24, lo_26, lo_28, lo_30, lo_32, lo_34, lo_36, lo_38, lo_40, lo_42, lo_44, lo_47, lo_49, lo_51, lo_54, lo_56, lo_58, lo_60, lo_63, lo_65, lo_67, lo_69, lo_72, lo_74, lo_76, lo_78, lo_80, lo_82, lo_84, lo_86, lo_88, lo_90, lo_93, lo_95, lo_97, lo_99, lo_101, lo_103, lo_105, lo_107, lo_109, lo_111, lo_114, lo_116, lo_118, lo_120, lo_122, lo_124, lo_126, lo_128, lo_130, lo_132, lo_135, lo_137, lo_139, lo_141, lo_143, lo_145, lo_147, lo_149, lo_151, lo_153, lo_156, lo_159, lo_161, lo_163, lo_165, lo_167, lo_169, lo_171, lo_173, lo_175, lo_177, lo_179, lo_181, lo_183, lo_184, lo_185, lo_186, lo_187, lo_188, lo_189, lo_190, lo_191, lo_192, lo_193, lo_194, lo_195, lo_196, lo_197, lo_198, lo_199, lo_200, lo_201, lo_202, lo_203, jp_nn, jp_eq, jp_e1, Classical.not_not, ji0, ji1, ji2, cs17_84, kk_84, cs17_89, kk_89, cs17_90, kk_90, cs17_91, kk_91, jl_0, jl_1, jl_2, jl_3, jl_4, jl_5, jl_6, jl_7, jl_8, jl_9, jl_10, jl_11, jl_12, jl_13, jl_14, jl_15, jl_16, jl_17, jl_18, jl_19, jl_20, jl_21, jl_22, jl_23, jl_24, jl_25, jl_26, jl_27, jl_28, jl_29, jl_30, jl_31, jl_32, jl_33, jl_34, jl_35, jl_36, jl_37, jl_38, jl_39, jl_40, jl_95, jl_96, jl_97, jl_98, jl_99, jl_100, jl_101, jl_102, jl_103, jl_104, jl_105, jl_106, jl_107, jl_108, jl_109, jl_110, jl_111, jl_112, jl_113, jl_114, jl_186, jl_1100, jr, ju, jpT, jpF, tnc, Nat.reduceEqDiff, reduceIte, and_false, false_and, not_true_eq_false, not_false_eq_true, or_false, gt_iff_lt, ge_iff_le, Int.lt_irrefl, Int.le_refl, y]
      refine ⟨1, l, O, d, rfl, Nat.le_refl _, m, by omega, fun h1 f1_w m1_w => ?_⟩
      rw [e2_w] at m1_w
      have hll : (w :: l2).length = l2.length + 1 := rfl
      have m4_w : h1 45 4 = ((w :: l2).length : Int) := m1_w.1.1
      have m5_w : h1 45 5 = d := m1_w.2.2
      have hl64 := m1_w.1.2.1
      have e4_w : j32 (((w :: l2).length : Int) - 1) = (l2.length : Int) := by
        rw [hll, j32_id (by omega) (by omega)]
        omega
      have e5_w : j32 (d - 1) = d - 1 := j32_id (by omega) (by omega)
      simp only [qe_1, qe_3, qe_4, qe_5, qe_7, qe_72, qe_10, qe_102, qe_13, qe_14, qe_15, qe_16, qe_17, qe_18, qe_20, qe_22, qe_23, qe_21, qe_24, qe_25, qe_26, qe_27, qe_28, qe_30, qe_31, qe_32, qc_20, qc_22, qc_23, qc_21, qc_24, qc_25, qc_26, qc_27, qc_1, qc_3, qc_4, qc_7, qc_13, qc_28, qc_32, qs_1, qs_2, qs_3, qs_4, qs_5, qs_6, qs_9, qs_10, qs_11, qs_14, qs_15, qs_16, qs_27, qs_17, qs_18, qs_19, qs_20, qs_22, qs_23, qs_28, qs_25, qs_26, qs_7, qs_8, kc_1, kn_1, kc_2, kn_2, kc_3, kn_3, kc_4, kn_4, kc_5, kn_5, kc_6, kn_6, kc_7, kn_7, kc_8, kn_8, kc_9, kn_9, kc_10, kn_10, kc_11, kn_11, kc_12, kn_12, kc_13, kn_13, kc_14, kn_14, kc_15, kn_15, kc_16, kc_17, kc_18, kc_19, kc_20, kc_21, kc_22, kc_23, kc_30, kc_32, kc_40, kc_43, kc_45, kc_48, kc_52, kc_56, kc_57, kc_59, kc_60, kc_61, kc_63, kc_64, kc_72, kc_78, kc_97, kc_99, kc_122, kc_126, kc_128, kc_192, kc_200, kc_255, kc_999, kc_1000, kc_9999, kn_9999, kc_10000, kc_12345, kc_65536, kc_252645135, kc_858993459, kc_1103515245, kc_1431655765, kc_2147483647, kc_0, kc_24, kc_28, kc_37, kc_41, kc_42, kc_73, kc_91, kc_95, kc_96, kc_98, kc_100, kc_112, kc_125, kc_150, kc_162, kc_163, kc_168, kc_186, kc_190, kc_250, kc_355, kc_356, kc_404, kc_405, kc_429, kc_573, kc_1002, kc_1100, kc_1891, kc_2200, kc_4719, kc_4869, kc_4881, kc_5148, kc_19741, kc_25433, kc_320403, kc_628412, kc_629093, kc_660401, kc_679843, kc_918640, kc_979410, kc_1178088, kc_6232410, kc_24644941, kc_36238189, kc_38270444, kc_392531318, kc_425693491, kc_1342154595, kc_2147483648, kc_42328242873, kc_891704255789, kc_1722105685577, kc_1858726030364, ct_0, ct_1, ct_2, ct_3, ct_4, ct_5, cf_0, cf_1, cf_2, cf_3, cf_4, cf_5, w_ty6, w_ty7, m_sv, m_z0, m_hd, m_g0, m_gs, m_s0, m_ss, m_ap, m_an, forall_const, true_and, and_true, ne_eq, not_true_eq_false, not_false_eq_true, false_implies, true_implies, implies_true, eq_self, reduceCtorEq, Nat.reduceDiv, Nat.reduceMod, Int.reduceToNat, or_true, true_or, or_false, false_or, or_self, m_it, m_if, m_c1, m_01, m_02, m_03, m_04, m_10, m_12, m_13, m_14, m_20, m_21, m_23, m_24, m_30, m_31, m_32, m_34, m_40, m_41, m_42, m_43, Int.reduceLE, Int.reduceLT, Int.reduceGE, Int.reduceGT, Int.reduceNeg, Int.reduceAdd, Int.reduceSub, Int.reduceMul, Int.reduceEq, Int.reduceNe, Nat.reduceAdd, jun2, ro_0_0, ro_0_1, ro_0_2, ro_0_3, ro_0_4, ro_0_5, ro_0_6, ro_0_7, ro_0_8, ro_0_9, ro_0_10, ro_0_11, ro_0_12, ro_1_0, ro_1_1, ro_2_0, ro_4_0, ro_6_0, ro_6_1, ro_6_2, ro_6_3, ro_6_4, ro_6_5, ro_6_6, ro_6_7, ro_6_8, ro_8_0, ro_10_0, ro_12_0, ro_14_0, ro_16_0, ro_18_0, ro_20_0, ro_22_0, ro_22_1, ro_22_2, ro_23_0, ro_25_0, ro_27_0, ro_29_0, ro_29_1, ro_29_2, ro_29_3, ro_29_4, ro_29_5, ro_29_6, ro_29_7, ro_29_8, ro_31_0, ro_33_0, ro_35_0, ro_37_0, ro_39_0, ro_41_0, ro_43_0, ro_45_0, ro_45_1, ro_45_2, ro_46_0, ro_48_0, ro_50_0, ro_52_0, ro_52_1, ro_52_2, ro_52_3, ro_53_0, ro_55_0, ro_57_0, ro_59_0, ro_61_0, ro_61_1, ro_61_2, ro_61_3, ro_62_0, ro_64_0, ro_66_0, ro_68_0, ro_70_0, ro_70_1, ro_70_2, ro_70_3, ro_70_4, ro_70_5, ro_70_6, ro_70_7, ro_70_8, ro_70_9, ro_71_0, ro_73_0, ro_75_0, ro_77_0, ro_79_0, ro_81_0, ro_83_0, ro_85_0, ro_87_0, ro_89_0, ro_91_0, ro_91_1, ro_91_2, ro_91_3, ro_91_4, ro_91_5, ro_91_6, ro_91_7, ro_91_8, ro_91_9, ro_92_0, ro_94_0, ro_96_0, ro_98_0, ro_100_0, ro_102_0, ro_104_0, ro_106_0, ro_108_0, ro_110_0, ro_112_0, ro_112_1, ro_112_2, ro_112_3, ro_112_4, ro_112_5, ro_112_6, ro_112_7, ro_112_8, ro_112_9, ro_113_0, ro_115_0, ro_117_0, ro_119_0, ro_121_0, ro_123_0, ro_125_0, ro_127_0, ro_129_0, ro_131_0, ro_133_0, ro_133_1, ro_133_2, ro_133_3, ro_133_4, ro_133_5, ro_133_6, ro_133_7, ro_133_8, ro_133_9, ro_134_0, ro_136_0, ro_138_0, ro_140_0, ro_142_0, ro_144_0, ro_146_0, ro_148_0, ro_150_0, ro_152_0, ro_154_0, ro_155_0, ro_157_0, ro_157_1, ro_157_2, ro_157_3, ro_157_4, ro_157_5, ro_157_6, ro_157_7, ro_157_8, ro_157_9, ro_158_0, ro_160_0, ro_162_0, ro_164_0, ro_166_0, ro_168_0, ro_170_0, ro_172_0, ro_174_0, ro_176_0, ro_178_0, ro_180_0, ro_182_1, ro_182_4, ro_182_5, ro_182_6, ro_182_9, ro_182_10, ro_182_11, ro_182_13, ro_182_14, ro_182_15, ro_182_16, ro_182_17, ro_182_20, ro_182_21, ro_182_22, ro_182_23, ro_182_24, ro_182_26, ro_182_27, ro_182_28, lo_3, lo_5, lo_7, lo_9, lo_11, lo_13, lo_15, lo_17, lo_19, lo_21, lo_24, lo_26, lo_28, lo_30, lo_32, lo_34, lo_36, lo_38, lo_40, lo_42, lo_44, lo_47, lo_49, lo_51, lo_54, lo_56, lo_58, lo_60, lo_63, lo_65, lo_67, lo_69, lo_72, lo_74, lo_76, lo_78, lo_80, lo_82, lo_84, lo_86, lo_88, lo_90, lo_93, lo_95, lo_97, lo_99, lo_101, lo_103, lo_105, lo_107, lo_109, lo_111, lo_114, lo_116, lo_118, lo_120, lo_122, lo_124, lo_126, lo_128, lo_130, lo_132, lo_135, lo_137, lo_139, lo_141, lo_143, lo_145, lo_147, lo_149, lo_151, lo_153, lo_156, lo_159, lo_161, lo_163, lo_165, lo_167, lo_169, lo_171, lo_173, lo_175, lo_177, lo_179, lo_181, lo_183, lo_184, lo_185, lo_186, lo_187, lo_188, lo_189, lo_190, lo_191, lo_192, lo_193, lo_194, lo_195, lo_196, lo_197, lo_198, lo_199, lo_200, lo_201, lo_202, lo_203, jp_nn, jp_eq, jp_e1, Classical.not_not, ji0, ji1, ji2, cs17_84, kk_84, cs17_89, kk_89, cs17_90, kk_90, cs17_91, kk_91, jl_0, jl_1, jl_2, jl_3, jl_4, jl_5, jl_6, jl_7, jl_8, jl_9, jl_10, jl_11, jl_12, jl_13, jl_14, jl_15, jl_16, jl_17, jl_18, jl_19, jl_20, jl_21, jl_22, jl_23, jl_24, jl_25, jl_26, jl_27, jl_28, jl_29, jl_30, jl_31, jl_32, jl_33, jl_34, jl_35, jl_36, jl_37, jl_38, jl_39, jl_40, jl_95, jl_96, jl_97, jl_98, jl_99, jl_100, jl_101, jl_102, jl_103, jl_104, jl_105, jl_106, jl_107, jl_108, jl_109, jl_110, jl_111, jl_112, jl_113, jl_114, jl_186, jl_1100, jr, ju, jpT, jpF, tnc, Nat.reduceEqDiff, reduceIte, and_false, false_and, not_true_eq_false, not_false_eq_true, or_false, gt_iff_lt, ge_iff_le, Int.lt_irrefl, Int.le_refl, m4_w, m5_w, e4_w, e5_w]
      refine ⟨l2, O ++ rlo 1 l, d - 1, m1_w.pop.dep, ?_, by omega, by omega, fun h2 f2_w m2_w => q h2 ((f1_w.tr ((FW.up (by omega)).tr (FW.up (by omega)))).tr f2_w) m2_w⟩
      have := rl_len 1 l
      rw [e2_w] at this
      rw [List.length_append]
      omega
    · obtain ⟨r1_w, q⟩ := q2_w y
      unfold bb_87
      simp only [qe_1, qe_3, qe_4, qe_5, qe_7, qe_72, qe_10, qe_102, qe_13, qe_14, qe_15, qe_16, qe_17, qe_18, qe_20, qe_22, qe_23, qe_21, qe_24, qe_25, qe_26, qe_27, qe_28, qe_30, qe_31, qe_32, qc_20, qc_22, qc_23, qc_21, qc_24, qc_25, qc_26, qc_27, qc_1, qc_3, qc_4, qc_7, qc_13, qc_28, qc_32, qs_1, qs_2, qs_3, qs_4, qs_5, qs_6, qs_9, qs_10, qs_11, qs_14, qs_15, qs_16, qs_27, qs_17, qs_18, qs_19, qs_20, qs_22, qs_23, qs_28, qs_25, qs_26, qs_7, qs_8, kc_1, kn_1, kc_2, kn_2, kc_3, kn_3, kc_4, kn_4, kc_5, kn_5, kc_6, kn_6, kc_7, kn_7, kc_8, kn_8, kc_9, kn_9, kc_10, kn_10, kc_11, kn_11, kc_12, kn_12, kc_13, kn_13, kc_14, kn_14, kc_15, kn_15, kc_16, kc_17, kc_18, kc_19, kc_20, kc_21, kc_22, kc_23, kc_30, kc_32, kc_40, kc_43, kc_45, kc_48, kc_52, kc_56, kc_57, kc_59, kc_60, kc_61, kc_63, kc_64, kc_72, kc_78, kc_97, kc_99, kc_122, kc_126, kc_128, kc_192, kc_200, kc_255, kc_999, kc_1000, kc_9999, kn_9999, kc_10000, kc_12345, kc_65536, kc_252645135, kc_858993459, kc_1103515245, kc_1431655765, kc_2147483647, kc_0, kc_24, kc_28, kc_37, kc_41, kc_42, kc_73, kc_91, kc_95, kc_96, kc_98, kc_100, kc_112, kc_125, kc_150, kc_162, kc_163, kc_168, kc_186, kc_190, kc_250, kc_355, kc_356, kc_404, kc_405, kc_429, kc_573, kc_1002, kc_1100, kc_1891, kc_2200, kc_4719, kc_4869, kc_4881, kc_5148, kc_19741, kc_25433, kc_320403, kc_628412, kc_629093, kc_660401, kc_679843, kc_918640, kc_979410, kc_1178088, kc_6232410, kc_24644941, kc_36238189, kc_38270444, kc_392531318, kc_425693491, kc_1342154595, kc_2147483648, kc_42328242873, kc_891704255789, kc_1722105685577, kc_1858726030364, ct_0, ct_1, ct_2, ct_3, ct_4, ct_5, cf_0, cf_1, cf_2, cf_3, cf_4, cf_5, w_ty6, w_ty7, m_sv, m_z0, m_hd, m_g0, m_gs, m_s0, m_ss, m_ap, m_an, forall_const, true_and, and_true, ne_eq, not_true_eq_false, not_false_eq_true, false_implies, true_implies, implies_true, eq_self, reduceCtorEq, Nat.reduceDiv, Nat.reduceMod, Int.reduceToNat, or_true, true_or, or_false, false_or, or_self, m_it, m_if, m_c1, m_01, m_02, m_03, m_04, m_10, m_12, m_13, m_14, m_20, m_21, m_23, m_24, m_30, m_31, m_32, m_34, m_40, m_41, m_42, m_43, Int.reduceLE, Int.reduceLT, Int.reduceGE, Int.reduceGT, Int.reduceNeg, Int.reduceAdd, Int.reduceSub, Int.reduceMul, Int.reduceEq, Int.reduceNe, Nat.reduceAdd, jun2, ro_0_0, ro_0_1, ro_0_2, ro_0_3, ro_0_4, ro_0_5, ro_0_6, ro_0_7, ro_0_8, ro_0_9, ro_0_10, ro_0_11, ro_0_12, ro_1_0, ro_1_1, ro_2_0, ro_4_0, ro_6_0, ro_6_1, ro_6_2, ro_6_3, ro_6_4, ro_6_5, ro_6_6, ro_6_7, ro_6_8, ro_8_0, ro_10_0, ro_12_0, ro_14_0, ro_16_0, ro_18_0, ro_20_0, ro_22_0, ro_22_1, ro_22_2, ro_23_0, ro_25_0, ro_27_0, ro_29_0, ro_29_1, ro_29_2, ro_29_3, ro_29_4, ro_29_5, ro_29_6, ro_29_7, ro_29_8, ro_31_0, ro_33_0, ro_35_0, ro_37_0, ro_39_0, ro_41_0, ro_43_0, ro_45_0, ro_45_1, ro_45_2, ro_46_0, ro_48_0, ro_50_0, ro_52_0, ro_52_1, ro_52_2, ro_52_3, ro_53_0, ro_55_0, ro_57_0, ro_59_0, ro_61_0, ro_61_1, ro_61_2, ro_61_3, ro_62_0, ro_64_0, ro_66_0, ro_68_0, ro_70_0, ro_70_1, ro_70_2, ro_70_3, ro_70_4, ro_70_5, ro_70_6, ro_70_7, ro_70_8, ro_70_9, ro_71_0, ro_73_0, ro_75_0, ro_77_0, ro_79_0, ro_81_0, ro_83_0, ro_85_0, ro_87_0, ro_89_0, ro_91_0, ro_91_1, ro_91_2, ro_91_3, ro_91_4, ro_91_5, ro_91_6, ro_91_7, ro_91_8, ro_91_9, ro_92_0, ro_94_0, ro_96_0, ro_98_0, ro_100_0, ro_102_0, ro_104_0, ro_106_0, ro_108_0, ro_110_0, ro_112_0, ro_112_1, ro_112_2, ro_112_3, ro_112_4, ro_112_5, ro_112_6, ro_112_7, ro_112_8, ro_112_9, ro_113_0, ro_115_0, ro_117_0, ro_119_0, ro_121_0, ro_123_0, ro_125_0, ro_127_0, ro_129_0, ro_131_0, ro_133_0, ro_133_1, ro_133_2, ro_133_3, ro_133_4, ro_133_5, ro_133_6, ro_133_7, ro_133_8, ro_133_9, ro_134_0, ro_136_0, ro_138_0, ro_140_0, ro_142_0, ro_144_0, ro_146_0, ro_148_0, ro_150_0, ro_152_0, ro_154_0, ro_155_0, ro_157_0, ro_157_1, ro_157_2, ro_157_3, ro_157_4, ro_157_5, ro_157_6, ro_157_7, ro_157_8, ro_157_9, ro_158_0, ro_160_0, ro_162_0, ro_164_0, ro_166_0, ro_168_0, ro_170_0, ro_172_0, ro_174_0, ro_176_0, ro_178_0, ro_180_0, ro_182_1, ro_182_4, ro_182_5, ro_182_6, ro_182_9, ro_182_10, ro_182_11, ro_182_13, ro_182_14, ro_182_15, ro_182_16, ro_182_17, ro_182_20, ro_182_21, ro_182_22, ro_182_23, ro_182_24, ro_182_26, ro_182_27, ro_182_28, lo_3, lo_5, lo_7, lo_9, lo_11, lo_13, lo_15, lo_17, lo_19, lo_21, lo_24, lo_26, lo_28, lo_30, lo_32, lo_34, lo_36, lo_38, lo_40, lo_42, lo_44, lo_47, lo_49, lo_51, lo_54, lo_56, lo_58, lo_60, lo_63, lo_65, lo_67, lo_69, lo_72, lo_74, lo_76, lo_78, lo_80, lo_82, lo_84, lo_86, lo_88, lo_90, lo_93, lo_95, lo_97, lo_99, lo_101, lo_103, lo_105, lo_107, lo_109, lo_111, lo_114, lo_116, lo_118, lo_120, lo_122, lo_124, lo_126, lo_128, lo_130, lo_132, lo_135, lo_137, lo_139, lo_141, lo_143, lo_145, lo_147, lo_149, lo_151, lo_153, lo_156, lo_159, lo_161, lo_163, lo_165, lo_167, lo_169, lo_171, lo_173, lo_175, lo_177, lo_179, lo_181, lo_183, lo_184, lo_185, lo_186, lo_187, lo_188, lo_189, lo_190, lo_191, lo_192, lo_193, lo_194, lo_195, lo_196, lo_197, lo_198, lo_199, lo_200, lo_201, lo_202, lo_203, jp_nn, jp_eq, jp_e1, Classical.not_not, ji0, ji1, ji2, cs17_84, kk_84, cs17_89, kk_89, cs17_90, kk_90, cs17_91, kk_91, jl_0, jl_1, jl_2, jl_3, jl_4, jl_5, jl_6, jl_7, jl_8, jl_9, jl_10, jl_11, jl_12, jl_13, jl_14, jl_15, jl_16, jl_17, jl_18, jl_19, jl_20, jl_21, jl_22, jl_23, jl_24, jl_25, jl_26, jl_27, jl_28, jl_29, jl_30, jl_31, jl_32, jl_33, jl_34, jl_35, jl_36, jl_37, jl_38, jl_39, jl_40, jl_95, jl_96, jl_97, jl_98, jl_99, jl_100, jl_101, jl_102, jl_103, jl_104, jl_105, jl_106, jl_107, jl_108, jl_109, jl_110, jl_111, jl_112, jl_113, jl_114, jl_186, jl_1100, jr, ju, jpT, jpF, tnc, Nat.reduceEqDiff, reduceIte, and_false, false_and, not_true_eq_false, not_false_eq_true, or_false, gt_iff_lt, ge_iff_le, Int.lt_irrefl, Int.le_refl, rkn_k, y]
      refine ⟨rkk t, l, O, d, rfl, r1_w, m, by omega, fun h1 f1_w m1_w => ?_⟩
      have := rl_len (rkk t) l
      exact ⟨_, _, d, m1_w, by omega, fun h2 f2_w m2_w => q h2 (f1_w.tr f2_w) m2_w⟩
  · exact hQ.elim
end
section
/-! ===== contracts: the class's law_w, as_w a whole_w ===== -/
def LWI (T : TA) (i0 : Nat) (h : XH) (en : List Int) (h1 : XH) : Prop := ∃ (k : Nat) (tk : Int) (l O : List Int) (p : Int), en = [45, 2, p, (k : Int), tk] ∧ TCA T (i0 + k) h1 ∧ FLw h h1 ∧ LM l O (dpw l : Int) h1 ∧ shp l ∧ dpw l ≤ 5 ∧ O.length + l.length ≤ k ∧ ((p = 1 ∧ (sD (tS T) (tP T) (tV T) wl 5).1 i0 = denT (tS T) (tP T) (tV T) wl l O (i0 + k)) ∨ (p = 0 ∧ hrw l ≤ 4 ∧ (sD (tS T) (tP T) (tV T) wl 5).1 i0 = den (tS T) (tP T) (tV T) wl l 1 O (i0 + k)))
section KKD3
variable {h h1 h2 h' : XH} {T : TA} {i i0 k : Nat} {l O : List Int} {t : Int}
theorem ntn_le : ∀ l : List Int, ntn l ≤ dpw l ∧ ntn l ≤ l.length
  | [] => ⟨Nat.le_refl _, Nat.le_refl _⟩
  | w :: l => by
    have ih_w := ntn_le l
    have d : dpw (w :: l) = (if w = -5 ∨ w = -13 then 1 else 0) + dpw l := rfl
    have e : (w :: l).length = l.length + 1 := rfl
    rw [ntn]
    by_cases y : w = -5
    · rw [if_pos (Or.inl y)] at d
      rw [if_pos y]
      omega
    · rw [if_neg y]
      omega
theorem dp_c5 : dpw (-5 :: l) = dpw l + 1 := by
  show 1 + dpw l = _
  omega
theorem dp_c13 : dpw (-13 :: l) = dpw l + 1 := by
  show 1 + dpw l = _
  omega
theorem dp_t (t1_w : 1 ≤ rkk t) (t4_w : rkk t ≤ 4) : dpw (t :: l) = dpw l := by
  show (if t = -5 ∨ t = -13 then 1 else 0) + dpw l = _
  have a := rkk_nt t4_w
  have b := rkk_op t1_w
  rw [if_neg (by omega)]
  omega
/-- at a shut_w bracket one that was opened_w waits -/
theorem cl_top (hs : shp l) (h4 : hrw l ≤ 4) (hd_w : dpw l ≠ 0) : ∃ l2, rlk 1 l = -13 :: l2 := by
  obtain ⟨a, b, c, d⟩ := rlk_dp (r := 1) (Nat.le_refl _) l hs h4
  cases e : rlk 1 l with
  | nil =>
    rw [e] at a
    exact absurd a.symm hd_w
  | cons w l2 =>
    rw [e] at c d
    have d' : rkk w < 1 := d
    rcases c.2 with z | z | z
    · exact ⟨l2, by rw [z]⟩
    · rw [z] at d'
      exact absurd d' (by decide)
    · omega
end KKD3
theorem m_81 : BodyOK CS17 CS17 81 := fun av h Q hQ => by
  rw [cs17_81] at hQ
  unfold k81 at hQ
  split at hQ
  · rename_i o t0_w
    obtain ⟨rfl, rfl, T, i0, t, tg, tN_w, hi0_w, q1_w, q2_w⟩ := hQ
    show pS CS17 bb_81 [45, 2, 0, 0, 0] h _
    unfold bb_81
    simp only [qe_1, qe_3, qe_4, qe_5, qe_7, qe_72, qe_10, qe_102, qe_13, qe_14, qe_15, qe_16, qe_17, qe_18, qe_20, qe_22, qe_23, qe_21, qe_24, qe_25, qe_26, qe_27, qe_28, qe_30, qe_31, qe_32, qc_20, qc_22, qc_23, qc_21, qc_24, qc_25, qc_26, qc_27, qc_1, qc_3, qc_4, qc_7, qc_13, qc_28, qc_32, qs_1, qs_2, qs_3, qs_4, qs_5, qs_6, qs_9, qs_10, qs_11, qs_14, qs_15, qs_16, qs_27, qs_17, qs_18, qs_19, qs_20, qs_22, qs_23, qs_28, qs_25, qs_26, qs_7, qs_8, kc_1, kn_1, kc_2, kn_2, kc_3, kn_3, kc_4, kn_4, kc_5, kn_5, kc_6, kn_6, kc_7, kn_7, kc_8, kn_8, kc_9, kn_9, kc_10, kn_10, kc_11, kn_11, kc_12, kn_12, kc_13, kn_13, kc_14, kn_14, kc_15, kn_15, kc_16, kc_17, kc_18, kc_19, kc_20, kc_21, kc_22, kc_23, kc_30, kc_32, kc_40, kc_43, kc_45, kc_48, kc_52, kc_56, kc_57, kc_59, kc_60, kc_61, kc_63, kc_64, kc_72, kc_78, kc_97, kc_99, kc_122, kc_126, kc_128, kc_192, kc_200, kc_255, kc_999, kc_1000, kc_9999, kn_9999, kc_10000, kc_12345, kc_65536, kc_252645135, kc_858993459, kc_1103515245, kc_1431655765, kc_2147483647, kc_0, kc_24, kc_28, kc_37, kc_41, kc_42, kc_73, kc_91, kc_95, kc_96, kc_98, kc_100, kc_112, kc_125, kc_150, kc_162, kc_163, kc_168, kc_186, kc_190, kc_250, kc_355, kc_356, kc_404, kc_405, kc_429, kc_573, kc_1002, kc_1100, kc_1891, kc_2200, kc_4719, kc_4869, kc_4881, kc_5148, kc_19741, kc_25433, kc_320403, kc_628412, kc_629093, kc_660401, kc_679843, kc_918640, kc_979410, kc_1178088, kc_6232410, kc_24644941, kc_36238189, kc_38270444, kc_392531318, kc_425693491, kc_1342154595, kc_2147483648, kc_42328242873, kc_891704255789, kc_1722105685577, kc_1858726030364, ct_0, ct_1, ct_2, ct_3, ct_4, ct_5, cf_0, cf_1, cf_2, cf_3, cf_4, cf_5, w_ty6, w_ty7, m_sv, m_z0, m_hd, m_g0, m_gs, m_s0, m_ss, m_ap, m_an, forall_const, true_and, and_true, ne_eq, not_true_eq_false, not_false_eq_true, false_implies, true_implies, implies_true, eq_self, reduceCtorEq, Nat.reduceDiv, Nat.reduceMod, Int.reduceToNat, or_true, true_or, or_false, false_or, or_self, m_it, m_if, m_c1, m_01, m_02, m_03, m_04, m_10, m_12, m_13, m_14, m_20, m_21, m_23, m_24, m_30, m_31, m_32, m_34, m_40, m_41, m_42, m_43, Int.reduceLE, Int.reduceLT, Int.reduceGE, Int.reduceGT, Int.reduceNeg, Int.reduceAdd, Int.reduceSub, Int.reduceMul, Int.reduceEq, Int.reduceNe, Nat.reduceAdd, jun2, ro_0_0, ro_0_1, ro_0_2, ro_0_3, ro_0_4, ro_0_5, ro_0_6, ro_0_7, ro_0_8, ro_0_9, ro_0_10, ro_0_11, ro_0_12, ro_1_0, ro_1_1, ro_2_0, ro_4_0, ro_6_0, ro_6_1, ro_6_2, ro_6_3, ro_6_4, ro_6_5, ro_6_6, ro_6_7, ro_6_8, ro_8_0, ro_10_0, ro_12_0, ro_14_0, ro_16_0, ro_18_0, ro_20_0, ro_22_0, ro_22_1, ro_22_2, ro_23_0, ro_25_0, ro_27_0, ro_29_0, ro_29_1, ro_29_2, ro_29_3, ro_29_4, ro_29_5, ro_29_6, ro_29_7, ro_29_8, ro_31_0, ro_33_0, ro_35_0, ro_37_0, ro_39_0, ro_41_0, ro_43_0, ro_45_0, ro_45_1, ro_45_2, ro_46_0, ro_48_0, ro_50_0, ro_52_0, ro_52_1, ro_52_2, ro_52_3, ro_53_0, ro_55_0, ro_57_0, ro_59_0, ro_61_0, ro_61_1, ro_61_2, ro_61_3, ro_62_0, ro_64_0, ro_66_0, ro_68_0, ro_70_0, ro_70_1, ro_70_2, ro_70_3, ro_70_4, ro_70_5, ro_70_6, ro_70_7, ro_70_8, ro_70_9, ro_71_0, ro_73_0, ro_75_0, ro_77_0, ro_79_0, ro_81_0, ro_83_0, ro_85_0, ro_87_0, ro_89_0, ro_91_0, ro_91_1, ro_91_2, ro_91_3, ro_91_4, ro_91_5, ro_91_6, ro_91_7, ro_91_8, ro_91_9, ro_92_0, ro_94_0, ro_96_0, ro_98_0, ro_100_0, ro_102_0, ro_104_0, ro_106_0, ro_108_0, ro_110_0, ro_112_0, ro_112_1, ro_112_2, ro_112_3, ro_112_4, ro_112_5, ro_112_6, ro_112_7, ro_112_8, ro_112_9, ro_113_0, ro_115_0, ro_117_0, ro_119_0, ro_121_0, ro_123_0, ro_125_0, ro_127_0, ro_129_0, ro_131_0, ro_133_0, ro_133_1, ro_133_2, ro_133_3, ro_133_4, ro_133_5, ro_133_6, ro_133_7, ro_133_8, ro_133_9, ro_134_0, ro_136_0, ro_138_0, ro_140_0, ro_142_0, ro_144_0, ro_146_0, ro_148_0, ro_150_0, ro_152_0, ro_154_0, ro_155_0, ro_157_0, ro_157_1, ro_157_2, ro_157_3, ro_157_4, ro_157_5, ro_157_6, ro_157_7, ro_157_8, ro_157_9, ro_158_0, ro_160_0, ro_162_0, ro_164_0, ro_166_0, ro_168_0, ro_170_0, ro_172_0, ro_174_0, ro_176_0, ro_178_0, ro_180_0, ro_182_1, ro_182_4, ro_182_5, ro_182_6, ro_182_9, ro_182_10, ro_182_11, ro_182_13, ro_182_14, ro_182_15, ro_182_16, ro_182_17, ro_182_20, ro_182_21, ro_182_22, ro_182_23, ro_182_24, ro_182_26, ro_182_27, ro_182_28, lo_3, lo_5, lo_7, lo_9, lo_11, lo_13, lo_15, lo_17, lo_19, lo_21, lo_24, lo_26, lo_28, lo_30, lo_32, lo_34, lo_36, lo_38, lo_40, lo_42, lo_44, lo_47, lo_49, lo_51, lo_54, lo_56, lo_58, lo_60, lo_63, lo_65, lo_67, lo_69, lo_72, lo_74, lo_76, lo_78, lo_80, lo_82, lo_84, lo_86, lo_88, lo_90, lo_93, lo_95, lo_97, lo_99, lo_101, lo_103, lo_105, lo_107, lo_109, lo_111, lo_114, lo_116, lo_118, lo_120, lo_122, lo_124, lo_126, lo_128, lo_130, lo_132, lo_135, lo_137, lo_139, lo_141, lo_143, lo_145, lo_147, lo_149, lo_151, lo_153, lo_156, lo_159, lo_161, lo_163, lo_165, lo_167, lo_169, lo_171, lo_173, lo_175, lo_177, lo_179, lo_181, lo_183, lo_184, lo_185, lo_186, lo_187, lo_188, lo_189, lo_190, lo_191, lo_192, lo_193, lo_194, lo_195, lo_196, lo_197, lo_198, lo_199, lo_200, lo_201, lo_202, lo_203, jp_nn, jp_eq, jp_e1, Classical.not_not, ji0, ji1, ji2, cs17_64, kk_64, cs17_82, kk_82, cs17_83, kk_83, cs17_85, kk_85, cs17_88, kk_88, cs17_86, kk_86, cs17_87, kk_87, jl_0, jl_1, jl_2, jl_3, jl_4, jl_5, jl_6, jl_7, jl_8, jl_9, jl_10, jl_11, jl_12, jl_13, jl_14, jl_15, jl_16, jl_17, jl_18, jl_19, jl_20, jl_21, jl_22, jl_23, jl_24, jl_25, jl_26, jl_27, jl_28, jl_29, jl_30, jl_31, jl_32, jl_33, jl_34, jl_35, jl_36, jl_37, jl_38, jl_39, jl_40, jl_95, jl_96, jl_97, jl_98, jl_99, jl_100, jl_101, jl_102, jl_103, jl_104, jl_105, jl_106, jl_107, jl_108, jl_109, jl_110, jl_111, jl_112, jl_113, jl_114, jl_186, jl_1100, jr, ju, jpT, jpF, tnc, Nat.reduceEqDiff, reduceIte, and_false, false_and, not_true_eq_false, not_false_eq_true, or_false, gt_iff_lt, ge_iff_le, Int.lt_irrefl, Int.le_refl]
    refine qp_lp (fun en h1 => LWI T i0 h en h1) ⟨0, 0, [], [], 1, rfl, ?_, ?_, ⟨⟨rfl, by decide, trivial⟩, ⟨rfl, by decide, fun k v z => by cases z⟩, rfl⟩, trivial, by decide, Nat.le_refl _, Or.inl ⟨rfl, den_0⟩⟩ ?_
    · exact TC.ft t (fun o k z => by rw [up_ne (by omega), up_ne (by omega), up_ne (by omega)])
    · exact ((FW.up (by omega)).tr ((FW.up (by omega)).tr (FW.up (by omega)))).lw
    intro en h1 ⟨k, tk, l, O, p, e1_w, t1_w, f1_w, m1_w, hs, hd_w, hn, hp⟩
    subst e1_w
    have s0 := t1_w.s0
    have tle := t1_w.le
    have yk : (k : Int) ≤ 1000 := by omega
    have yk' : ¬ 1000 < (k : Int) := by omega
    have ek := jk1 (k := k) (by omega)
    have lb := len_b l hs
    have m5_w : h1 45 5 = (dpw l : Int) := m1_w.2.2
    have nt := ntn_le l
    have adv_w : ∀ h2, i0 + k < T.2.1 → TCA T (i0 + k) h2 → ∀ (X : XH → Prop), (∀ h3, FT h2 h3 → TCA T (i0 + (k + 1)) h3 → X h3) → ∃ n p : Nat, BYT n h2 ∧ h2 2 2 = (p : Int) ∧ p ≤ n ∧ ∀ h3, FT h2 h3 → ADV (h2 3) n p h3 → X h3 := fun h2 lt t2_w X hX => by
      obtain ⟨n1_w, n2_w, n3_w, n4_w⟩ := t2_w.nx lt rfl rfl
      exact ⟨_, _, n1_w, n2_w, n3_w, fun h3 f a => hX h3 f (n4_w h3 f a)⟩
    rcases hp with ⟨rfl, ev_w⟩ | ⟨rfl, h4, ev_w⟩
    · -- a part is_w due
      have e82 : pvh h1 = ptv T (i0 + k) := t1_w.pv
      rcases ptv_cs tg tle s0 with ⟨np, ep⟩ | ⟨w17, ep⟩ | ⟨s40, ep⟩ | ⟨ip, n17, n40_w, ge, ec⟩
      · have e : (eB ((sD (tS T) (tP T) (tV T) wl 5).1 i0) fun r => sSgn (tS T) (tP T) (tV T) 59 r.2) = .error (er (tP T) 1 (i0 + k)) := by
          rw [ev_w, denT_no hd_w np]
          rfl
        have fin_w := q1_w 1 _ h1 (by decide) (by decide) e f1_w t1_w
        simp only [qe_1, qe_3, qe_4, qe_5, qe_7, qe_72, qe_10, qe_102, qe_13, qe_14, qe_15, qe_16, qe_17, qe_18, qe_20, qe_22, qe_23, qe_21, qe_24, qe_25, qe_26, qe_27, qe_28, qe_30, qe_31, qe_32, qc_20, qc_22, qc_23, qc_21, qc_24, qc_25, qc_26, qc_27, qc_1, qc_3, qc_4, qc_7, qc_13, qc_28, qc_32, qs_1, qs_2, qs_3, qs_4, qs_5, qs_6, qs_9, qs_10, qs_11, qs_14, qs_15, qs_16, qs_27, qs_17, qs_18, qs_19, qs_20, qs_22, qs_23, qs_28, qs_25, qs_26, qs_7, qs_8, kc_1, kn_1, kc_2, kn_2, kc_3, kn_3, kc_4, kn_4, kc_5, kn_5, kc_6, kn_6, kc_7, kn_7, kc_8, kn_8, kc_9, kn_9, kc_10, kn_10, kc_11, kn_11, kc_12, kn_12, kc_13, kn_13, kc_14, kn_14, kc_15, kn_15, kc_16, kc_17, kc_18, kc_19, kc_20, kc_21, kc_22, kc_23, kc_30, kc_32, kc_40, kc_43, kc_45, kc_48, kc_52, kc_56, kc_57, kc_59, kc_60, kc_61, kc_63, kc_64, kc_72, kc_78, kc_97, kc_99, kc_122, kc_126, kc_128, kc_192, kc_200, kc_255, kc_999, kc_1000, kc_9999, kn_9999, kc_10000, kc_12345, kc_65536, kc_252645135, kc_858993459, kc_1103515245, kc_1431655765, kc_2147483647, kc_0, kc_24, kc_28, kc_37, kc_41, kc_42, kc_73, kc_91, kc_95, kc_96, kc_98, kc_100, kc_112, kc_125, kc_150, kc_162, kc_163, kc_168, kc_186, kc_190, kc_250, kc_355, kc_356, kc_404, kc_405, kc_429, kc_573, kc_1002, kc_1100, kc_1891, kc_2200, kc_4719, kc_4869, kc_4881, kc_5148, kc_19741, kc_25433, kc_320403, kc_628412, kc_629093, kc_660401, kc_679843, kc_918640, kc_979410, kc_1178088, kc_6232410, kc_24644941, kc_36238189, kc_38270444, kc_392531318, kc_425693491, kc_1342154595, kc_2147483648, kc_42328242873, kc_891704255789, kc_1722105685577, kc_1858726030364, ct_0, ct_1, ct_2, ct_3, ct_4, ct_5, cf_0, cf_1, cf_2, cf_3, cf_4, cf_5, w_ty6, w_ty7, m_sv, m_z0, m_hd, m_g0, m_gs, m_s0, m_ss, m_ap, m_an, forall_const, true_and, and_true, ne_eq, not_true_eq_false, not_false_eq_true, false_implies, true_implies, implies_true, eq_self, reduceCtorEq, Nat.reduceDiv, Nat.reduceMod, Int.reduceToNat, or_true, true_or, or_false, false_or, or_self, m_it, m_if, m_c1, m_01, m_02, m_03, m_04, m_10, m_12, m_13, m_14, m_20, m_21, m_23, m_24, m_30, m_31, m_32, m_34, m_40, m_41, m_42, m_43, Int.reduceLE, Int.reduceLT, Int.reduceGE, Int.reduceGT, Int.reduceNeg, Int.reduceAdd, Int.reduceSub, Int.reduceMul, Int.reduceEq, Int.reduceNe, Nat.reduceAdd, jun2, ro_0_0, ro_0_1, ro_0_2, ro_0_3, ro_0_4, ro_0_5, ro_0_6, ro_0_7, ro_0_8, ro_0_9, ro_0_10, ro_0_11, ro_0_12, ro_1_0, ro_1_1, ro_2_0, ro_4_0, ro_6_0, ro_6_1, ro_6_2, ro_6_3, ro_6_4, ro_6_5, ro_6_6, ro_6_7, ro_6_8, ro_8_0, ro_10_0, ro_12_0, ro_14_0, ro_16_0, ro_18_0, ro_20_0, ro_22_0, ro_22_1, ro_22_2, ro_23_0, ro_25_0, ro_27_0, ro_29_0, ro_29_1, ro_29_2, ro_29_3, ro_29_4, ro_29_5, ro_29_6, ro_29_7, ro_29_8, ro_31_0, ro_33_0, ro_35_0, ro_37_0, ro_39_0, ro_41_0, ro_43_0, ro_45_0, ro_45_1, ro_45_2, ro_46_0, ro_48_0, ro_50_0, ro_52_0, ro_52_1, ro_52_2, ro_52_3, ro_53_0, ro_55_0, ro_57_0, ro_59_0, ro_61_0, ro_61_1, ro_61_2, ro_61_3, ro_62_0, ro_64_0, ro_66_0, ro_68_0, ro_70_0, ro_70_1, ro_70_2, ro_70_3, ro_70_4, ro_70_5, ro_70_6, ro_70_7, ro_70_8, ro_70_9, ro_71_0, ro_73_0, ro_75_0, ro_77_0, ro_79_0, ro_81_0, ro_83_0, ro_85_0, ro_87_0, ro_89_0, ro_91_0, ro_91_1, ro_91_2, ro_91_3, ro_91_4, ro_91_5, ro_91_6, ro_91_7, ro_91_8, ro_91_9, ro_92_0, ro_94_0, ro_96_0, ro_98_0, ro_100_0, ro_102_0, ro_104_0, ro_106_0, ro_108_0, ro_110_0, ro_112_0, ro_112_1, ro_112_2, ro_112_3, ro_112_4, ro_112_5, ro_112_6, ro_112_7, ro_112_8, ro_112_9, ro_113_0, ro_115_0, ro_117_0, ro_119_0, ro_121_0, ro_123_0, ro_125_0, ro_127_0, ro_129_0, ro_131_0, ro_133_0, ro_133_1, ro_133_2, ro_133_3, ro_133_4, ro_133_5, ro_133_6, ro_133_7, ro_133_8, ro_133_9, ro_134_0, ro_136_0, ro_138_0, ro_140_0, ro_142_0, ro_144_0, ro_146_0, ro_148_0, ro_150_0, ro_152_0, ro_154_0, ro_155_0, ro_157_0, ro_157_1, ro_157_2, ro_157_3, ro_157_4, ro_157_5, ro_157_6, ro_157_7, ro_157_8, ro_157_9, ro_158_0, ro_160_0, ro_162_0, ro_164_0, ro_166_0, ro_168_0, ro_170_0, ro_172_0, ro_174_0, ro_176_0, ro_178_0, ro_180_0, ro_182_1, ro_182_4, ro_182_5, ro_182_6, ro_182_9, ro_182_10, ro_182_11, ro_182_13, ro_182_14, ro_182_15, ro_182_16, ro_182_17, ro_182_20, ro_182_21, ro_182_22, ro_182_23, ro_182_24, ro_182_26, ro_182_27, ro_182_28, lo_3, lo_5, lo_7, lo_9, lo_11, lo_13, lo_15, lo_17, lo_19, lo_21, lo_24, lo_26, lo_28, lo_30, lo_32, lo_34, lo_36, lo_38, lo_40, lo_42, lo_44, lo_47, lo_49, lo_51, lo_54, lo_56, lo_58, lo_60, lo_63, lo_65, lo_67, lo_69, lo_72, lo_74, lo_76, lo_78, lo_80, lo_82, lo_84, lo_86, lo_88, lo_90, lo_93, lo_95, lo_97, lo_99, lo_101, lo_103, lo_105, lo_107, lo_109, lo_111, lo_114, lo_116, lo_118, lo_120, lo_122, lo_124, lo_126, lo_128, lo_130, lo_132, lo_135, lo_137, lo_139, lo_141, lo_143, lo_145, lo_147, lo_149, lo_151, lo_153, lo_156, lo_159, lo_161, lo_163, lo_165, lo_167, lo_169, lo_171, lo_173, lo_175, lo_177, lo_179, lo_181, lo_183, lo_184, lo_185, lo_186, lo_187, lo_188, lo_189, lo_190, lo_191, lo_192, lo_193, lo_194, lo_195, lo_196, lo_197, lo_198, lo_199, lo_200, lo_201, lo_202, lo_203, jp_nn, jp_eq, jp_e1, Classical.not_not, ji0, ji1, ji2, cs17_64, kk_64, cs17_82, kk_82, cs17_83, kk_83, cs17_85, kk_85, cs17_88, kk_88, cs17_86, kk_86, cs17_87, kk_87, jl_0, jl_1, jl_2, jl_3, jl_4, jl_5, jl_6, jl_7, jl_8, jl_9, jl_10, jl_11, jl_12, jl_13, jl_14, jl_15, jl_16, jl_17, jl_18, jl_19, jl_20, jl_21, jl_22, jl_23, jl_24, jl_25, jl_26, jl_27, jl_28, jl_29, jl_30, jl_31, jl_32, jl_33, jl_34, jl_35, jl_36, jl_37, jl_38, jl_39, jl_40, jl_95, jl_96, jl_97, jl_98, jl_99, jl_100, jl_101, jl_102, jl_103, jl_104, jl_105, jl_106, jl_107, jl_108, jl_109, jl_110, jl_111, jl_112, jl_113, jl_114, jl_186, jl_1100, jr, ju, jpT, jpF, tnc, Nat.reduceEqDiff, reduceIte, and_false, false_and, not_true_eq_false, not_false_eq_true, or_false, gt_iff_lt, ge_iff_le, Int.lt_irrefl, Int.le_refl, yk, yk', e82, ep]
        exact fin_w
      · -- not
        have ip : isPt (tS T) (tV T) wl (i0 + k) := Or.inr (Or.inr (Or.inr w17))
        have lt : i0 + k < T.2.1 := isPt_lt s0 tle ip
        by_cases y5 : dpw l = 5
        · have e : (eB ((sD (tS T) (tP T) (tV T) wl 5).1 i0) fun r => sSgn (tS T) (tP T) (tV T) 59 r.2) = .error (er (tP T) 5 (i0 + k)) := by
            rw [ev_w, denT_5 y5 ip]
            rfl
          have fin_w := q1_w 5 _ h1 (by decide) (by decide) e f1_w t1_w
          have m5' : h1 45 5 = 5 := by rw [m5_w, y5]; rfl
          simp only [qe_1, qe_3, qe_4, qe_5, qe_7, qe_72, qe_10, qe_102, qe_13, qe_14, qe_15, qe_16, qe_17, qe_18, qe_20, qe_22, qe_23, qe_21, qe_24, qe_25, qe_26, qe_27, qe_28, qe_30, qe_31, qe_32, qc_20, qc_22, qc_23, qc_21, qc_24, qc_25, qc_26, qc_27, qc_1, qc_3, qc_4, qc_7, qc_13, qc_28, qc_32, qs_1, qs_2, qs_3, qs_4, qs_5, qs_6, qs_9, qs_10, qs_11, qs_14, qs_15, qs_16, qs_27, qs_17, qs_18, qs_19, qs_20, qs_22, qs_23, qs_28, qs_25, qs_26, qs_7, qs_8, kc_1, kn_1, kc_2, kn_2, kc_3, kn_3, kc_4, kn_4, kc_5, kn_5, kc_6, kn_6, kc_7, kn_7, kc_8, kn_8, kc_9, kn_9, kc_10, kn_10, kc_11, kn_11, kc_12, kn_12, kc_13, kn_13, kc_14, kn_14, kc_15, kn_15, kc_16, kc_17, kc_18, kc_19, kc_20, kc_21, kc_22, kc_23, kc_30, kc_32, kc_40, kc_43, kc_45, kc_48, kc_52, kc_56, kc_57, kc_59, kc_60, kc_61, kc_63, kc_64, kc_72, kc_78, kc_97, kc_99, kc_122, kc_126, kc_128, kc_192, kc_200, kc_255, kc_999, kc_1000, kc_9999, kn_9999, kc_10000, kc_12345, kc_65536, kc_252645135, kc_858993459, kc_1103515245, kc_1431655765, kc_2147483647, kc_0, kc_24, kc_28, kc_37, kc_41, kc_42, kc_73, kc_91, kc_95, kc_96, kc_98, kc_100, kc_112, kc_125, kc_150, kc_162, kc_163, kc_168, kc_186, kc_190, kc_250, kc_355, kc_356, kc_404, kc_405, kc_429, kc_573, kc_1002, kc_1100, kc_1891, kc_2200, kc_4719, kc_4869, kc_4881, kc_5148, kc_19741, kc_25433, kc_320403, kc_628412, kc_629093, kc_660401, kc_679843, kc_918640, kc_979410, kc_1178088, kc_6232410, kc_24644941, kc_36238189, kc_38270444, kc_392531318, kc_425693491, kc_1342154595, kc_2147483648, kc_42328242873, kc_891704255789, kc_1722105685577, kc_1858726030364, ct_0, ct_1, ct_2, ct_3, ct_4, ct_5, cf_0, cf_1, cf_2, cf_3, cf_4, cf_5, w_ty6, w_ty7, m_sv, m_z0, m_hd, m_g0, m_gs, m_s0, m_ss, m_ap, m_an, forall_const, true_and, and_true, ne_eq, not_true_eq_false, not_false_eq_true, false_implies, true_implies, implies_true, eq_self, reduceCtorEq, Nat.reduceDiv, Nat.reduceMod, Int.reduceToNat, or_true, true_or, or_false, false_or, or_self, m_it, m_if, m_c1, m_01, m_02, m_03, m_04, m_10, m_12, m_13, m_14, m_20, m_21, m_23, m_24, m_30, m_31, m_32, m_34, m_40, m_41, m_42, m_43, Int.reduceLE, Int.reduceLT, Int.reduceGE, Int.reduceGT, Int.reduceNeg, Int.reduceAdd, Int.reduceSub, Int.reduceMul, Int.reduceEq, Int.reduceNe, Nat.reduceAdd, jun2, ro_0_0, ro_0_1, ro_0_2, ro_0_3, ro_0_4, ro_0_5, ro_0_6, ro_0_7, ro_0_8, ro_0_9, ro_0_10, ro_0_11, ro_0_12, ro_1_0, ro_1_1, ro_2_0, ro_4_0, ro_6_0, ro_6_1, ro_6_2, ro_6_3, ro_6_4, ro_6_5, ro_6_6, ro_6_7, ro_6_8, ro_8_0, ro_10_0, ro_12_0, ro_14_0, ro_16_0, ro_18_0, ro_20_0, ro_22_0, ro_22_1, ro_22_2, ro_23_0, ro_25_0, ro_27_0, ro_29_0, ro_29_1, ro_29_2, ro_29_3, ro_29_4, ro_29_5, ro_29_6, ro_29_7, ro_29_8, ro_31_0, ro_33_0, ro_35_0, ro_37_0, ro_39_0, ro_41_0, ro_43_0, ro_45_0, ro_45_1, ro_45_2, ro_46_0, ro_48_0, ro_50_0, ro_52_0, ro_52_1, ro_52_2, ro_52_3, ro_53_0, ro_55_0, ro_57_0, ro_59_0, ro_61_0, ro_61_1, ro_61_2, ro_61_3, ro_62_0, ro_64_0, ro_66_0, ro_68_0, ro_70_0, ro_70_1, ro_70_2, ro_70_3, ro_70_4, ro_70_5, ro_70_6, ro_70_7, ro_70_8, ro_70_9, ro_71_0, ro_73_0, ro_75_0, ro_77_0, ro_79_0, ro_81_0, ro_83_0, ro_85_0, ro_87_0, ro_89_0, ro_91_0, ro_91_1, ro_91_2, ro_91_3, ro_91_4, ro_91_5, ro_91_6, ro_91_7, ro_91_8, ro_91_9, ro_92_0, ro_94_0, ro_96_0, ro_98_0, ro_100_0, ro_102_0, ro_104_0, ro_106_0, ro_108_0, ro_110_0, ro_112_0, ro_112_1, ro_112_2, ro_112_3, ro_112_4, ro_112_5, ro_112_6, ro_112_7, ro_112_8, ro_112_9, ro_113_0, ro_115_0, ro_117_0, ro_119_0, ro_121_0, ro_123_0, ro_125_0, ro_127_0, ro_129_0, ro_131_0, ro_133_0, ro_133_1, ro_133_2, ro_133_3, ro_133_4, ro_133_5, ro_133_6, ro_133_7, ro_133_8, ro_133_9, ro_134_0, ro_136_0, ro_138_0, ro_140_0, ro_142_0, ro_144_0, ro_146_0, ro_148_0, ro_150_0, ro_152_0, ro_154_0, ro_155_0, ro_157_0, ro_157_1, ro_157_2, ro_157_3, ro_157_4, ro_157_5, ro_157_6, ro_157_7, ro_157_8, ro_157_9, ro_158_0, ro_160_0, ro_162_0, ro_164_0, ro_166_0, ro_168_0, ro_170_0, ro_172_0, ro_174_0, ro_176_0, ro_178_0, ro_180_0, ro_182_1, ro_182_4, ro_182_5, ro_182_6, ro_182_9, ro_182_10, ro_182_11, ro_182_13, ro_182_14, ro_182_15, ro_182_16, ro_182_17, ro_182_20, ro_182_21, ro_182_22, ro_182_23, ro_182_24, ro_182_26, ro_182_27, ro_182_28, lo_3, lo_5, lo_7, lo_9, lo_11, lo_13, lo_15, lo_17, lo_19, lo_21, lo_24, lo_26, lo_28, lo_30, lo_32, lo_34, lo_36, lo_38, lo_40, lo_42, lo_44, lo_47, lo_49, lo_51, lo_54, lo_56, lo_58, lo_60, lo_63, lo_65, lo_67, lo_69, lo_72, lo_74, lo_76, lo_78, lo_80, lo_82, lo_84, lo_86, lo_88, lo_90, lo_93, lo_95, lo_97, lo_99, lo_101, lo_103, lo_105, lo_107, lo_109, lo_111, lo_114, lo_116, lo_118, lo_120, lo_122, lo_124, lo_126, lo_128, lo_130, lo_132, lo_135, lo_137, lo_139, lo_141, lo_143, lo_145, lo_147, lo_149, lo_151, lo_153, lo_156, lo_159, lo_161, lo_163, lo_165, lo_167, lo_169, lo_171, lo_173, lo_175, lo_177, lo_179, lo_181, lo_183, lo_184, lo_185, lo_186, lo_187, lo_188, lo_189, lo_190, lo_191, lo_192, lo_193, lo_194, lo_195, lo_196, lo_197, lo_198, lo_199, lo_200, lo_201, lo_202, lo_203, jp_nn, jp_eq, jp_e1, Classical.not_not, ji0, ji1, ji2, cs17_64, kk_64, cs17_82, kk_82, cs17_83, kk_83, cs17_85, kk_85, cs17_88, kk_88, cs17_86, kk_86, cs17_87, kk_87, jl_0, jl_1, jl_2, jl_3, jl_4, jl_5, jl_6, jl_7, jl_8, jl_9, jl_10, jl_11, jl_12, jl_13, jl_14, jl_15, jl_16, jl_17, jl_18, jl_19, jl_20, jl_21, jl_22, jl_23, jl_24, jl_25, jl_26, jl_27, jl_28, jl_29, jl_30, jl_31, jl_32, jl_33, jl_34, jl_35, jl_36, jl_37, jl_38, jl_39, jl_40, jl_95, jl_96, jl_97, jl_98, jl_99, jl_100, jl_101, jl_102, jl_103, jl_104, jl_105, jl_106, jl_107, jl_108, jl_109, jl_110, jl_111, jl_112, jl_113, jl_114, jl_186, jl_1100, jr, ju, jpT, jpF, tnc, Nat.reduceEqDiff, reduceIte, and_false, false_and, not_true_eq_false, not_false_eq_true, or_false, gt_iff_lt, ge_iff_le, Int.lt_irrefl, Int.le_refl, yk, yk', e82, ep, m5']
          exact fin_w
        · have y5a : ¬ (5 : Int) ≤ (dpw l : Int) := by omega
          have y5b : (dpw l : Int) < 5 := by omega
          have r5_w : rkk (-5) = 5 := rfl
          have fin_w : ∃ (l O : List Int) (d : Int), LM l O d h1 ∧ l.length < 64 ∧ O.length + l.length < 1000 ∧ (ntn l : Int) ≤ d ∧ d ≤ 99 ∧ ∀ h2, FW h1 h2 → LM (-5 :: l) O (d + 1) h2 → ∃ n p : Nat, BYT n h2 ∧ h2 2 2 = (p : Int) ∧ p ≤ n ∧ ∀ h3, FT h2 h3 → ADV (h2 3) n p h3 → LWI T i0 h [45, 2, 1, ((k + 1 : Nat) : Int), -5] h3 := by
            refine ⟨l, O, _, m1_w, by omega, by omega, by omega, by omega, fun h2 f2_w m2_w => adv_w h2 lt (f2_w.tca t1_w) _ fun h3 f3_w t3_w => ?_⟩
            have d5 : dpw (-5 :: l) = dpw l + 1 := dp_c5
            refine ⟨k + 1, -5, -5 :: l, O, 1, rfl, t3_w, f1_w.tr (f2_w.lw.tr f3_w.lw), ?_, ⟨hs, Or.inr (Or.inl rfl)⟩, by omega, ?_, Or.inl ⟨rfl, ?_⟩⟩
            · rw [d5]
              exact f3_w.lm m2_w
            · show O.length + (l.length + 1) ≤ k + 1
              omega
            · rw [ev_w, denT_nt (by omega) w17]
              rfl
          simp only [qe_1, qe_3, qe_4, qe_5, qe_7, qe_72, qe_10, qe_102, qe_13, qe_14, qe_15, qe_16, qe_17, qe_18, qe_20, qe_22, qe_23, qe_21, qe_24, qe_25, qe_26, qe_27, qe_28, qe_30, qe_31, qe_32, qc_20, qc_22, qc_23, qc_21, qc_24, qc_25, qc_26, qc_27, qc_1, qc_3, qc_4, qc_7, qc_13, qc_28, qc_32, qs_1, qs_2, qs_3, qs_4, qs_5, qs_6, qs_9, qs_10, qs_11, qs_14, qs_15, qs_16, qs_27, qs_17, qs_18, qs_19, qs_20, qs_22, qs_23, qs_28, qs_25, qs_26, qs_7, qs_8, kc_1, kn_1, kc_2, kn_2, kc_3, kn_3, kc_4, kn_4, kc_5, kn_5, kc_6, kn_6, kc_7, kn_7, kc_8, kn_8, kc_9, kn_9, kc_10, kn_10, kc_11, kn_11, kc_12, kn_12, kc_13, kn_13, kc_14, kn_14, kc_15, kn_15, kc_16, kc_17, kc_18, kc_19, kc_20, kc_21, kc_22, kc_23, kc_30, kc_32, kc_40, kc_43, kc_45, kc_48, kc_52, kc_56, kc_57, kc_59, kc_60, kc_61, kc_63, kc_64, kc_72, kc_78, kc_97, kc_99, kc_122, kc_126, kc_128, kc_192, kc_200, kc_255, kc_999, kc_1000, kc_9999, kn_9999, kc_10000, kc_12345, kc_65536, kc_252645135, kc_858993459, kc_1103515245, kc_1431655765, kc_2147483647, kc_0, kc_24, kc_28, kc_37, kc_41, kc_42, kc_73, kc_91, kc_95, kc_96, kc_98, kc_100, kc_112, kc_125, kc_150, kc_162, kc_163, kc_168, kc_186, kc_190, kc_250, kc_355, kc_356, kc_404, kc_405, kc_429, kc_573, kc_1002, kc_1100, kc_1891, kc_2200, kc_4719, kc_4869, kc_4881, kc_5148, kc_19741, kc_25433, kc_320403, kc_628412, kc_629093, kc_660401, kc_679843, kc_918640, kc_979410, kc_1178088, kc_6232410, kc_24644941, kc_36238189, kc_38270444, kc_392531318, kc_425693491, kc_1342154595, kc_2147483648, kc_42328242873, kc_891704255789, kc_1722105685577, kc_1858726030364, ct_0, ct_1, ct_2, ct_3, ct_4, ct_5, cf_0, cf_1, cf_2, cf_3, cf_4, cf_5, w_ty6, w_ty7, m_sv, m_z0, m_hd, m_g0, m_gs, m_s0, m_ss, m_ap, m_an, forall_const, true_and, and_true, ne_eq, not_true_eq_false, not_false_eq_true, false_implies, true_implies, implies_true, eq_self, reduceCtorEq, Nat.reduceDiv, Nat.reduceMod, Int.reduceToNat, or_true, true_or, or_false, false_or, or_self, m_it, m_if, m_c1, m_01, m_02, m_03, m_04, m_10, m_12, m_13, m_14, m_20, m_21, m_23, m_24, m_30, m_31, m_32, m_34, m_40, m_41, m_42, m_43, Int.reduceLE, Int.reduceLT, Int.reduceGE, Int.reduceGT, Int.reduceNeg, Int.reduceAdd, Int.reduceSub, Int.reduceMul, Int.reduceEq, Int.reduceNe, Nat.reduceAdd, jun2, ro_0_0, ro_0_1, ro_0_2, ro_0_3, ro_0_4, ro_0_5, ro_0_6, ro_0_7, ro_0_8, ro_0_9, ro_0_10, ro_0_11, ro_0_12, ro_1_0, ro_1_1, ro_2_0, ro_4_0, ro_6_0, ro_6_1, ro_6_2, ro_6_3, ro_6_4, ro_6_5, ro_6_6, ro_6_7, ro_6_8, ro_8_0, ro_10_0, ro_12_0, ro_14_0, ro_16_0, ro_18_0, ro_20_0, ro_22_0, ro_22_1, ro_22_2, ro_23_0, ro_25_0, ro_27_0, ro_29_0, ro_29_1, ro_29_2, ro_29_3, ro_29_4, ro_29_5, ro_29_6, ro_29_7, ro_29_8, ro_31_0, ro_33_0, ro_35_0, ro_37_0, ro_39_0, ro_41_0, ro_43_0, ro_45_0, ro_45_1, ro_45_2, ro_46_0, ro_48_0, ro_50_0, ro_52_0, ro_52_1, ro_52_2, ro_52_3, ro_53_0, ro_55_0, ro_57_0, ro_59_0, ro_61_0, ro_61_1, ro_61_2, ro_61_3, ro_62_0, ro_64_0, ro_66_0, ro_68_0, ro_70_0, ro_70_1, ro_70_2, ro_70_3, ro_70_4, ro_70_5, ro_70_6, ro_70_7, ro_70_8, ro_70_9, ro_71_0, ro_73_0, ro_75_0, ro_77_0, ro_79_0, ro_81_0, ro_83_0, ro_85_0, ro_87_0, ro_89_0, ro_91_0, ro_91_1, ro_91_2, ro_91_3, ro_91_4, ro_91_5, ro_91_6, ro_91_7, ro_91_8, ro_91_9, ro_92_0, ro_94_0, ro_96_0, ro_98_0, ro_100_0, ro_102_0, ro_104_0, ro_106_0, ro_108_0, ro_110_0, ro_112_0, ro_112_1, ro_112_2, ro_112_3, ro_112_4, ro_112_5, ro_112_6, ro_112_7, ro_112_8, ro_112_9, ro_113_0, ro_115_0, ro_117_0, ro_119_0, ro_121_0, ro_123_0, ro_125_0, ro_127_0, ro_129_0, ro_131_0, ro_133_0, ro_133_1, ro_133_2, ro_133_3, ro_133_4, ro_133_5, ro_133_6, ro_133_7, ro_133_8, ro_133_9, ro_134_0, ro_136_0, ro_138_0, ro_140_0, ro_142_0, ro_144_0, ro_146_0, ro_148_0, ro_150_0, ro_152_0, ro_154_0, ro_155_0, ro_157_0, ro_157_1, ro_157_2, ro_157_3, ro_157_4, ro_157_5, ro_157_6, ro_157_7, ro_157_8, ro_157_9, ro_158_0, ro_160_0, ro_162_0, ro_164_0, ro_166_0, ro_168_0, ro_170_0, ro_172_0, ro_174_0, ro_176_0, ro_178_0, ro_180_0, ro_182_1, ro_182_4, ro_182_5, ro_182_6, ro_182_9, ro_182_10, ro_182_11, ro_182_13, ro_182_14, ro_182_15, ro_182_16, ro_182_17, ro_182_20, ro_182_21, ro_182_22, ro_182_23, ro_182_24, ro_182_26, ro_182_27, ro_182_28, lo_3, lo_5, lo_7, lo_9, lo_11, lo_13, lo_15, lo_17, lo_19, lo_21, lo_24, lo_26, lo_28, lo_30, lo_32, lo_34, lo_36, lo_38, lo_40, lo_42, lo_44, lo_47, lo_49, lo_51, lo_54, lo_56, lo_58, lo_60, lo_63, lo_65, lo_67, lo_69, lo_72, lo_74, lo_76, lo_78, lo_80, lo_82, lo_84, lo_86, lo_88, lo_90, lo_93, lo_95, lo_97, lo_99, lo_101, lo_103, lo_105, lo_107, lo_109, lo_111, lo_114, lo_116, lo_118, lo_120, lo_122, lo_124, lo_126, lo_128, lo_130, lo_132, lo_135, lo_137, lo_139, lo_141, lo_143, lo_145, lo_147, lo_149, lo_151, lo_153, lo_156, lo_159, lo_161, lo_163, lo_165, lo_167, lo_169, lo_171, lo_173, lo_175, lo_177, lo_179, lo_181, lo_183, lo_184, lo_185, lo_186, lo_187, lo_188, lo_189, lo_190, lo_191, lo_192, lo_193, lo_194, lo_195, lo_196, lo_197, lo_198, lo_199, lo_200, lo_201, lo_202, lo_203, jp_nn, jp_eq, jp_e1, Classical.not_not, ji0, ji1, ji2, cs17_64, kk_64, cs17_82, kk_82, cs17_83, kk_83, cs17_85, kk_85, cs17_88, kk_88, cs17_86, kk_86, cs17_87, kk_87, jl_0, jl_1, jl_2, jl_3, jl_4, jl_5, jl_6, jl_7, jl_8, jl_9, jl_10, jl_11, jl_12, jl_13, jl_14, jl_15, jl_16, jl_17, jl_18, jl_19, jl_20, jl_21, jl_22, jl_23, jl_24, jl_25, jl_26, jl_27, jl_28, jl_29, jl_30, jl_31, jl_32, jl_33, jl_34, jl_35, jl_36, jl_37, jl_38, jl_39, jl_40, jl_95, jl_96, jl_97, jl_98, jl_99, jl_100, jl_101, jl_102, jl_103, jl_104, jl_105, jl_106, jl_107, jl_108, jl_109, jl_110, jl_111, jl_112, jl_113, jl_114, jl_186, jl_1100, jr, ju, jpT, jpF, tnc, Nat.reduceEqDiff, reduceIte, and_false, false_and, not_true_eq_false, not_false_eq_true, or_false, gt_iff_lt, ge_iff_le, Int.lt_irrefl, Int.le_refl, yk, yk', e82, ep, m5_w, y5a, y5b, r5_w, ek]
          exact ⟨l, O, _, m1_w, fin_w⟩
      · -- a bracket opens
        have ip : isPt (tS T) (tV T) wl (i0 + k) := Or.inr (Or.inr (Or.inl s40))
        have lt : i0 + k < T.2.1 := isPt_lt s0 tle ip
        by_cases y5 : dpw l = 5
        · have e : (eB ((sD (tS T) (tP T) (tV T) wl 5).1 i0) fun r => sSgn (tS T) (tP T) (tV T) 59 r.2) = .error (er (tP T) 5 (i0 + k)) := by
            rw [ev_w, denT_5 y5 ip]
            rfl
          have fin_w := q1_w 5 _ h1 (by decide) (by decide) e f1_w t1_w
          have m5' : h1 45 5 = 5 := by rw [m5_w, y5]; rfl
          simp only [qe_1, qe_3, qe_4, qe_5, qe_7, qe_72, qe_10, qe_102, qe_13, qe_14, qe_15, qe_16, qe_17, qe_18, qe_20, qe_22, qe_23, qe_21, qe_24, qe_25, qe_26, qe_27, qe_28, qe_30, qe_31, qe_32, qc_20, qc_22, qc_23, qc_21, qc_24, qc_25, qc_26, qc_27, qc_1, qc_3, qc_4, qc_7, qc_13, qc_28, qc_32, qs_1, qs_2, qs_3, qs_4, qs_5, qs_6, qs_9, qs_10, qs_11, qs_14, qs_15, qs_16, qs_27, qs_17, qs_18, qs_19, qs_20, qs_22, qs_23, qs_28, qs_25, qs_26, qs_7, qs_8, kc_1, kn_1, kc_2, kn_2, kc_3, kn_3, kc_4, kn_4, kc_5, kn_5, kc_6, kn_6, kc_7, kn_7, kc_8, kn_8, kc_9, kn_9, kc_10, kn_10, kc_11, kn_11, kc_12, kn_12, kc_13, kn_13, kc_14, kn_14, kc_15, kn_15, kc_16, kc_17, kc_18, kc_19, kc_20, kc_21, kc_22, kc_23, kc_30, kc_32, kc_40, kc_43, kc_45, kc_48, kc_52, kc_56, kc_57, kc_59, kc_60, kc_61, kc_63, kc_64, kc_72, kc_78, kc_97, kc_99, kc_122, kc_126, kc_128, kc_192, kc_200, kc_255, kc_999, kc_1000, kc_9999, kn_9999, kc_10000, kc_12345, kc_65536, kc_252645135, kc_858993459, kc_1103515245, kc_1431655765, kc_2147483647, kc_0, kc_24, kc_28, kc_37, kc_41, kc_42, kc_73, kc_91, kc_95, kc_96, kc_98, kc_100, kc_112, kc_125, kc_150, kc_162, kc_163, kc_168, kc_186, kc_190, kc_250, kc_355, kc_356, kc_404, kc_405, kc_429, kc_573, kc_1002, kc_1100, kc_1891, kc_2200, kc_4719, kc_4869, kc_4881, kc_5148, kc_19741, kc_25433, kc_320403, kc_628412, kc_629093, kc_660401, kc_679843, kc_918640, kc_979410, kc_1178088, kc_6232410, kc_24644941, kc_36238189, kc_38270444, kc_392531318, kc_425693491, kc_1342154595, kc_2147483648, kc_42328242873, kc_891704255789, kc_1722105685577, kc_1858726030364, ct_0, ct_1, ct_2, ct_3, ct_4, ct_5, cf_0, cf_1, cf_2, cf_3, cf_4, cf_5, w_ty6, w_ty7, m_sv, m_z0, m_hd, m_g0, m_gs, m_s0, m_ss, m_ap, m_an, forall_const, true_and, and_true, ne_eq, not_true_eq_false, not_false_eq_true, false_implies, true_implies, implies_true, eq_self, reduceCtorEq, Nat.reduceDiv, Nat.reduceMod, Int.reduceToNat, or_true, true_or, or_false, false_or, or_self, m_it, m_if, m_c1, m_01, m_02, m_03, m_04, m_10, m_12, m_13, m_14, m_20, m_21, m_23, m_24, m_30, m_31, m_32, m_34, m_40, m_41, m_42, m_43, Int.reduceLE, Int.reduceLT, Int.reduceGE, Int.reduceGT, Int.reduceNeg, Int.reduceAdd, Int.reduceSub, Int.reduceMul, Int.reduceEq, Int.reduceNe, Nat.reduceAdd, jun2, ro_0_0, ro_0_1, ro_0_2, ro_0_3, ro_0_4, ro_0_5, ro_0_6, ro_0_7, ro_0_8, ro_0_9, ro_0_10, ro_0_11, ro_0_12, ro_1_0, ro_1_1, ro_2_0, ro_4_0, ro_6_0, ro_6_1, ro_6_2, ro_6_3, ro_6_4, ro_6_5, ro_6_6, ro_6_7, ro_6_8, ro_8_0, ro_10_0, ro_12_0, ro_14_0, ro_16_0, ro_18_0, ro_20_0, ro_22_0, ro_22_1, ro_22_2, ro_23_0, ro_25_0, ro_27_0, ro_29_0, ro_29_1, ro_29_2, ro_29_3, ro_29_4, ro_29_5, ro_29_6, ro_29_7, ro_29_8, ro_31_0, ro_33_0, ro_35_0, ro_37_0, ro_39_0, ro_41_0, ro_43_0, ro_45_0, ro_45_1, ro_45_2, ro_46_0, ro_48_0, ro_50_0, ro_52_0, ro_52_1, ro_52_2, ro_52_3, ro_53_0, ro_55_0, ro_57_0, ro_59_0, ro_61_0, ro_61_1, ro_61_2, ro_61_3, ro_62_0, ro_64_0, ro_66_0, ro_68_0, ro_70_0, ro_70_1, ro_70_2, ro_70_3, ro_70_4, ro_70_5, ro_70_6, ro_70_7, ro_70_8, ro_70_9, ro_71_0, ro_73_0, ro_75_0, ro_77_0, ro_79_0, ro_81_0, ro_83_0, ro_85_0, ro_87_0, ro_89_0, ro_91_0, ro_91_1, ro_91_2, ro_91_3, ro_91_4, ro_91_5, ro_91_6, ro_91_7, ro_91_8, ro_91_9, ro_92_0, ro_94_0, ro_96_0, ro_98_0, ro_100_0, ro_102_0, ro_104_0, ro_106_0, ro_108_0, ro_110_0, ro_112_0, ro_112_1, ro_112_2, ro_112_3, ro_112_4, ro_112_5, ro_112_6, ro_112_7, ro_112_8, ro_112_9, ro_113_0, ro_115_0, ro_117_0, ro_119_0, ro_121_0, ro_123_0, ro_125_0, ro_127_0, ro_129_0, ro_131_0, ro_133_0, ro_133_1, ro_133_2, ro_133_3, ro_133_4, ro_133_5, ro_133_6, ro_133_7, ro_133_8, ro_133_9, ro_134_0, ro_136_0, ro_138_0, ro_140_0, ro_142_0, ro_144_0, ro_146_0, ro_148_0, ro_150_0, ro_152_0, ro_154_0, ro_155_0, ro_157_0, ro_157_1, ro_157_2, ro_157_3, ro_157_4, ro_157_5, ro_157_6, ro_157_7, ro_157_8, ro_157_9, ro_158_0, ro_160_0, ro_162_0, ro_164_0, ro_166_0, ro_168_0, ro_170_0, ro_172_0, ro_174_0, ro_176_0, ro_178_0, ro_180_0, ro_182_1, ro_182_4, ro_182_5, ro_182_6, ro_182_9, ro_182_10, ro_182_11, ro_182_13, ro_182_14, ro_182_15, ro_182_16, ro_182_17, ro_182_20, ro_182_21, ro_182_22, ro_182_23, ro_182_24, ro_182_26, ro_182_27, ro_182_28, lo_3, lo_5, lo_7, lo_9, lo_11, lo_13, lo_15, lo_17, lo_19, lo_21, lo_24, lo_26, lo_28, lo_30, lo_32, lo_34, lo_36, lo_38, lo_40, lo_42, lo_44, lo_47, lo_49, lo_51, lo_54, lo_56, lo_58, lo_60, lo_63, lo_65, lo_67, lo_69, lo_72, lo_74, lo_76, lo_78, lo_80, lo_82, lo_84, lo_86, lo_88, lo_90, lo_93, lo_95, lo_97, lo_99, lo_101, lo_103, lo_105, lo_107, lo_109, lo_111, lo_114, lo_116, lo_118, lo_120, lo_122, lo_124, lo_126, lo_128, lo_130, lo_132, lo_135, lo_137, lo_139, lo_141, lo_143, lo_145, lo_147, lo_149, lo_151, lo_153, lo_156, lo_159, lo_161, lo_163, lo_165, lo_167, lo_169, lo_171, lo_173, lo_175, lo_177, lo_179, lo_181, lo_183, lo_184, lo_185, lo_186, lo_187, lo_188, lo_189, lo_190, lo_191, lo_192, lo_193, lo_194, lo_195, lo_196, lo_197, lo_198, lo_199, lo_200, lo_201, lo_202, lo_203, jp_nn, jp_eq, jp_e1, Classical.not_not, ji0, ji1, ji2, cs17_64, kk_64, cs17_82, kk_82, cs17_83, kk_83, cs17_85, kk_85, cs17_88, kk_88, cs17_86, kk_86, cs17_87, kk_87, jl_0, jl_1, jl_2, jl_3, jl_4, jl_5, jl_6, jl_7, jl_8, jl_9, jl_10, jl_11, jl_12, jl_13, jl_14, jl_15, jl_16, jl_17, jl_18, jl_19, jl_20, jl_21, jl_22, jl_23, jl_24, jl_25, jl_26, jl_27, jl_28, jl_29, jl_30, jl_31, jl_32, jl_33, jl_34, jl_35, jl_36, jl_37, jl_38, jl_39, jl_40, jl_95, jl_96, jl_97, jl_98, jl_99, jl_100, jl_101, jl_102, jl_103, jl_104, jl_105, jl_106, jl_107, jl_108, jl_109, jl_110, jl_111, jl_112, jl_113, jl_114, jl_186, jl_1100, jr, ju, jpT, jpF, tnc, Nat.reduceEqDiff, reduceIte, and_false, false_and, not_true_eq_false, not_false_eq_true, or_false, gt_iff_lt, ge_iff_le, Int.lt_irrefl, Int.le_refl, yk, yk', e82, ep, m5']
          exact fin_w
        · have y5a : ¬ (5 : Int) ≤ (dpw l : Int) := by omega
          have y5b : (dpw l : Int) < 5 := by omega
          have r5_w : rkk (-13) = 0 := rfl
          have fin_w : ∃ (l O : List Int) (d : Int), LM l O d h1 ∧ l.length < 64 ∧ O.length + l.length < 1000 ∧ (ntn l : Int) ≤ d ∧ d ≤ 99 ∧ ∀ h2, FW h1 h2 → LM (-13 :: l) O (d + 1) h2 → ∃ n p : Nat, BYT n h2 ∧ h2 2 2 = (p : Int) ∧ p ≤ n ∧ ∀ h3, FT h2 h3 → ADV (h2 3) n p h3 → LWI T i0 h [45, 2, 1, ((k + 1 : Nat) : Int), -13] h3 := by
            refine ⟨l, O, _, m1_w, by omega, by omega, by omega, by omega, fun h2 f2_w m2_w => adv_w h2 lt (f2_w.tca t1_w) _ fun h3 f3_w t3_w => ?_⟩
            have d5 : dpw (-13 :: l) = dpw l + 1 := dp_c13
            refine ⟨k + 1, -13, -13 :: l, O, 1, rfl, t3_w, f1_w.tr (f2_w.lw.tr f3_w.lw), ?_, ⟨hs, Or.inl rfl⟩, by omega, ?_, Or.inl ⟨rfl, ?_⟩⟩
            · rw [d5]
              exact f3_w.lm m2_w
            · show O.length + (l.length + 1) ≤ k + 1
              omega
            · rw [ev_w, denT_op (by omega) s40]
              rfl
          simp only [qe_1, qe_3, qe_4, qe_5, qe_7, qe_72, qe_10, qe_102, qe_13, qe_14, qe_15, qe_16, qe_17, qe_18, qe_20, qe_22, qe_23, qe_21, qe_24, qe_25, qe_26, qe_27, qe_28, qe_30, qe_31, qe_32, qc_20, qc_22, qc_23, qc_21, qc_24, qc_25, qc_26, qc_27, qc_1, qc_3, qc_4, qc_7, qc_13, qc_28, qc_32, qs_1, qs_2, qs_3, qs_4, qs_5, qs_6, qs_9, qs_10, qs_11, qs_14, qs_15, qs_16, qs_27, qs_17, qs_18, qs_19, qs_20, qs_22, qs_23, qs_28, qs_25, qs_26, qs_7, qs_8, kc_1, kn_1, kc_2, kn_2, kc_3, kn_3, kc_4, kn_4, kc_5, kn_5, kc_6, kn_6, kc_7, kn_7, kc_8, kn_8, kc_9, kn_9, kc_10, kn_10, kc_11, kn_11, kc_12, kn_12, kc_13, kn_13, kc_14, kn_14, kc_15, kn_15, kc_16, kc_17, kc_18, kc_19, kc_20, kc_21, kc_22, kc_23, kc_30, kc_32, kc_40, kc_43, kc_45, kc_48, kc_52, kc_56, kc_57, kc_59, kc_60, kc_61, kc_63, kc_64, kc_72, kc_78, kc_97, kc_99, kc_122, kc_126, kc_128, kc_192, kc_200, kc_255, kc_999, kc_1000, kc_9999, kn_9999, kc_10000, kc_12345, kc_65536, kc_252645135, kc_858993459, kc_1103515245, kc_1431655765, kc_2147483647, kc_0, kc_24, kc_28, kc_37, kc_41, kc_42, kc_73, kc_91, kc_95, kc_96, kc_98, kc_100, kc_112, kc_125, kc_150, kc_162, kc_163, kc_168, kc_186, kc_190, kc_250, kc_355, kc_356, kc_404, kc_405, kc_429, kc_573, kc_1002, kc_1100, kc_1891, kc_2200, kc_4719, kc_4869, kc_4881, kc_5148, kc_19741, kc_25433, kc_320403, kc_628412, kc_629093, kc_660401, kc_679843, kc_918640, kc_979410, kc_1178088, kc_6232410, kc_24644941, kc_36238189, kc_38270444, kc_392531318, kc_425693491, kc_1342154595, kc_2147483648, kc_42328242873, kc_891704255789, kc_1722105685577, kc_1858726030364, ct_0, ct_1, ct_2, ct_3, ct_4, ct_5, cf_0, cf_1, cf_2, cf_3, cf_4, cf_5, w_ty6, w_ty7, m_sv, m_z0, m_hd, m_g0, m_gs, m_s0, m_ss, m_ap, m_an, forall_const, true_and, and_true, ne_eq, not_true_eq_false, not_false_eq_true, false_implies, true_implies, implies_true, eq_self, reduceCtorEq, Nat.reduceDiv, Nat.reduceMod, Int.reduceToNat, or_true, true_or, or_false, false_or, or_self, m_it, m_if, m_c1, m_01, m_02, m_03, m_04, m_10, m_12, m_13, m_14, m_20, m_21, m_23, m_24, m_30, m_31, m_32, m_34, m_40, m_41, m_42, m_43, Int.reduceLE, Int.reduceLT, Int.reduceGE, Int.reduceGT, Int.reduceNeg, Int.reduceAdd, Int.reduceSub, Int.reduceMul, Int.reduceEq, Int.reduceNe, Nat.reduceAdd, jun2, ro_0_0, ro_0_1, ro_0_2, ro_0_3, ro_0_4, ro_0_5, ro_0_6, ro_0_7, ro_0_8, ro_0_9, ro_0_10, ro_0_11, ro_0_12, ro_1_0, ro_1_1, ro_2_0, ro_4_0, ro_6_0, ro_6_1, ro_6_2, ro_6_3, ro_6_4, ro_6_5, ro_6_6, ro_6_7, ro_6_8, ro_8_0, ro_10_0, ro_12_0, ro_14_0, ro_16_0, ro_18_0, ro_20_0, ro_22_0, ro_22_1, ro_22_2, ro_23_0, ro_25_0, ro_27_0, ro_29_0, ro_29_1, ro_29_2, ro_29_3, ro_29_4, ro_29_5, ro_29_6, ro_29_7, ro_29_8, ro_31_0, ro_33_0, ro_35_0, ro_37_0, ro_39_0, ro_41_0, ro_43_0, ro_45_0, ro_45_1, ro_45_2, ro_46_0, ro_48_0, ro_50_0, ro_52_0, ro_52_1, ro_52_2, ro_52_3, ro_53_0, ro_55_0, ro_57_0, ro_59_0, ro_61_0, ro_61_1, ro_61_2, ro_61_3, ro_62_0, ro_64_0, ro_66_0, ro_68_0, ro_70_0, ro_70_1, ro_70_2, ro_70_3, ro_70_4, ro_70_5, ro_70_6, ro_70_7, ro_70_8, ro_70_9, ro_71_0, ro_73_0, ro_75_0, ro_77_0, ro_79_0, ro_81_0, ro_83_0, ro_85_0, ro_87_0, ro_89_0, ro_91_0, ro_91_1, ro_91_2, ro_91_3, ro_91_4, ro_91_5, ro_91_6, ro_91_7, ro_91_8, ro_91_9, ro_92_0, ro_94_0, ro_96_0, ro_98_0, ro_100_0, ro_102_0, ro_104_0, ro_106_0, ro_108_0, ro_110_0, ro_112_0, ro_112_1, ro_112_2, ro_112_3, ro_112_4, ro_112_5, ro_112_6, ro_112_7, ro_112_8, ro_112_9, ro_113_0, ro_115_0, ro_117_0, ro_119_0, ro_121_0, ro_123_0, ro_125_0, ro_127_0, ro_129_0, ro_131_0, ro_133_0, ro_133_1, ro_133_2, ro_133_3, ro_133_4, ro_133_5, ro_133_6, ro_133_7, ro_133_8, ro_133_9, ro_134_0, ro_136_0, ro_138_0, ro_140_0, ro_142_0, ro_144_0, ro_146_0, ro_148_0, ro_150_0, ro_152_0, ro_154_0, ro_155_0, ro_157_0, ro_157_1, ro_157_2, ro_157_3, ro_157_4, ro_157_5, ro_157_6, ro_157_7, ro_157_8, ro_157_9, ro_158_0, ro_160_0, ro_162_0, ro_164_0, ro_166_0, ro_168_0, ro_170_0, ro_172_0, ro_174_0, ro_176_0, ro_178_0, ro_180_0, ro_182_1, ro_182_4, ro_182_5, ro_182_6, ro_182_9, ro_182_10, ro_182_11, ro_182_13, ro_182_14, ro_182_15, ro_182_16, ro_182_17, ro_182_20, ro_182_21, ro_182_22, ro_182_23, ro_182_24, ro_182_26, ro_182_27, ro_182_28, lo_3, lo_5, lo_7, lo_9, lo_11, lo_13, lo_15, lo_17, lo_19, lo_21, lo_24, lo_26, lo_28, lo_30, lo_32, lo_34, lo_36, lo_38, lo_40, lo_42, lo_44, lo_47, lo_49, lo_51, lo_54, lo_56, lo_58, lo_60, lo_63, lo_65, lo_67, lo_69, lo_72, lo_74, lo_76, lo_78, lo_80, lo_82, lo_84, lo_86, lo_88, lo_90, lo_93, lo_95, lo_97, lo_99, lo_101, lo_103, lo_105, lo_107, lo_109, lo_111, lo_114, lo_116, lo_118, lo_120, lo_122, lo_124, lo_126, lo_128, lo_130, lo_132, lo_135, lo_137, lo_139, lo_141, lo_143, lo_145, lo_147, lo_149, lo_151, lo_153, lo_156, lo_159, lo_161, lo_163, lo_165, lo_167, lo_169, lo_171, lo_173, lo_175, lo_177, lo_179, lo_181, lo_183, lo_184, lo_185, lo_186, lo_187, lo_188, lo_189, lo_190, lo_191, lo_192, lo_193, lo_194, lo_195, lo_196, lo_197, lo_198, lo_199, lo_200, lo_201, lo_202, lo_203, jp_nn, jp_eq, jp_e1, Classical.not_not, ji0, ji1, ji2, cs17_64, kk_64, cs17_82, kk_82, cs17_83, kk_83, cs17_85, kk_85, cs17_88, kk_88, cs17_86, kk_86, cs17_87, kk_87, jl_0, jl_1, jl_2, jl_3, jl_4, jl_5, jl_6, jl_7, jl_8, jl_9, jl_10, jl_11, jl_12, jl_13, jl_14, jl_15, jl_16, jl_17, jl_18, jl_19, jl_20, jl_21, jl_22, jl_23, jl_24, jl_25, jl_26, jl_27, jl_28, jl_29, jl_30, jl_31, jl_32, jl_33, jl_34, jl_35, jl_36, jl_37, jl_38, jl_39, jl_40, jl_95, jl_96, jl_97, jl_98, jl_99, jl_100, jl_101, jl_102, jl_103, jl_104, jl_105, jl_106, jl_107, jl_108, jl_109, jl_110, jl_111, jl_112, jl_113, jl_114, jl_186, jl_1100, jr, ju, jpT, jpF, tnc, Nat.reduceEqDiff, reduceIte, and_false, false_and, not_true_eq_false, not_false_eq_true, or_false, gt_iff_lt, ge_iff_le, Int.lt_irrefl, Int.le_refl, yk, yk', e82, ep, m5_w, y5a, y5b, r5_w, ek]
          exact ⟨l, O, _, m1_w, fin_w⟩
      · -- a number_w, a fact
        have lt : i0 + k < T.2.1 := isPt_lt s0 tle ip
        generalize ptv T (i0 + k) = tok at e82 ge ec
        have n15 : ¬ tok = -15 := by omega
        have n14_w : ¬ tok = -14 := by omega
        have n13 : ¬ tok = -13 := by omega
        have n5_w : ¬ tok = -5 := by omega
        by_cases y5 : dpw l = 5
        · have e : (eB ((sD (tS T) (tP T) (tV T) wl 5).1 i0) fun r => sSgn (tS T) (tP T) (tV T) 59 r.2) = .error (er (tP T) 5 (i0 + k)) := by
            rw [ev_w, denT_5 y5 ip]
            rfl
          have fin_w := q1_w 5 _ h1 (by decide) (by decide) e f1_w t1_w
          have m5' : h1 45 5 = 5 := by rw [m5_w, y5]; rfl
          simp only [qe_1, qe_3, qe_4, qe_5, qe_7, qe_72, qe_10, qe_102, qe_13, qe_14, qe_15, qe_16, qe_17, qe_18, qe_20, qe_22, qe_23, qe_21, qe_24, qe_25, qe_26, qe_27, qe_28, qe_30, qe_31, qe_32, qc_20, qc_22, qc_23, qc_21, qc_24, qc_25, qc_26, qc_27, qc_1, qc_3, qc_4, qc_7, qc_13, qc_28, qc_32, qs_1, qs_2, qs_3, qs_4, qs_5, qs_6, qs_9, qs_10, qs_11, qs_14, qs_15, qs_16, qs_27, qs_17, qs_18, qs_19, qs_20, qs_22, qs_23, qs_28, qs_25, qs_26, qs_7, qs_8, kc_1, kn_1, kc_2, kn_2, kc_3, kn_3, kc_4, kn_4, kc_5, kn_5, kc_6, kn_6, kc_7, kn_7, kc_8, kn_8, kc_9, kn_9, kc_10, kn_10, kc_11, kn_11, kc_12, kn_12, kc_13, kn_13, kc_14, kn_14, kc_15, kn_15, kc_16, kc_17, kc_18, kc_19, kc_20, kc_21, kc_22, kc_23, kc_30, kc_32, kc_40, kc_43, kc_45, kc_48, kc_52, kc_56, kc_57, kc_59, kc_60, kc_61, kc_63, kc_64, kc_72, kc_78, kc_97, kc_99, kc_122, kc_126, kc_128, kc_192, kc_200, kc_255, kc_999, kc_1000, kc_9999, kn_9999, kc_10000, kc_12345, kc_65536, kc_252645135, kc_858993459, kc_1103515245, kc_1431655765, kc_2147483647, kc_0, kc_24, kc_28, kc_37, kc_41, kc_42, kc_73, kc_91, kc_95, kc_96, kc_98, kc_100, kc_112, kc_125, kc_150, kc_162, kc_163, kc_168, kc_186, kc_190, kc_250, kc_355, kc_356, kc_404, kc_405, kc_429, kc_573, kc_1002, kc_1100, kc_1891, kc_2200, kc_4719, kc_4869, kc_4881, kc_5148, kc_19741, kc_25433, kc_320403, kc_628412, kc_629093, kc_660401, kc_679843, kc_918640, kc_979410, kc_1178088, kc_6232410, kc_24644941, kc_36238189, kc_38270444, kc_392531318, kc_425693491, kc_1342154595, kc_2147483648, kc_42328242873, kc_891704255789, kc_1722105685577, kc_1858726030364, ct_0, ct_1, ct_2, ct_3, ct_4, ct_5, cf_0, cf_1, cf_2, cf_3, cf_4, cf_5, w_ty6, w_ty7, m_sv, m_z0, m_hd, m_g0, m_gs, m_s0, m_ss, m_ap, m_an, forall_const, true_and, and_true, ne_eq, not_true_eq_false, not_false_eq_true, false_implies, true_implies, implies_true, eq_self, reduceCtorEq, Nat.reduceDiv, Nat.reduceMod, Int.reduceToNat, or_true, true_or, or_false, false_or, or_self, m_it, m_if, m_c1, m_01, m_02, m_03, m_04, m_10, m_12, m_13, m_14, m_20, m_21, m_23, m_24, m_30, m_31, m_32, m_34, m_40, m_41, m_42, m_43, Int.reduceLE, Int.reduceLT, Int.reduceGE, Int.reduceGT, Int.reduceNeg, Int.reduceAdd, Int.reduceSub, Int.reduceMul, Int.reduceEq, Int.reduceNe, Nat.reduceAdd, jun2, ro_0_0, ro_0_1, ro_0_2, ro_0_3, ro_0_4, ro_0_5, ro_0_6, ro_0_7, ro_0_8, ro_0_9, ro_0_10, ro_0_11, ro_0_12, ro_1_0, ro_1_1, ro_2_0, ro_4_0, ro_6_0, ro_6_1, ro_6_2, ro_6_3, ro_6_4, ro_6_5, ro_6_6, ro_6_7, ro_6_8, ro_8_0, ro_10_0, ro_12_0, ro_14_0, ro_16_0, ro_18_0, ro_20_0, ro_22_0, ro_22_1, ro_22_2, ro_23_0, ro_25_0, ro_27_0, ro_29_0, ro_29_1, ro_29_2, ro_29_3, ro_29_4, ro_29_5, ro_29_6, ro_29_7, ro_29_8, ro_31_0, ro_33_0, ro_35_0, ro_37_0, ro_39_0, ro_41_0, ro_43_0, ro_45_0, ro_45_1, ro_45_2, ro_46_0, ro_48_0, ro_50_0, ro_52_0, ro_52_1, ro_52_2, ro_52_3, ro_53_0, ro_55_0, ro_57_0, ro_59_0, ro_61_0, ro_61_1, ro_61_2, ro_61_3, ro_62_0, ro_64_0, ro_66_0, ro_68_0, ro_70_0, ro_70_1, ro_70_2, ro_70_3, ro_70_4, ro_70_5, ro_70_6, ro_70_7, ro_70_8, ro_70_9, ro_71_0, ro_73_0, ro_75_0, ro_77_0, ro_79_0, ro_81_0, ro_83_0, ro_85_0, ro_87_0, ro_89_0, ro_91_0, ro_91_1, ro_91_2, ro_91_3, ro_91_4, ro_91_5, ro_91_6, ro_91_7, ro_91_8, ro_91_9, ro_92_0, ro_94_0, ro_96_0, ro_98_0, ro_100_0, ro_102_0, ro_104_0, ro_106_0, ro_108_0, ro_110_0, ro_112_0, ro_112_1, ro_112_2, ro_112_3, ro_112_4, ro_112_5, ro_112_6, ro_112_7, ro_112_8, ro_112_9, ro_113_0, ro_115_0, ro_117_0, ro_119_0, ro_121_0, ro_123_0, ro_125_0, ro_127_0, ro_129_0, ro_131_0, ro_133_0, ro_133_1, ro_133_2, ro_133_3, ro_133_4, ro_133_5, ro_133_6, ro_133_7, ro_133_8, ro_133_9, ro_134_0, ro_136_0, ro_138_0, ro_140_0, ro_142_0, ro_144_0, ro_146_0, ro_148_0, ro_150_0, ro_152_0, ro_154_0, ro_155_0, ro_157_0, ro_157_1, ro_157_2, ro_157_3, ro_157_4, ro_157_5, ro_157_6, ro_157_7, ro_157_8, ro_157_9, ro_158_0, ro_160_0, ro_162_0, ro_164_0, ro_166_0, ro_168_0, ro_170_0, ro_172_0, ro_174_0, ro_176_0, ro_178_0, ro_180_0, ro_182_1, ro_182_4, ro_182_5, ro_182_6, ro_182_9, ro_182_10, ro_182_11, ro_182_13, ro_182_14, ro_182_15, ro_182_16, ro_182_17, ro_182_20, ro_182_21, ro_182_22, ro_182_23, ro_182_24, ro_182_26, ro_182_27, ro_182_28, lo_3, lo_5, lo_7, lo_9, lo_11, lo_13, lo_15, lo_17, lo_19, lo_21, lo_24, lo_26, lo_28, lo_30, lo_32, lo_34, lo_36, lo_38, lo_40, lo_42, lo_44, lo_47, lo_49, lo_51, lo_54, lo_56, lo_58, lo_60, lo_63, lo_65, lo_67, lo_69, lo_72, lo_74, lo_76, lo_78, lo_80, lo_82, lo_84, lo_86, lo_88, lo_90, lo_93, lo_95, lo_97, lo_99, lo_101, lo_103, lo_105, lo_107, lo_109, lo_111, lo_114, lo_116, lo_118, lo_120, lo_122, lo_124, lo_126, lo_128, lo_130, lo_132, lo_135, lo_137, lo_139, lo_141, lo_143, lo_145, lo_147, lo_149, lo_151, lo_153, lo_156, lo_159, lo_161, lo_163, lo_165, lo_167, lo_169, lo_171, lo_173, lo_175, lo_177, lo_179, lo_181, lo_183, lo_184, lo_185, lo_186, lo_187, lo_188, lo_189, lo_190, lo_191, lo_192, lo_193, lo_194, lo_195, lo_196, lo_197, lo_198, lo_199, lo_200, lo_201, lo_202, lo_203, jp_nn, jp_eq, jp_e1, Classical.not_not, ji0, ji1, ji2, cs17_64, kk_64, cs17_82, kk_82, cs17_83, kk_83, cs17_85, kk_85, cs17_88, kk_88, cs17_86, kk_86, cs17_87, kk_87, jl_0, jl_1, jl_2, jl_3, jl_4, jl_5, jl_6, jl_7, jl_8, jl_9, jl_10, jl_11, jl_12, jl_13, jl_14, jl_15, jl_16, jl_17, jl_18, jl_19, jl_20, jl_21, jl_22, jl_23, jl_24, jl_25, jl_26, jl_27, jl_28, jl_29, jl_30, jl_31, jl_32, jl_33, jl_34, jl_35, jl_36, jl_37, jl_38, jl_39, jl_40, jl_95, jl_96, jl_97, jl_98, jl_99, jl_100, jl_101, jl_102, jl_103, jl_104, jl_105, jl_106, jl_107, jl_108, jl_109, jl_110, jl_111, jl_112, jl_113, jl_114, jl_186, jl_1100, jr, ju, jpT, jpF, tnc, Nat.reduceEqDiff, reduceIte, and_false, false_and, not_true_eq_false, not_false_eq_true, or_false, gt_iff_lt, ge_iff_le, Int.lt_irrefl, Int.le_refl, yk, yk', e82, n15, n14_w, m5']
          exact fin_w
        · have y5a : ¬ (5 : Int) ≤ (dpw l : Int) := by omega
          have y5b : (dpw l : Int) < 5 := by omega
          have r5_w : ¬ rkk tok = 2 := by
            rcases rkk_cs tok with z | z | z | z | z | z | z | z | z <;> omega
          have fin_w : ∃ (l O : List Int) (d : Int), LM l O d h1 ∧ l.length < 64 ∧ O.length + l.length < 1000 ∧ (ntn l : Int) ≤ d ∧ d ≤ 99 ∧ ∃ c, cst c = tok ∧ ∀ h2, FW h1 h2 → LM (ntk l) (O ++ [c] ++ List.replicate (ntn l) 3) (d - (ntn l : Int)) h2 → ∃ n p : Nat, BYT n h2 ∧ h2 2 2 = (p : Int) ∧ p ≤ n ∧ ∀ h3, FT h2 h3 → ADV (h2 3) n p h3 → LWI T i0 h [45, 2, 0, ((k + 1 : Nat) : Int), tok] h3 := by
            refine ⟨l, O, _, m1_w, by omega, by omega, by omega, by omega, _, ec, fun h2 f2_w m2_w => adv_w h2 lt (f2_w.tca t1_w) _ fun h3 f3_w t3_w => ?_⟩
            obtain ⟨g1, g2, g3_w⟩ := ntk_dp l
            obtain ⟨g3_w, g4⟩ := g3_w hs
            refine ⟨k + 1, tok, ntk l, (O ++ [if tS T (i0 + k) = 2 then 1 + 16 * tV T (i0 + k) else 2 + 16 * fct (tS T) (tV T) wl (i0 + k)] ++ List.replicate (ntn l) 3), 0, rfl, t3_w, f1_w.tr (f2_w.lw.tr f3_w.lw), ?_, g3_w, by omega, ?_, Or.inr ⟨rfl, g4, ?_⟩⟩
            · rw [show ((dpw (ntk l) : Nat) : Int) = (dpw l : Int) - (ntn l : Int) by omega]
              exact f3_w.lm m2_w
            · rw [List.length_append, List.length_append, List.length_replicate]
              show O.length + 1 + ntn l + (ntk l).length ≤ k + 1
              omega
            · rw [ev_w, denT_pt (by omega) ip n17 n40_w, den_nt]
              rfl
          simp only [qe_1, qe_3, qe_4, qe_5, qe_7, qe_72, qe_10, qe_102, qe_13, qe_14, qe_15, qe_16, qe_17, qe_18, qe_20, qe_22, qe_23, qe_21, qe_24, qe_25, qe_26, qe_27, qe_28, qe_30, qe_31, qe_32, qc_20, qc_22, qc_23, qc_21, qc_24, qc_25, qc_26, qc_27, qc_1, qc_3, qc_4, qc_7, qc_13, qc_28, qc_32, qs_1, qs_2, qs_3, qs_4, qs_5, qs_6, qs_9, qs_10, qs_11, qs_14, qs_15, qs_16, qs_27, qs_17, qs_18, qs_19, qs_20, qs_22, qs_23, qs_28, qs_25, qs_26, qs_7, qs_8, kc_1, kn_1, kc_2, kn_2, kc_3, kn_3, kc_4, kn_4, kc_5, kn_5, kc_6, kn_6, kc_7, kn_7, kc_8, kn_8, kc_9, kn_9, kc_10, kn_10, kc_11, kn_11, kc_12, kn_12, kc_13, kn_13, kc_14, kn_14, kc_15, kn_15, kc_16, kc_17, kc_18, kc_19, kc_20, kc_21, kc_22, kc_23, kc_30, kc_32, kc_40, kc_43, kc_45, kc_48, kc_52, kc_56, kc_57, kc_59, kc_60, kc_61, kc_63, kc_64, kc_72, kc_78, kc_97, kc_99, kc_122, kc_126, kc_128, kc_192, kc_200, kc_255, kc_999, kc_1000, kc_9999, kn_9999, kc_10000, kc_12345, kc_65536, kc_252645135, kc_858993459, kc_1103515245, kc_1431655765, kc_2147483647, kc_0, kc_24, kc_28, kc_37, kc_41, kc_42, kc_73, kc_91, kc_95, kc_96, kc_98, kc_100, kc_112, kc_125, kc_150, kc_162, kc_163, kc_168, kc_186, kc_190, kc_250, kc_355, kc_356, kc_404, kc_405, kc_429, kc_573, kc_1002, kc_1100, kc_1891, kc_2200, kc_4719, kc_4869, kc_4881, kc_5148, kc_19741, kc_25433, kc_320403, kc_628412, kc_629093, kc_660401, kc_679843, kc_918640, kc_979410, kc_1178088, kc_6232410, kc_24644941, kc_36238189, kc_38270444, kc_392531318, kc_425693491, kc_1342154595, kc_2147483648, kc_42328242873, kc_891704255789, kc_1722105685577, kc_1858726030364, ct_0, ct_1, ct_2, ct_3, ct_4, ct_5, cf_0, cf_1, cf_2, cf_3, cf_4, cf_5, w_ty6, w_ty7, m_sv, m_z0, m_hd, m_g0, m_gs, m_s0, m_ss, m_ap, m_an, forall_const, true_and, and_true, ne_eq, not_true_eq_false, not_false_eq_true, false_implies, true_implies, implies_true, eq_self, reduceCtorEq, Nat.reduceDiv, Nat.reduceMod, Int.reduceToNat, or_true, true_or, or_false, false_or, or_self, m_it, m_if, m_c1, m_01, m_02, m_03, m_04, m_10, m_12, m_13, m_14, m_20, m_21, m_23, m_24, m_30, m_31, m_32, m_34, m_40, m_41, m_42, m_43, Int.reduceLE, Int.reduceLT, Int.reduceGE, Int.reduceGT, Int.reduceNeg, Int.reduceAdd, Int.reduceSub, Int.reduceMul, Int.reduceEq, Int.reduceNe, Nat.reduceAdd, jun2, ro_0_0, ro_0_1, ro_0_2, ro_0_3, ro_0_4, ro_0_5, ro_0_6, ro_0_7, ro_0_8, ro_0_9, ro_0_10, ro_0_11, ro_0_12, ro_1_0, ro_1_1, ro_2_0, ro_4_0, ro_6_0, ro_6_1, ro_6_2, ro_6_3, ro_6_4, ro_6_5, ro_6_6, ro_6_7, ro_6_8, ro_8_0, ro_10_0, ro_12_0, ro_14_0, ro_16_0, ro_18_0, ro_20_0, ro_22_0, ro_22_1, ro_22_2, ro_23_0, ro_25_0, ro_27_0, ro_29_0, ro_29_1, ro_29_2, ro_29_3, ro_29_4, ro_29_5, ro_29_6, ro_29_7, ro_29_8, ro_31_0, ro_33_0, ro_35_0, ro_37_0, ro_39_0, ro_41_0, ro_43_0, ro_45_0, ro_45_1, ro_45_2, ro_46_0, ro_48_0, ro_50_0, ro_52_0, ro_52_1, ro_52_2, ro_52_3, ro_53_0, ro_55_0, ro_57_0, ro_59_0, ro_61_0, ro_61_1, ro_61_2, ro_61_3, ro_62_0, ro_64_0, ro_66_0, ro_68_0, ro_70_0, ro_70_1, ro_70_2, ro_70_3, ro_70_4, ro_70_5, ro_70_6, ro_70_7, ro_70_8, ro_70_9, ro_71_0, ro_73_0, ro_75_0, ro_77_0, ro_79_0, ro_81_0, ro_83_0, ro_85_0, ro_87_0, ro_89_0, ro_91_0, ro_91_1, ro_91_2, ro_91_3, ro_91_4, ro_91_5, ro_91_6, ro_91_7, ro_91_8, ro_91_9, ro_92_0, ro_94_0, ro_96_0, ro_98_0, ro_100_0, ro_102_0, ro_104_0, ro_106_0, ro_108_0, ro_110_0, ro_112_0, ro_112_1, ro_112_2, ro_112_3, ro_112_4, ro_112_5, ro_112_6, ro_112_7, ro_112_8, ro_112_9, ro_113_0, ro_115_0, ro_117_0, ro_119_0, ro_121_0, ro_123_0, ro_125_0, ro_127_0, ro_129_0, ro_131_0, ro_133_0, ro_133_1, ro_133_2, ro_133_3, ro_133_4, ro_133_5, ro_133_6, ro_133_7, ro_133_8, ro_133_9, ro_134_0, ro_136_0, ro_138_0, ro_140_0, ro_142_0, ro_144_0, ro_146_0, ro_148_0, ro_150_0, ro_152_0, ro_154_0, ro_155_0, ro_157_0, ro_157_1, ro_157_2, ro_157_3, ro_157_4, ro_157_5, ro_157_6, ro_157_7, ro_157_8, ro_157_9, ro_158_0, ro_160_0, ro_162_0, ro_164_0, ro_166_0, ro_168_0, ro_170_0, ro_172_0, ro_174_0, ro_176_0, ro_178_0, ro_180_0, ro_182_1, ro_182_4, ro_182_5, ro_182_6, ro_182_9, ro_182_10, ro_182_11, ro_182_13, ro_182_14, ro_182_15, ro_182_16, ro_182_17, ro_182_20, ro_182_21, ro_182_22, ro_182_23, ro_182_24, ro_182_26, ro_182_27, ro_182_28, lo_3, lo_5, lo_7, lo_9, lo_11, lo_13, lo_15, lo_17, lo_19, lo_21, lo_24, lo_26, lo_28, lo_30, lo_32, lo_34, lo_36, lo_38, lo_40, lo_42, lo_44, lo_47, lo_49, lo_51, lo_54, lo_56, lo_58, lo_60, lo_63, lo_65, lo_67, lo_69, lo_72, lo_74, lo_76, lo_78, lo_80, lo_82, lo_84, lo_86, lo_88, lo_90, lo_93, lo_95, lo_97, lo_99, lo_101, lo_103, lo_105, lo_107, lo_109, lo_111, lo_114, lo_116, lo_118, lo_120, lo_122, lo_124, lo_126, lo_128, lo_130, lo_132, lo_135, lo_137, lo_139, lo_141, lo_143, lo_145, lo_147, lo_149, lo_151, lo_153, lo_156, lo_159, lo_161, lo_163, lo_165, lo_167, lo_169, lo_171, lo_173, lo_175, lo_177, lo_179, lo_181, lo_183, lo_184, lo_185, lo_186, lo_187, lo_188, lo_189, lo_190, lo_191, lo_192, lo_193, lo_194, lo_195, lo_196, lo_197, lo_198, lo_199, lo_200, lo_201, lo_202, lo_203, jp_nn, jp_eq, jp_e1, Classical.not_not, ji0, ji1, ji2, cs17_64, kk_64, cs17_82, kk_82, cs17_83, kk_83, cs17_85, kk_85, cs17_88, kk_88, cs17_86, kk_86, cs17_87, kk_87, jl_0, jl_1, jl_2, jl_3, jl_4, jl_5, jl_6, jl_7, jl_8, jl_9, jl_10, jl_11, jl_12, jl_13, jl_14, jl_15, jl_16, jl_17, jl_18, jl_19, jl_20, jl_21, jl_22, jl_23, jl_24, jl_25, jl_26, jl_27, jl_28, jl_29, jl_30, jl_31, jl_32, jl_33, jl_34, jl_35, jl_36, jl_37, jl_38, jl_39, jl_40, jl_95, jl_96, jl_97, jl_98, jl_99, jl_100, jl_101, jl_102, jl_103, jl_104, jl_105, jl_106, jl_107, jl_108, jl_109, jl_110, jl_111, jl_112, jl_113, jl_114, jl_186, jl_1100, jr, ju, jpT, jpF, tnc, Nat.reduceEqDiff, reduceIte, and_false, false_and, not_true_eq_false, not_false_eq_true, or_false, gt_iff_lt, ge_iff_le, Int.lt_irrefl, Int.le_refl, yk, yk', e82, n15, n14_w, n13, n5_w, m5_w, y5a, y5b, r5_w, ek]
          exact ⟨l, O, _, m1_w, fin_w⟩
    · -- a sign that joins_w is_w due
      have e83 : jvh h1 = jt (tS T) (tV T) wl (i0 + k) := t1_w.jv
      have ejt : jt (tS T) (tV T) wl (i0 + k) = jt (tS T) (tV T) wl (i0 + k) := rfl
      generalize hj : jt (tS T) (tV T) wl (i0 + k) = tok at e83
      have js : ∀ s, tS T (i0 + k) = 0 → s ≠ (-15 : Int) → tok = s → False := fun s z1 z2 z3 => z2 (by rw [← z3, ← hj]; exact jt_s0 z1)
      have endd : (tok = -15 ∨ (tok = -14 ∧ dpw l = 0)) → dpw l = 0 → ∃ (l O : List Int) (d : Int), LM l O d h1 ∧ O.length + l.length ≤ 1000 ∧ ∀ h', FW h1 h' → LM (rlk 1 l) (O ++ rlo 1 l) d h' → Q 1 [0] h' := fun ht d0_w => by
        refine ⟨l, O, _, m1_w, by omega, fun h2 f2_w m2_w => ?_⟩
        have r0 : rkk tok = 0 := by rcases ht with z | z <;> rw [show tok = _ from by first | exact z | exact z.1] <;> rfl
        have e : (sD (tS T) (tP T) (tV T) wl 5).1 i0 = .ok (O ++ l.map cdt, i0 + k) := by
          rw [ev_w]
          exact den_e0 l 1 O d0_w hs (by decide) (by decide) (by omega) (fun q z1 z2 => ops_no hj z1 z2 (by omega))
        rw [rlo_map l d0_w hs] at m2_w
        exact q2_w _ _ h2 e (f1_w.tr f2_w.lw) (f2_w.tca t1_w) m2_w.2.1.1 m2_w.2.1.2.2 m2_w.2.1.2.1
      rcases jt_cs (S := tS T) (V := tV T) (W := wl) (i := i0 + k) with z15 | z14_w | ⟨r1_w, r4⟩
      · have ht : tok = -15 := hj.symm.trans z15
        by_cases d0_w : dpw l = 0
        · have fin_w := endd (Or.inl ht) d0_w
          have m5' : h1 45 5 = 0 := by rw [m5_w, d0_w]; rfl
          simp only [qe_1, qe_3, qe_4, qe_5, qe_7, qe_72, qe_10, qe_102, qe_13, qe_14, qe_15, qe_16, qe_17, qe_18, qe_20, qe_22, qe_23, qe_21, qe_24, qe_25, qe_26, qe_27, qe_28, qe_30, qe_31, qe_32, qc_20, qc_22, qc_23, qc_21, qc_24, qc_25, qc_26, qc_27, qc_1, qc_3, qc_4, qc_7, qc_13, qc_28, qc_32, qs_1, qs_2, qs_3, qs_4, qs_5, qs_6, qs_9, qs_10, qs_11, qs_14, qs_15, qs_16, qs_27, qs_17, qs_18, qs_19, qs_20, qs_22, qs_23, qs_28, qs_25, qs_26, qs_7, qs_8, kc_1, kn_1, kc_2, kn_2, kc_3, kn_3, kc_4, kn_4, kc_5, kn_5, kc_6, kn_6, kc_7, kn_7, kc_8, kn_8, kc_9, kn_9, kc_10, kn_10, kc_11, kn_11, kc_12, kn_12, kc_13, kn_13, kc_14, kn_14, kc_15, kn_15, kc_16, kc_17, kc_18, kc_19, kc_20, kc_21, kc_22, kc_23, kc_30, kc_32, kc_40, kc_43, kc_45, kc_48, kc_52, kc_56, kc_57, kc_59, kc_60, kc_61, kc_63, kc_64, kc_72, kc_78, kc_97, kc_99, kc_122, kc_126, kc_128, kc_192, kc_200, kc_255, kc_999, kc_1000, kc_9999, kn_9999, kc_10000, kc_12345, kc_65536, kc_252645135, kc_858993459, kc_1103515245, kc_1431655765, kc_2147483647, kc_0, kc_24, kc_28, kc_37, kc_41, kc_42, kc_73, kc_91, kc_95, kc_96, kc_98, kc_100, kc_112, kc_125, kc_150, kc_162, kc_163, kc_168, kc_186, kc_190, kc_250, kc_355, kc_356, kc_404, kc_405, kc_429, kc_573, kc_1002, kc_1100, kc_1891, kc_2200, kc_4719, kc_4869, kc_4881, kc_5148, kc_19741, kc_25433, kc_320403, kc_628412, kc_629093, kc_660401, kc_679843, kc_918640, kc_979410, kc_1178088, kc_6232410, kc_24644941, kc_36238189, kc_38270444, kc_392531318, kc_425693491, kc_1342154595, kc_2147483648, kc_42328242873, kc_891704255789, kc_1722105685577, kc_1858726030364, ct_0, ct_1, ct_2, ct_3, ct_4, ct_5, cf_0, cf_1, cf_2, cf_3, cf_4, cf_5, w_ty6, w_ty7, m_sv, m_z0, m_hd, m_g0, m_gs, m_s0, m_ss, m_ap, m_an, forall_const, true_and, and_true, ne_eq, not_true_eq_false, not_false_eq_true, false_implies, true_implies, implies_true, eq_self, reduceCtorEq, Nat.reduceDiv, Nat.reduceMod, Int.reduceToNat, or_true, true_or, or_false, false_or, or_self, m_it, m_if, m_c1, m_01, m_02, m_03, m_04, m_10, m_12, m_13, m_14, m_20, m_21, m_23, m_24, m_30, m_31, m_32, m_34, m_40, m_41, m_42, m_43, Int.reduceLE, Int.reduceLT, Int.reduceGE, Int.reduceGT, Int.reduceNeg, Int.reduceAdd, Int.reduceSub, Int.reduceMul, Int.reduceEq, Int.reduceNe, Nat.reduceAdd, jun2, ro_0_0, ro_0_1, ro_0_2, ro_0_3, ro_0_4, ro_0_5, ro_0_6, ro_0_7, ro_0_8, ro_0_9, ro_0_10, ro_0_11, ro_0_12, ro_1_0, ro_1_1, ro_2_0, ro_4_0, ro_6_0, ro_6_1, ro_6_2, ro_6_3, ro_6_4, ro_6_5, ro_6_6, ro_6_7, ro_6_8, ro_8_0, ro_10_0, ro_12_0, ro_14_0, ro_16_0, ro_18_0, ro_20_0, ro_22_0, ro_22_1, ro_22_2, ro_23_0, ro_25_0, ro_27_0, ro_29_0, ro_29_1, ro_29_2, ro_29_3, ro_29_4, ro_29_5, ro_29_6, ro_29_7, ro_29_8, ro_31_0, ro_33_0, ro_35_0, ro_37_0, ro_39_0, ro_41_0, ro_43_0, ro_45_0, ro_45_1, ro_45_2, ro_46_0, ro_48_0, ro_50_0, ro_52_0, ro_52_1, ro_52_2, ro_52_3, ro_53_0, ro_55_0, ro_57_0, ro_59_0, ro_61_0, ro_61_1, ro_61_2, ro_61_3, ro_62_0, ro_64_0, ro_66_0, ro_68_0, ro_70_0, ro_70_1, ro_70_2, ro_70_3, ro_70_4, ro_70_5, ro_70_6, ro_70_7, ro_70_8, ro_70_9, ro_71_0, ro_73_0, ro_75_0, ro_77_0, ro_79_0, ro_81_0, ro_83_0, ro_85_0, ro_87_0, ro_89_0, ro_91_0, ro_91_1, ro_91_2, ro_91_3, ro_91_4, ro_91_5, ro_91_6, ro_91_7, ro_91_8, ro_91_9, ro_92_0, ro_94_0, ro_96_0, ro_98_0, ro_100_0, ro_102_0, ro_104_0, ro_106_0, ro_108_0, ro_110_0, ro_112_0, ro_112_1, ro_112_2, ro_112_3, ro_112_4, ro_112_5, ro_112_6, ro_112_7, ro_112_8, ro_112_9, ro_113_0, ro_115_0, ro_117_0, ro_119_0, ro_121_0, ro_123_0, ro_125_0, ro_127_0, ro_129_0, ro_131_0, ro_133_0, ro_133_1, ro_133_2, ro_133_3, ro_133_4, ro_133_5, ro_133_6, ro_133_7, ro_133_8, ro_133_9, ro_134_0, ro_136_0, ro_138_0, ro_140_0, ro_142_0, ro_144_0, ro_146_0, ro_148_0, ro_150_0, ro_152_0, ro_154_0, ro_155_0, ro_157_0, ro_157_1, ro_157_2, ro_157_3, ro_157_4, ro_157_5, ro_157_6, ro_157_7, ro_157_8, ro_157_9, ro_158_0, ro_160_0, ro_162_0, ro_164_0, ro_166_0, ro_168_0, ro_170_0, ro_172_0, ro_174_0, ro_176_0, ro_178_0, ro_180_0, ro_182_1, ro_182_4, ro_182_5, ro_182_6, ro_182_9, ro_182_10, ro_182_11, ro_182_13, ro_182_14, ro_182_15, ro_182_16, ro_182_17, ro_182_20, ro_182_21, ro_182_22, ro_182_23, ro_182_24, ro_182_26, ro_182_27, ro_182_28, lo_3, lo_5, lo_7, lo_9, lo_11, lo_13, lo_15, lo_17, lo_19, lo_21, lo_24, lo_26, lo_28, lo_30, lo_32, lo_34, lo_36, lo_38, lo_40, lo_42, lo_44, lo_47, lo_49, lo_51, lo_54, lo_56, lo_58, lo_60, lo_63, lo_65, lo_67, lo_69, lo_72, lo_74, lo_76, lo_78, lo_80, lo_82, lo_84, lo_86, lo_88, lo_90, lo_93, lo_95, lo_97, lo_99, lo_101, lo_103, lo_105, lo_107, lo_109, lo_111, lo_114, lo_116, lo_118, lo_120, lo_122, lo_124, lo_126, lo_128, lo_130, lo_132, lo_135, lo_137, lo_139, lo_141, lo_143, lo_145, lo_147, lo_149, lo_151, lo_153, lo_156, lo_159, lo_161, lo_163, lo_165, lo_167, lo_169, lo_171, lo_173, lo_175, lo_177, lo_179, lo_181, lo_183, lo_184, lo_185, lo_186, lo_187, lo_188, lo_189, lo_190, lo_191, lo_192, lo_193, lo_194, lo_195, lo_196, lo_197, lo_198, lo_199, lo_200, lo_201, lo_202, lo_203, jp_nn, jp_eq, jp_e1, Classical.not_not, ji0, ji1, ji2, cs17_64, kk_64, cs17_82, kk_82, cs17_83, kk_83, cs17_85, kk_85, cs17_88, kk_88, cs17_86, kk_86, cs17_87, kk_87, jl_0, jl_1, jl_2, jl_3, jl_4, jl_5, jl_6, jl_7, jl_8, jl_9, jl_10, jl_11, jl_12, jl_13, jl_14, jl_15, jl_16, jl_17, jl_18, jl_19, jl_20, jl_21, jl_22, jl_23, jl_24, jl_25, jl_26, jl_27, jl_28, jl_29, jl_30, jl_31, jl_32, jl_33, jl_34, jl_35, jl_36, jl_37, jl_38, jl_39, jl_40, jl_95, jl_96, jl_97, jl_98, jl_99, jl_100, jl_101, jl_102, jl_103, jl_104, jl_105, jl_106, jl_107, jl_108, jl_109, jl_110, jl_111, jl_112, jl_113, jl_114, jl_186, jl_1100, jr, ju, jpT, jpF, tnc, Nat.reduceEqDiff, reduceIte, and_false, false_and, not_true_eq_false, not_false_eq_true, or_false, gt_iff_lt, ge_iff_le, Int.lt_irrefl, Int.le_refl, yk, yk', e83, ht, m5']
          exact fin_w
        · have e : (eB ((sD (tS T) (tP T) (tV T) wl 5).1 i0) fun r => sSgn (tS T) (tP T) (tV T) 59 r.2) = .error (er (tP T) 1 (i0 + k)) := by
            rw [ev_w, (den_en (P := tP T) z15 (by decide) l 1 O hs (by decide) (by decide) (by omega) (fun q z1 z2 => ops_no z15 z1 z2 (by have : rkk (-15) = 0 := rfl; omega))).2 d0_w]
            rfl
          have fin_w := q1_w 1 _ h1 (by decide) (by decide) e f1_w t1_w
          have y1 : (0 : Int) < (dpw l : Int) := by omega
          have y2 : ¬ (dpw l : Int) ≤ 0 := by omega
          simp only [qe_1, qe_3, qe_4, qe_5, qe_7, qe_72, qe_10, qe_102, qe_13, qe_14, qe_15, qe_16, qe_17, qe_18, qe_20, qe_22, qe_23, qe_21, qe_24, qe_25, qe_26, qe_27, qe_28, qe_30, qe_31, qe_32, qc_20, qc_22, qc_23, qc_21, qc_24, qc_25, qc_26, qc_27, qc_1, qc_3, qc_4, qc_7, qc_13, qc_28, qc_32, qs_1, qs_2, qs_3, qs_4, qs_5, qs_6, qs_9, qs_10, qs_11, qs_14, qs_15, qs_16, qs_27, qs_17, qs_18, qs_19, qs_20, qs_22, qs_23, qs_28, qs_25, qs_26, qs_7, qs_8, kc_1, kn_1, kc_2, kn_2, kc_3, kn_3, kc_4, kn_4, kc_5, kn_5, kc_6, kn_6, kc_7, kn_7, kc_8, kn_8, kc_9, kn_9, kc_10, kn_10, kc_11, kn_11, kc_12, kn_12, kc_13, kn_13, kc_14, kn_14, kc_15, kn_15, kc_16, kc_17, kc_18, kc_19, kc_20, kc_21, kc_22, kc_23, kc_30, kc_32, kc_40, kc_43, kc_45, kc_48, kc_52, kc_56, kc_57, kc_59, kc_60, kc_61, kc_63, kc_64, kc_72, kc_78, kc_97, kc_99, kc_122, kc_126, kc_128, kc_192, kc_200, kc_255, kc_999, kc_1000, kc_9999, kn_9999, kc_10000, kc_12345, kc_65536, kc_252645135, kc_858993459, kc_1103515245, kc_1431655765, kc_2147483647, kc_0, kc_24, kc_28, kc_37, kc_41, kc_42, kc_73, kc_91, kc_95, kc_96, kc_98, kc_100, kc_112, kc_125, kc_150, kc_162, kc_163, kc_168, kc_186, kc_190, kc_250, kc_355, kc_356, kc_404, kc_405, kc_429, kc_573, kc_1002, kc_1100, kc_1891, kc_2200, kc_4719, kc_4869, kc_4881, kc_5148, kc_19741, kc_25433, kc_320403, kc_628412, kc_629093, kc_660401, kc_679843, kc_918640, kc_979410, kc_1178088, kc_6232410, kc_24644941, kc_36238189, kc_38270444, kc_392531318, kc_425693491, kc_1342154595, kc_2147483648, kc_42328242873, kc_891704255789, kc_1722105685577, kc_1858726030364, ct_0, ct_1, ct_2, ct_3, ct_4, ct_5, cf_0, cf_1, cf_2, cf_3, cf_4, cf_5, w_ty6, w_ty7, m_sv, m_z0, m_hd, m_g0, m_gs, m_s0, m_ss, m_ap, m_an, forall_const, true_and, and_true, ne_eq, not_true_eq_false, not_false_eq_true, false_implies, true_implies, implies_true, eq_self, reduceCtorEq, Nat.reduceDiv, Nat.reduceMod, Int.reduceToNat, or_true, true_or, or_false, false_or, or_self, m_it, m_if, m_c1, m_01, m_02, m_03, m_04, m_10, m_12, m_13, m_14, m_20, m_21, m_23, m_24, m_30, m_31, m_32, m_34, m_40, m_41, m_42, m_43, Int.reduceLE, Int.reduceLT, Int.reduceGE, Int.reduceGT, Int.reduceNeg, Int.reduceAdd, Int.reduceSub, Int.reduceMul, Int.reduceEq, Int.reduceNe, Nat.reduceAdd, jun2, ro_0_0, ro_0_1, ro_0_2, ro_0_3, ro_0_4, ro_0_5, ro_0_6, ro_0_7, ro_0_8, ro_0_9, ro_0_10, ro_0_11, ro_0_12, ro_1_0, ro_1_1, ro_2_0, ro_4_0, ro_6_0, ro_6_1, ro_6_2, ro_6_3, ro_6_4, ro_6_5, ro_6_6, ro_6_7, ro_6_8, ro_8_0, ro_10_0, ro_12_0, ro_14_0, ro_16_0, ro_18_0, ro_20_0, ro_22_0, ro_22_1, ro_22_2, ro_23_0, ro_25_0, ro_27_0, ro_29_0, ro_29_1, ro_29_2, ro_29_3, ro_29_4, ro_29_5, ro_29_6, ro_29_7, ro_29_8, ro_31_0, ro_33_0, ro_35_0, ro_37_0, ro_39_0, ro_41_0, ro_43_0, ro_45_0, ro_45_1, ro_45_2, ro_46_0, ro_48_0, ro_50_0, ro_52_0, ro_52_1, ro_52_2, ro_52_3, ro_53_0, ro_55_0, ro_57_0, ro_59_0, ro_61_0, ro_61_1, ro_61_2, ro_61_3, ro_62_0, ro_64_0, ro_66_0, ro_68_0, ro_70_0, ro_70_1, ro_70_2, ro_70_3, ro_70_4, ro_70_5, ro_70_6, ro_70_7, ro_70_8, ro_70_9, ro_71_0, ro_73_0, ro_75_0, ro_77_0, ro_79_0, ro_81_0, ro_83_0, ro_85_0, ro_87_0, ro_89_0, ro_91_0, ro_91_1, ro_91_2, ro_91_3, ro_91_4, ro_91_5, ro_91_6, ro_91_7, ro_91_8, ro_91_9, ro_92_0, ro_94_0, ro_96_0, ro_98_0, ro_100_0, ro_102_0, ro_104_0, ro_106_0, ro_108_0, ro_110_0, ro_112_0, ro_112_1, ro_112_2, ro_112_3, ro_112_4, ro_112_5, ro_112_6, ro_112_7, ro_112_8, ro_112_9, ro_113_0, ro_115_0, ro_117_0, ro_119_0, ro_121_0, ro_123_0, ro_125_0, ro_127_0, ro_129_0, ro_131_0, ro_133_0, ro_133_1, ro_133_2, ro_133_3, ro_133_4, ro_133_5, ro_133_6, ro_133_7, ro_133_8, ro_133_9, ro_134_0, ro_136_0, ro_138_0, ro_140_0, ro_142_0, ro_144_0, ro_146_0, ro_148_0, ro_150_0, ro_152_0, ro_154_0, ro_155_0, ro_157_0, ro_157_1, ro_157_2, ro_157_3, ro_157_4, ro_157_5, ro_157_6, ro_157_7, ro_157_8, ro_157_9, ro_158_0, ro_160_0, ro_162_0, ro_164_0, ro_166_0, ro_168_0, ro_170_0, ro_172_0, ro_174_0, ro_176_0, ro_178_0, ro_180_0, ro_182_1, ro_182_4, ro_182_5, ro_182_6, ro_182_9, ro_182_10, ro_182_11, ro_182_13, ro_182_14, ro_182_15, ro_182_16, ro_182_17, ro_182_20, ro_182_21, ro_182_22, ro_182_23, ro_182_24, ro_182_26, ro_182_27, ro_182_28, lo_3, lo_5, lo_7, lo_9, lo_11, lo_13, lo_15, lo_17, lo_19, lo_21, lo_24, lo_26, lo_28, lo_30, lo_32, lo_34, lo_36, lo_38, lo_40, lo_42, lo_44, lo_47, lo_49, lo_51, lo_54, lo_56, lo_58, lo_60, lo_63, lo_65, lo_67, lo_69, lo_72, lo_74, lo_76, lo_78, lo_80, lo_82, lo_84, lo_86, lo_88, lo_90, lo_93, lo_95, lo_97, lo_99, lo_101, lo_103, lo_105, lo_107, lo_109, lo_111, lo_114, lo_116, lo_118, lo_120, lo_122, lo_124, lo_126, lo_128, lo_130, lo_132, lo_135, lo_137, lo_139, lo_141, lo_143, lo_145, lo_147, lo_149, lo_151, lo_153, lo_156, lo_159, lo_161, lo_163, lo_165, lo_167, lo_169, lo_171, lo_173, lo_175, lo_177, lo_179, lo_181, lo_183, lo_184, lo_185, lo_186, lo_187, lo_188, lo_189, lo_190, lo_191, lo_192, lo_193, lo_194, lo_195, lo_196, lo_197, lo_198, lo_199, lo_200, lo_201, lo_202, lo_203, jp_nn, jp_eq, jp_e1, Classical.not_not, ji0, ji1, ji2, cs17_64, kk_64, cs17_82, kk_82, cs17_83, kk_83, cs17_85, kk_85, cs17_88, kk_88, cs17_86, kk_86, cs17_87, kk_87, jl_0, jl_1, jl_2, jl_3, jl_4, jl_5, jl_6, jl_7, jl_8, jl_9, jl_10, jl_11, jl_12, jl_13, jl_14, jl_15, jl_16, jl_17, jl_18, jl_19, jl_20, jl_21, jl_22, jl_23, jl_24, jl_25, jl_26, jl_27, jl_28, jl_29, jl_30, jl_31, jl_32, jl_33, jl_34, jl_35, jl_36, jl_37, jl_38, jl_39, jl_40, jl_95, jl_96, jl_97, jl_98, jl_99, jl_100, jl_101, jl_102, jl_103, jl_104, jl_105, jl_106, jl_107, jl_108, jl_109, jl_110, jl_111, jl_112, jl_113, jl_114, jl_186, jl_1100, jr, ju, jpT, jpF, tnc, Nat.reduceEqDiff, reduceIte, and_false, false_and, not_true_eq_false, not_false_eq_true, or_false, gt_iff_lt, ge_iff_le, Int.lt_irrefl, Int.le_refl, yk, yk', e83, ht, m5_w, y1, y2]
          exact fin_w
      · have ht : tok = -14 := hj.symm.trans z14_w
        have lt : i0 + k < T.2.1 := t1_w.lt (fun z => js (-14) z (by decide) ht)
        by_cases d0_w : dpw l = 0
        · have fin_w := endd (Or.inr ⟨ht, d0_w⟩) d0_w
          have m5' : h1 45 5 = 0 := by rw [m5_w, d0_w]; rfl
          simp only [qe_1, qe_3, qe_4, qe_5, qe_7, qe_72, qe_10, qe_102, qe_13, qe_14, qe_15, qe_16, qe_17, qe_18, qe_20, qe_22, qe_23, qe_21, qe_24, qe_25, qe_26, qe_27, qe_28, qe_30, qe_31, qe_32, qc_20, qc_22, qc_23, qc_21, qc_24, qc_25, qc_26, qc_27, qc_1, qc_3, qc_4, qc_7, qc_13, qc_28, qc_32, qs_1, qs_2, qs_3, qs_4, qs_5, qs_6, qs_9, qs_10, qs_11, qs_14, qs_15, qs_16, qs_27, qs_17, qs_18, qs_19, qs_20, qs_22, qs_23, qs_28, qs_25, qs_26, qs_7, qs_8, kc_1, kn_1, kc_2, kn_2, kc_3, kn_3, kc_4, kn_4, kc_5, kn_5, kc_6, kn_6, kc_7, kn_7, kc_8, kn_8, kc_9, kn_9, kc_10, kn_10, kc_11, kn_11, kc_12, kn_12, kc_13, kn_13, kc_14, kn_14, kc_15, kn_15, kc_16, kc_17, kc_18, kc_19, kc_20, kc_21, kc_22, kc_23, kc_30, kc_32, kc_40, kc_43, kc_45, kc_48, kc_52, kc_56, kc_57, kc_59, kc_60, kc_61, kc_63, kc_64, kc_72, kc_78, kc_97, kc_99, kc_122, kc_126, kc_128, kc_192, kc_200, kc_255, kc_999, kc_1000, kc_9999, kn_9999, kc_10000, kc_12345, kc_65536, kc_252645135, kc_858993459, kc_1103515245, kc_1431655765, kc_2147483647, kc_0, kc_24, kc_28, kc_37, kc_41, kc_42, kc_73, kc_91, kc_95, kc_96, kc_98, kc_100, kc_112, kc_125, kc_150, kc_162, kc_163, kc_168, kc_186, kc_190, kc_250, kc_355, kc_356, kc_404, kc_405, kc_429, kc_573, kc_1002, kc_1100, kc_1891, kc_2200, kc_4719, kc_4869, kc_4881, kc_5148, kc_19741, kc_25433, kc_320403, kc_628412, kc_629093, kc_660401, kc_679843, kc_918640, kc_979410, kc_1178088, kc_6232410, kc_24644941, kc_36238189, kc_38270444, kc_392531318, kc_425693491, kc_1342154595, kc_2147483648, kc_42328242873, kc_891704255789, kc_1722105685577, kc_1858726030364, ct_0, ct_1, ct_2, ct_3, ct_4, ct_5, cf_0, cf_1, cf_2, cf_3, cf_4, cf_5, w_ty6, w_ty7, m_sv, m_z0, m_hd, m_g0, m_gs, m_s0, m_ss, m_ap, m_an, forall_const, true_and, and_true, ne_eq, not_true_eq_false, not_false_eq_true, false_implies, true_implies, implies_true, eq_self, reduceCtorEq, Nat.reduceDiv, Nat.reduceMod, Int.reduceToNat, or_true, true_or, or_false, false_or, or_self, m_it, m_if, m_c1, m_01, m_02, m_03, m_04, m_10, m_12, m_13, m_14, m_20, m_21, m_23, m_24, m_30, m_31, m_32, m_34, m_40, m_41, m_42, m_43, Int.reduceLE, Int.reduceLT, Int.reduceGE, Int.reduceGT, Int.reduceNeg, Int.reduceAdd, Int.reduceSub, Int.reduceMul, Int.reduceEq, Int.reduceNe, Nat.reduceAdd, jun2, ro_0_0, ro_0_1, ro_0_2, ro_0_3, ro_0_4, ro_0_5, ro_0_6, ro_0_7, ro_0_8, ro_0_9, ro_0_10, ro_0_11, ro_0_12, ro_1_0, ro_1_1, ro_2_0, ro_4_0, ro_6_0, ro_6_1, ro_6_2, ro_6_3, ro_6_4, ro_6_5, ro_6_6, ro_6_7, ro_6_8, ro_8_0, ro_10_0, ro_12_0, ro_14_0, ro_16_0, ro_18_0, ro_20_0, ro_22_0, ro_22_1, ro_22_2, ro_23_0, ro_25_0, ro_27_0, ro_29_0, ro_29_1, ro_29_2, ro_29_3, ro_29_4, ro_29_5, ro_29_6, ro_29_7, ro_29_8, ro_31_0, ro_33_0, ro_35_0, ro_37_0, ro_39_0, ro_41_0, ro_43_0, ro_45_0, ro_45_1, ro_45_2, ro_46_0, ro_48_0, ro_50_0, ro_52_0, ro_52_1, ro_52_2, ro_52_3, ro_53_0, ro_55_0, ro_57_0, ro_59_0, ro_61_0, ro_61_1, ro_61_2, ro_61_3, ro_62_0, ro_64_0, ro_66_0, ro_68_0, ro_70_0, ro_70_1, ro_70_2, ro_70_3, ro_70_4, ro_70_5, ro_70_6, ro_70_7, ro_70_8, ro_70_9, ro_71_0, ro_73_0, ro_75_0, ro_77_0, ro_79_0, ro_81_0, ro_83_0, ro_85_0, ro_87_0, ro_89_0, ro_91_0, ro_91_1, ro_91_2, ro_91_3, ro_91_4, ro_91_5, ro_91_6, ro_91_7, ro_91_8, ro_91_9, ro_92_0, ro_94_0, ro_96_0, ro_98_0, ro_100_0, ro_102_0, ro_104_0, ro_106_0, ro_108_0, ro_110_0, ro_112_0, ro_112_1, ro_112_2, ro_112_3, ro_112_4, ro_112_5, ro_112_6, ro_112_7, ro_112_8, ro_112_9, ro_113_0, ro_115_0, ro_117_0, ro_119_0, ro_121_0, ro_123_0, ro_125_0, ro_127_0, ro_129_0, ro_131_0, ro_133_0, ro_133_1, ro_133_2, ro_133_3, ro_133_4, ro_133_5, ro_133_6, ro_133_7, ro_133_8, ro_133_9, ro_134_0, ro_136_0, ro_138_0, ro_140_0, ro_142_0, ro_144_0, ro_146_0, ro_148_0, ro_150_0, ro_152_0, ro_154_0, ro_155_0, ro_157_0, ro_157_1, ro_157_2, ro_157_3, ro_157_4, ro_157_5, ro_157_6, ro_157_7, ro_157_8, ro_157_9, ro_158_0, ro_160_0, ro_162_0, ro_164_0, ro_166_0, ro_168_0, ro_170_0, ro_172_0, ro_174_0, ro_176_0, ro_178_0, ro_180_0, ro_182_1, ro_182_4, ro_182_5, ro_182_6, ro_182_9, ro_182_10, ro_182_11, ro_182_13, ro_182_14, ro_182_15, ro_182_16, ro_182_17, ro_182_20, ro_182_21, ro_182_22, ro_182_23, ro_182_24, ro_182_26, ro_182_27, ro_182_28, lo_3, lo_5, lo_7, lo_9, lo_11, lo_13, lo_15, lo_17, lo_19, lo_21, lo_24, lo_26, lo_28, lo_30, lo_32, lo_34, lo_36, lo_38, lo_40, lo_42, lo_44, lo_47, lo_49, lo_51, lo_54, lo_56, lo_58, lo_60, lo_63, lo_65, lo_67, lo_69, lo_72, lo_74, lo_76, lo_78, lo_80, lo_82, lo_84, lo_86, lo_88, lo_90, lo_93, lo_95, lo_97, lo_99, lo_101, lo_103, lo_105, lo_107, lo_109, lo_111, lo_114, lo_116, lo_118, lo_120, lo_122, lo_124, lo_126, lo_128, lo_130, lo_132, lo_135, lo_137, lo_139, lo_141, lo_143, lo_145, lo_147, lo_149, lo_151, lo_153, lo_156, lo_159, lo_161, lo_163, lo_165, lo_167, lo_169, lo_171, lo_173, lo_175, lo_177, lo_179, lo_181, lo_183, lo_184, lo_185, lo_186, lo_187, lo_188, lo_189, lo_190, lo_191, lo_192, lo_193, lo_194, lo_195, lo_196, lo_197, lo_198, lo_199, lo_200, lo_201, lo_202, lo_203, jp_nn, jp_eq, jp_e1, Classical.not_not, ji0, ji1, ji2, cs17_64, kk_64, cs17_82, kk_82, cs17_83, kk_83, cs17_85, kk_85, cs17_88, kk_88, cs17_86, kk_86, cs17_87, kk_87, jl_0, jl_1, jl_2, jl_3, jl_4, jl_5, jl_6, jl_7, jl_8, jl_9, jl_10, jl_11, jl_12, jl_13, jl_14, jl_15, jl_16, jl_17, jl_18, jl_19, jl_20, jl_21, jl_22, jl_23, jl_24, jl_25, jl_26, jl_27, jl_28, jl_29, jl_30, jl_31, jl_32, jl_33, jl_34, jl_35, jl_36, jl_37, jl_38, jl_39, jl_40, jl_95, jl_96, jl_97, jl_98, jl_99, jl_100, jl_101, jl_102, jl_103, jl_104, jl_105, jl_106, jl_107, jl_108, jl_109, jl_110, jl_111, jl_112, jl_113, jl_114, jl_186, jl_1100, jr, ju, jpT, jpF, tnc, Nat.reduceEqDiff, reduceIte, and_false, false_and, not_true_eq_false, not_false_eq_true, or_false, gt_iff_lt, ge_iff_le, Int.lt_irrefl, Int.le_refl, yk, yk', e83, ht, m5']
          exact fin_w
        · have y3 : ¬ (dpw l : Int) = 0 := by omega
          have r0 : rkk (-14) = 0 := rfl
          obtain ⟨l2, e2_w⟩ := cl_top hs h4 d0_w
          obtain ⟨g1, g2, g3_w, g4⟩ := rlk_dp (r := 1) (Nat.le_refl _) l hs h4
          rw [e2_w] at g1 g2 g3_w g4
          have d13_w : dpw (-13 :: l2) = dpw l2 + 1 := dp_c13
          have gl : ((-13 : Int) :: l2).length = l2.length + 1 := rfl
          have nt2 := ntn_le l2
          have fin_w : ∃ (l O : List Int) (d : Int), LM l O d h1 ∧ l.length < 64 ∧ O.length + l.length < 1000 ∧ d ≤ 100 ∧ ∃ w l2, rlk 1 l = w :: l2 ∧ (ntn l2 : Int) + 1 ≤ d ∧ ∀ h2, FW h1 h2 → LM (ntk l2) (O ++ rlo 1 l ++ List.replicate (ntn l2) 3) (d - 1 - (ntn l2 : Int)) h2 → ∃ n p : Nat, BYT n h2 ∧ h2 2 2 = (p : Int) ∧ p ≤ n ∧ ∀ h3, FT h2 h3 → ADV (h2 3) n p h3 → LWI T i0 h [45, 2, 0, ((k + 1 : Nat) : Int), -14] h3 := by
            refine ⟨l, O, _, m1_w, by omega, by omega, by omega, _, l2, e2_w, by omega, fun h2 f2_w m2_w => adv_w h2 lt (f2_w.tca t1_w) _ fun h3 f3_w t3_w => ?_⟩
            obtain ⟨n1_w, n2_w, n3_w⟩ := ntk_dp l2
            obtain ⟨n3_w, n4_w⟩ := n3_w g3_w.1
            refine ⟨k + 1, -14, ntk l2, O ++ rlo 1 l ++ List.replicate (ntn l2) 3, 0, rfl, t3_w, f1_w.tr (f2_w.lw.tr f3_w.lw), ?_, n3_w, by omega, ?_, Or.inr ⟨rfl, n4_w, ?_⟩⟩
            · rw [show ((dpw (ntk l2) : Nat) : Int) = (dpw l : Int) - 1 - (ntn l2 : Int) by omega]
              exact f3_w.lm m2_w
            · rw [List.length_append, List.length_append, List.length_replicate]
              omega
            · rw [ev_w, den_rl (r := 1) z14_w (Nat.le_refl _) (by decide) l O hs h4 (fun z => by rw [r0] at z; cases z), e2_w, den_cl z14_w g3_w, den_nt]
              rfl
          simp only [qe_1, qe_3, qe_4, qe_5, qe_7, qe_72, qe_10, qe_102, qe_13, qe_14, qe_15, qe_16, qe_17, qe_18, qe_20, qe_22, qe_23, qe_21, qe_24, qe_25, qe_26, qe_27, qe_28, qe_30, qe_31, qe_32, qc_20, qc_22, qc_23, qc_21, qc_24, qc_25, qc_26, qc_27, qc_1, qc_3, qc_4, qc_7, qc_13, qc_28, qc_32, qs_1, qs_2, qs_3, qs_4, qs_5, qs_6, qs_9, qs_10, qs_11, qs_14, qs_15, qs_16, qs_27, qs_17, qs_18, qs_19, qs_20, qs_22, qs_23, qs_28, qs_25, qs_26, qs_7, qs_8, kc_1, kn_1, kc_2, kn_2, kc_3, kn_3, kc_4, kn_4, kc_5, kn_5, kc_6, kn_6, kc_7, kn_7, kc_8, kn_8, kc_9, kn_9, kc_10, kn_10, kc_11, kn_11, kc_12, kn_12, kc_13, kn_13, kc_14, kn_14, kc_15, kn_15, kc_16, kc_17, kc_18, kc_19, kc_20, kc_21, kc_22, kc_23, kc_30, kc_32, kc_40, kc_43, kc_45, kc_48, kc_52, kc_56, kc_57, kc_59, kc_60, kc_61, kc_63, kc_64, kc_72, kc_78, kc_97, kc_99, kc_122, kc_126, kc_128, kc_192, kc_200, kc_255, kc_999, kc_1000, kc_9999, kn_9999, kc_10000, kc_12345, kc_65536, kc_252645135, kc_858993459, kc_1103515245, kc_1431655765, kc_2147483647, kc_0, kc_24, kc_28, kc_37, kc_41, kc_42, kc_73, kc_91, kc_95, kc_96, kc_98, kc_100, kc_112, kc_125, kc_150, kc_162, kc_163, kc_168, kc_186, kc_190, kc_250, kc_355, kc_356, kc_404, kc_405, kc_429, kc_573, kc_1002, kc_1100, kc_1891, kc_2200, kc_4719, kc_4869, kc_4881, kc_5148, kc_19741, kc_25433, kc_320403, kc_628412, kc_629093, kc_660401, kc_679843, kc_918640, kc_979410, kc_1178088, kc_6232410, kc_24644941, kc_36238189, kc_38270444, kc_392531318, kc_425693491, kc_1342154595, kc_2147483648, kc_42328242873, kc_891704255789, kc_1722105685577, kc_1858726030364, ct_0, ct_1, ct_2, ct_3, ct_4, ct_5, cf_0, cf_1, cf_2, cf_3, cf_4, cf_5, w_ty6, w_ty7, m_sv, m_z0, m_hd, m_g0, m_gs, m_s0, m_ss, m_ap, m_an, forall_const, true_and, and_true, ne_eq, not_true_eq_false, not_false_eq_true, false_implies, true_implies, implies_true, eq_self, reduceCtorEq, Nat.reduceDiv, Nat.reduceMod, Int.reduceToNat, or_true, true_or, or_false, false_or, or_self, m_it, m_if, m_c1, m_01, m_02, m_03, m_04, m_10, m_12, m_13, m_14, m_20, m_21, m_23, m_24, m_30, m_31, m_32, m_34, m_40, m_41, m_42, m_43, Int.reduceLE, Int.reduceLT, Int.reduceGE, Int.reduceGT, Int.reduceNeg, Int.reduceAdd, Int.reduceSub, Int.reduceMul, Int.reduceEq, Int.reduceNe, Nat.reduceAdd, jun2, ro_0_0, ro_0_1, ro_0_2, ro_0_3, ro_0_4, ro_0_5, ro_0_6, ro_0_7, ro_0_8, ro_0_9, ro_0_10, ro_0_11, ro_0_12, ro_1_0, ro_1_1, ro_2_0, ro_4_0, ro_6_0, ro_6_1, ro_6_2, ro_6_3, ro_6_4, ro_6_5, ro_6_6, ro_6_7, ro_6_8, ro_8_0, ro_10_0, ro_12_0, ro_14_0, ro_16_0, ro_18_0, ro_20_0, ro_22_0, ro_22_1, ro_22_2, ro_23_0, ro_25_0, ro_27_0, ro_29_0, ro_29_1, ro_29_2, ro_29_3, ro_29_4, ro_29_5, ro_29_6, ro_29_7, ro_29_8, ro_31_0, ro_33_0, ro_35_0, ro_37_0, ro_39_0, ro_41_0, ro_43_0, ro_45_0, ro_45_1, ro_45_2, ro_46_0, ro_48_0, ro_50_0, ro_52_0, ro_52_1, ro_52_2, ro_52_3, ro_53_0, ro_55_0, ro_57_0, ro_59_0, ro_61_0, ro_61_1, ro_61_2, ro_61_3, ro_62_0, ro_64_0, ro_66_0, ro_68_0, ro_70_0, ro_70_1, ro_70_2, ro_70_3, ro_70_4, ro_70_5, ro_70_6, ro_70_7, ro_70_8, ro_70_9, ro_71_0, ro_73_0, ro_75_0, ro_77_0, ro_79_0, ro_81_0, ro_83_0, ro_85_0, ro_87_0, ro_89_0, ro_91_0, ro_91_1, ro_91_2, ro_91_3, ro_91_4, ro_91_5, ro_91_6, ro_91_7, ro_91_8, ro_91_9, ro_92_0, ro_94_0, ro_96_0, ro_98_0, ro_100_0, ro_102_0, ro_104_0, ro_106_0, ro_108_0, ro_110_0, ro_112_0, ro_112_1, ro_112_2, ro_112_3, ro_112_4, ro_112_5, ro_112_6, ro_112_7, ro_112_8, ro_112_9, ro_113_0, ro_115_0, ro_117_0, ro_119_0, ro_121_0, ro_123_0, ro_125_0, ro_127_0, ro_129_0, ro_131_0, ro_133_0, ro_133_1, ro_133_2, ro_133_3, ro_133_4, ro_133_5, ro_133_6, ro_133_7, ro_133_8, ro_133_9, ro_134_0, ro_136_0, ro_138_0, ro_140_0, ro_142_0, ro_144_0, ro_146_0, ro_148_0, ro_150_0, ro_152_0, ro_154_0, ro_155_0, ro_157_0, ro_157_1, ro_157_2, ro_157_3, ro_157_4, ro_157_5, ro_157_6, ro_157_7, ro_157_8, ro_157_9, ro_158_0, ro_160_0, ro_162_0, ro_164_0, ro_166_0, ro_168_0, ro_170_0, ro_172_0, ro_174_0, ro_176_0, ro_178_0, ro_180_0, ro_182_1, ro_182_4, ro_182_5, ro_182_6, ro_182_9, ro_182_10, ro_182_11, ro_182_13, ro_182_14, ro_182_15, ro_182_16, ro_182_17, ro_182_20, ro_182_21, ro_182_22, ro_182_23, ro_182_24, ro_182_26, ro_182_27, ro_182_28, lo_3, lo_5, lo_7, lo_9, lo_11, lo_13, lo_15, lo_17, lo_19, lo_21, lo_24, lo_26, lo_28, lo_30, lo_32, lo_34, lo_36, lo_38, lo_40, lo_42, lo_44, lo_47, lo_49, lo_51, lo_54, lo_56, lo_58, lo_60, lo_63, lo_65, lo_67, lo_69, lo_72, lo_74, lo_76, lo_78, lo_80, lo_82, lo_84, lo_86, lo_88, lo_90, lo_93, lo_95, lo_97, lo_99, lo_101, lo_103, lo_105, lo_107, lo_109, lo_111, lo_114, lo_116, lo_118, lo_120, lo_122, lo_124, lo_126, lo_128, lo_130, lo_132, lo_135, lo_137, lo_139, lo_141, lo_143, lo_145, lo_147, lo_149, lo_151, lo_153, lo_156, lo_159, lo_161, lo_163, lo_165, lo_167, lo_169, lo_171, lo_173, lo_175, lo_177, lo_179, lo_181, lo_183, lo_184, lo_185, lo_186, lo_187, lo_188, lo_189, lo_190, lo_191, lo_192, lo_193, lo_194, lo_195, lo_196, lo_197, lo_198, lo_199, lo_200, lo_201, lo_202, lo_203, jp_nn, jp_eq, jp_e1, Classical.not_not, ji0, ji1, ji2, cs17_64, kk_64, cs17_82, kk_82, cs17_83, kk_83, cs17_85, kk_85, cs17_88, kk_88, cs17_86, kk_86, cs17_87, kk_87, jl_0, jl_1, jl_2, jl_3, jl_4, jl_5, jl_6, jl_7, jl_8, jl_9, jl_10, jl_11, jl_12, jl_13, jl_14, jl_15, jl_16, jl_17, jl_18, jl_19, jl_20, jl_21, jl_22, jl_23, jl_24, jl_25, jl_26, jl_27, jl_28, jl_29, jl_30, jl_31, jl_32, jl_33, jl_34, jl_35, jl_36, jl_37, jl_38, jl_39, jl_40, jl_95, jl_96, jl_97, jl_98, jl_99, jl_100, jl_101, jl_102, jl_103, jl_104, jl_105, jl_106, jl_107, jl_108, jl_109, jl_110, jl_111, jl_112, jl_113, jl_114, jl_186, jl_1100, jr, ju, jpT, jpF, tnc, Nat.reduceEqDiff, reduceIte, and_false, false_and, not_true_eq_false, not_false_eq_true, or_false, gt_iff_lt, ge_iff_le, Int.lt_irrefl, Int.le_refl, yk, yk', e83, ht, m5_w, y3, r0, ek]
          exact ⟨l, O, _, m1_w, fin_w⟩
      · rw [hj] at r1_w r4
        have n15 : ¬ tok = -15 := fun z => by rw [z] at r1_w; exact absurd r1_w (by decide)
        have n14_w : ¬ tok = -14 := fun z => by rw [z] at r1_w; exact absurd r1_w (by decide)
        have lt : i0 + k < T.2.1 := t1_w.lt (fun z => by
          have a := jt_s0 (V := tV T) (W := wl) z
          exact n15 (hj.symm.trans a))
        by_cases yc : rkk tok = 2 ∧ cag l = true
        · have e : (eB ((sD (tS T) (tP T) (tV T) wl 5).1 i0) fun r => sSgn (tS T) (tP T) (tV T) 59 r.2) = .error (er (tP T) 1 (i0 + k)) := by
            rw [ev_w]
            exact den_cg hj yc.1 l O hs h4 yc.2
          have fin_w := q1_w 1 _ h1 (by decide) (by decide) e f1_w t1_w
          simp only [qe_1, qe_3, qe_4, qe_5, qe_7, qe_72, qe_10, qe_102, qe_13, qe_14, qe_15, qe_16, qe_17, qe_18, qe_20, qe_22, qe_23, qe_21, qe_24, qe_25, qe_26, qe_27, qe_28, qe_30, qe_31, qe_32, qc_20, qc_22, qc_23, qc_21, qc_24, qc_25, qc_26, qc_27, qc_1, qc_3, qc_4, qc_7, qc_13, qc_28, qc_32, qs_1, qs_2, qs_3, qs_4, qs_5, qs_6, qs_9, qs_10, qs_11, qs_14, qs_15, qs_16, qs_27, qs_17, qs_18, qs_19, qs_20, qs_22, qs_23, qs_28, qs_25, qs_26, qs_7, qs_8, kc_1, kn_1, kc_2, kn_2, kc_3, kn_3, kc_4, kn_4, kc_5, kn_5, kc_6, kn_6, kc_7, kn_7, kc_8, kn_8, kc_9, kn_9, kc_10, kn_10, kc_11, kn_11, kc_12, kn_12, kc_13, kn_13, kc_14, kn_14, kc_15, kn_15, kc_16, kc_17, kc_18, kc_19, kc_20, kc_21, kc_22, kc_23, kc_30, kc_32, kc_40, kc_43, kc_45, kc_48, kc_52, kc_56, kc_57, kc_59, kc_60, kc_61, kc_63, kc_64, kc_72, kc_78, kc_97, kc_99, kc_122, kc_126, kc_128, kc_192, kc_200, kc_255, kc_999, kc_1000, kc_9999, kn_9999, kc_10000, kc_12345, kc_65536, kc_252645135, kc_858993459, kc_1103515245, kc_1431655765, kc_2147483647, kc_0, kc_24, kc_28, kc_37, kc_41, kc_42, kc_73, kc_91, kc_95, kc_96, kc_98, kc_100, kc_112, kc_125, kc_150, kc_162, kc_163, kc_168, kc_186, kc_190, kc_250, kc_355, kc_356, kc_404, kc_405, kc_429, kc_573, kc_1002, kc_1100, kc_1891, kc_2200, kc_4719, kc_4869, kc_4881, kc_5148, kc_19741, kc_25433, kc_320403, kc_628412, kc_629093, kc_660401, kc_679843, kc_918640, kc_979410, kc_1178088, kc_6232410, kc_24644941, kc_36238189, kc_38270444, kc_392531318, kc_425693491, kc_1342154595, kc_2147483648, kc_42328242873, kc_891704255789, kc_1722105685577, kc_1858726030364, ct_0, ct_1, ct_2, ct_3, ct_4, ct_5, cf_0, cf_1, cf_2, cf_3, cf_4, cf_5, w_ty6, w_ty7, m_sv, m_z0, m_hd, m_g0, m_gs, m_s0, m_ss, m_ap, m_an, forall_const, true_and, and_true, ne_eq, not_true_eq_false, not_false_eq_true, false_implies, true_implies, implies_true, eq_self, reduceCtorEq, Nat.reduceDiv, Nat.reduceMod, Int.reduceToNat, or_true, true_or, or_false, false_or, or_self, m_it, m_if, m_c1, m_01, m_02, m_03, m_04, m_10, m_12, m_13, m_14, m_20, m_21, m_23, m_24, m_30, m_31, m_32, m_34, m_40, m_41, m_42, m_43, Int.reduceLE, Int.reduceLT, Int.reduceGE, Int.reduceGT, Int.reduceNeg, Int.reduceAdd, Int.reduceSub, Int.reduceMul, Int.reduceEq, Int.reduceNe, Nat.reduceAdd, jun2, ro_0_0, ro_0_1, ro_0_2, ro_0_3, ro_0_4, ro_0_5, ro_0_6, ro_0_7, ro_0_8, ro_0_9, ro_0_10, ro_0_11, ro_0_12, ro_1_0, ro_1_1, ro_2_0, ro_4_0, ro_6_0, ro_6_1, ro_6_2, ro_6_3, ro_6_4, ro_6_5, ro_6_6, ro_6_7, ro_6_8, ro_8_0, ro_10_0, ro_12_0, ro_14_0, ro_16_0, ro_18_0, ro_20_0, ro_22_0, ro_22_1, ro_22_2, ro_23_0, ro_25_0, ro_27_0, ro_29_0, ro_29_1, ro_29_2, ro_29_3, ro_29_4, ro_29_5, ro_29_6, ro_29_7, ro_29_8, ro_31_0, ro_33_0, ro_35_0, ro_37_0, ro_39_0, ro_41_0, ro_43_0, ro_45_0, ro_45_1, ro_45_2, ro_46_0, ro_48_0, ro_50_0, ro_52_0, ro_52_1, ro_52_2, ro_52_3, ro_53_0, ro_55_0, ro_57_0, ro_59_0, ro_61_0, ro_61_1, ro_61_2, ro_61_3, ro_62_0, ro_64_0, ro_66_0, ro_68_0, ro_70_0, ro_70_1, ro_70_2, ro_70_3, ro_70_4, ro_70_5, ro_70_6, ro_70_7, ro_70_8, ro_70_9, ro_71_0, ro_73_0, ro_75_0, ro_77_0, ro_79_0, ro_81_0, ro_83_0, ro_85_0, ro_87_0, ro_89_0, ro_91_0, ro_91_1, ro_91_2, ro_91_3, ro_91_4, ro_91_5, ro_91_6, ro_91_7, ro_91_8, ro_91_9, ro_92_0, ro_94_0, ro_96_0, ro_98_0, ro_100_0, ro_102_0, ro_104_0, ro_106_0, ro_108_0, ro_110_0, ro_112_0, ro_112_1, ro_112_2, ro_112_3, ro_112_4, ro_112_5, ro_112_6, ro_112_7, ro_112_8, ro_112_9, ro_113_0, ro_115_0, ro_117_0, ro_119_0, ro_121_0, ro_123_0, ro_125_0, ro_127_0, ro_129_0, ro_131_0, ro_133_0, ro_133_1, ro_133_2, ro_133_3, ro_133_4, ro_133_5, ro_133_6, ro_133_7, ro_133_8, ro_133_9, ro_134_0, ro_136_0, ro_138_0, ro_140_0, ro_142_0, ro_144_0, ro_146_0, ro_148_0, ro_150_0, ro_152_0, ro_154_0, ro_155_0, ro_157_0, ro_157_1, ro_157_2, ro_157_3, ro_157_4, ro_157_5, ro_157_6, ro_157_7, ro_157_8, ro_157_9, ro_158_0, ro_160_0, ro_162_0, ro_164_0, ro_166_0, ro_168_0, ro_170_0, ro_172_0, ro_174_0, ro_176_0, ro_178_0, ro_180_0, ro_182_1, ro_182_4, ro_182_5, ro_182_6, ro_182_9, ro_182_10, ro_182_11, ro_182_13, ro_182_14, ro_182_15, ro_182_16, ro_182_17, ro_182_20, ro_182_21, ro_182_22, ro_182_23, ro_182_24, ro_182_26, ro_182_27, ro_182_28, lo_3, lo_5, lo_7, lo_9, lo_11, lo_13, lo_15, lo_17, lo_19, lo_21, lo_24, lo_26, lo_28, lo_30, lo_32, lo_34, lo_36, lo_38, lo_40, lo_42, lo_44, lo_47, lo_49, lo_51, lo_54, lo_56, lo_58, lo_60, lo_63, lo_65, lo_67, lo_69, lo_72, lo_74, lo_76, lo_78, lo_80, lo_82, lo_84, lo_86, lo_88, lo_90, lo_93, lo_95, lo_97, lo_99, lo_101, lo_103, lo_105, lo_107, lo_109, lo_111, lo_114, lo_116, lo_118, lo_120, lo_122, lo_124, lo_126, lo_128, lo_130, lo_132, lo_135, lo_137, lo_139, lo_141, lo_143, lo_145, lo_147, lo_149, lo_151, lo_153, lo_156, lo_159, lo_161, lo_163, lo_165, lo_167, lo_169, lo_171, lo_173, lo_175, lo_177, lo_179, lo_181, lo_183, lo_184, lo_185, lo_186, lo_187, lo_188, lo_189, lo_190, lo_191, lo_192, lo_193, lo_194, lo_195, lo_196, lo_197, lo_198, lo_199, lo_200, lo_201, lo_202, lo_203, jp_nn, jp_eq, jp_e1, Classical.not_not, ji0, ji1, ji2, cs17_64, kk_64, cs17_82, kk_82, cs17_83, kk_83, cs17_85, kk_85, cs17_88, kk_88, cs17_86, kk_86, cs17_87, kk_87, jl_0, jl_1, jl_2, jl_3, jl_4, jl_5, jl_6, jl_7, jl_8, jl_9, jl_10, jl_11, jl_12, jl_13, jl_14, jl_15, jl_16, jl_17, jl_18, jl_19, jl_20, jl_21, jl_22, jl_23, jl_24, jl_25, jl_26, jl_27, jl_28, jl_29, jl_30, jl_31, jl_32, jl_33, jl_34, jl_35, jl_36, jl_37, jl_38, jl_39, jl_40, jl_95, jl_96, jl_97, jl_98, jl_99, jl_100, jl_101, jl_102, jl_103, jl_104, jl_105, jl_106, jl_107, jl_108, jl_109, jl_110, jl_111, jl_112, jl_113, jl_114, jl_186, jl_1100, jr, ju, jpT, jpF, tnc, Nat.reduceEqDiff, reduceIte, and_false, false_and, not_true_eq_false, not_false_eq_true, or_false, gt_iff_lt, ge_iff_le, Int.lt_irrefl, Int.le_refl, yk, yk', e83, n15, n14_w]
          refine ⟨l, O, _, m1_w, ?_⟩
          have yc' := eq_true yc
          simp only [yc']
          first | exact fin_w | exact ⟨fun _ => fin_w, fun z => absurd trivial z⟩
        · have hc_w : rkk tok = 2 → cag l = false := fun z => by
            cases e : cag l with
            | false => rfl
            | true => exact absurd ⟨z, e⟩ yc
          obtain ⟨g1, g2, g3_w, g4⟩ := rlk_dp (r := rkk tok) r1_w l hs h4
          have fin_w : ∃ (l O : List Int) (d : Int), LM l O d h1 ∧ l.length < 64 ∧ O.length + l.length < 1000 ∧ d ≤ 100 ∧ 1 ≤ rkk tok ∧ ∀ h2, FW h1 h2 → LM (tok :: rlk (rkk tok) l) (O ++ rlo (rkk tok) l) d h2 → ∃ n p : Nat, BYT n h2 ∧ h2 2 2 = (p : Int) ∧ p ≤ n ∧ ∀ h3, FT h2 h3 → ADV (h2 3) n p h3 → LWI T i0 h [45, 2, 1, ((k + 1 : Nat) : Int), tok] h3 := by
            refine ⟨l, O, _, m1_w, by omega, by omega, by omega, r1_w, fun h2 f2_w m2_w => adv_w h2 lt (f2_w.tca t1_w) _ fun h3 f3_w t3_w => ?_⟩
            have dt : dpw (tok :: rlk (rkk tok) l) = dpw l := (dp_t r1_w r4).trans g1
            refine ⟨k + 1, tok, tok :: rlk (rkk tok) l, O ++ rlo (rkk tok) l, 1, rfl, t3_w, f1_w.tr (f2_w.lw.tr f3_w.lw), ?_, ⟨g3_w, Or.inr (Or.inr ⟨r1_w, r4, g4⟩)⟩, by omega, ?_, Or.inl ⟨rfl, ?_⟩⟩
            · rw [dt]
              exact f3_w.lm m2_w
            · rw [List.length_append]
              show O.length + (rlo (rkk tok) l).length + ((rlk (rkk tok) l).length + 1) ≤ k + 1
              omega
            · rw [ev_w, den_rl (r := rkk tok) hj r1_w (Nat.le_refl _) l O hs h4 hc_w, den_pu s0 tle (by omega) hj g3_w r1_w r4 g4]
              rfl
          simp only [qe_1, qe_3, qe_4, qe_5, qe_7, qe_72, qe_10, qe_102, qe_13, qe_14, qe_15, qe_16, qe_17, qe_18, qe_20, qe_22, qe_23, qe_21, qe_24, qe_25, qe_26, qe_27, qe_28, qe_30, qe_31, qe_32, qc_20, qc_22, qc_23, qc_21, qc_24, qc_25, qc_26, qc_27, qc_1, qc_3, qc_4, qc_7, qc_13, qc_28, qc_32, qs_1, qs_2, qs_3, qs_4, qs_5, qs_6, qs_9, qs_10, qs_11, qs_14, qs_15, qs_16, qs_27, qs_17, qs_18, qs_19, qs_20, qs_22, qs_23, qs_28, qs_25, qs_26, qs_7, qs_8, kc_1, kn_1, kc_2, kn_2, kc_3, kn_3, kc_4, kn_4, kc_5, kn_5, kc_6, kn_6, kc_7, kn_7, kc_8, kn_8, kc_9, kn_9, kc_10, kn_10, kc_11, kn_11, kc_12, kn_12, kc_13, kn_13, kc_14, kn_14, kc_15, kn_15, kc_16, kc_17, kc_18, kc_19, kc_20, kc_21, kc_22, kc_23, kc_30, kc_32, kc_40, kc_43, kc_45, kc_48, kc_52, kc_56, kc_57, kc_59, kc_60, kc_61, kc_63, kc_64, kc_72, kc_78, kc_97, kc_99, kc_122, kc_126, kc_128, kc_192, kc_200, kc_255, kc_999, kc_1000, kc_9999, kn_9999, kc_10000, kc_12345, kc_65536, kc_252645135, kc_858993459, kc_1103515245, kc_1431655765, kc_2147483647, kc_0, kc_24, kc_28, kc_37, kc_41, kc_42, kc_73, kc_91, kc_95, kc_96, kc_98, kc_100, kc_112, kc_125, kc_150, kc_162, kc_163, kc_168, kc_186, kc_190, kc_250, kc_355, kc_356, kc_404, kc_405, kc_429, kc_573, kc_1002, kc_1100, kc_1891, kc_2200, kc_4719, kc_4869, kc_4881, kc_5148, kc_19741, kc_25433, kc_320403, kc_628412, kc_629093, kc_660401, kc_679843, kc_918640, kc_979410, kc_1178088, kc_6232410, kc_24644941, kc_36238189, kc_38270444, kc_392531318, kc_425693491, kc_1342154595, kc_2147483648, kc_42328242873, kc_891704255789, kc_1722105685577, kc_1858726030364, ct_0, ct_1, ct_2, ct_3, ct_4, ct_5, cf_0, cf_1, cf_2, cf_3, cf_4, cf_5, w_ty6, w_ty7, m_sv, m_z0, m_hd, m_g0, m_gs, m_s0, m_ss, m_ap, m_an, forall_const, true_and, and_true, ne_eq, not_true_eq_false, not_false_eq_true, false_implies, true_implies, implies_true, eq_self, reduceCtorEq, Nat.reduceDiv, Nat.reduceMod, Int.reduceToNat, or_true, true_or, or_false, false_or, or_self, m_it, m_if, m_c1, m_01, m_02, m_03, m_04, m_10, m_12, m_13, m_14, m_20, m_21, m_23, m_24, m_30, m_31, m_32, m_34, m_40, m_41, m_42, m_43, Int.reduceLE, Int.reduceLT, Int.reduceGE, Int.reduceGT, Int.reduceNeg, Int.reduceAdd, Int.reduceSub, Int.reduceMul, Int.reduceEq, Int.reduceNe, Nat.reduceAdd, jun2, ro_0_0, ro_0_1, ro_0_2, ro_0_3, ro_0_4, ro_0_5, ro_0_6, ro_0_7, ro_0_8, ro_0_9, ro_0_10, ro_0_11, ro_0_12, ro_1_0, ro_1_1, ro_2_0, ro_4_0, ro_6_0, ro_6_1, ro_6_2, ro_6_3, ro_6_4, ro_6_5, ro_6_6, ro_6_7, ro_6_8, ro_8_0, ro_10_0, ro_12_0, ro_14_0, ro_16_0, ro_18_0, ro_20_0, ro_22_0, ro_22_1, ro_22_2, ro_23_0, ro_25_0, ro_27_0, ro_29_0, ro_29_1, ro_29_2, ro_29_3, ro_29_4, ro_29_5, ro_29_6, ro_29_7, ro_29_8, ro_31_0, ro_33_0, ro_35_0, ro_37_0, ro_39_0, ro_41_0, ro_43_0, ro_45_0, ro_45_1, ro_45_2, ro_46_0, ro_48_0, ro_50_0, ro_52_0, ro_52_1, ro_52_2, ro_52_3, ro_53_0, ro_55_0, ro_57_0, ro_59_0, ro_61_0, ro_61_1, ro_61_2, ro_61_3, ro_62_0, ro_64_0, ro_66_0, ro_68_0, ro_70_0, ro_70_1, ro_70_2, ro_70_3, ro_70_4, ro_70_5, ro_70_6, ro_70_7, ro_70_8, ro_70_9, ro_71_0, ro_73_0, ro_75_0, ro_77_0, ro_79_0, ro_81_0, ro_83_0, ro_85_0, ro_87_0, ro_89_0, ro_91_0, ro_91_1, ro_91_2, ro_91_3, ro_91_4, ro_91_5, ro_91_6, ro_91_7, ro_91_8, ro_91_9, ro_92_0, ro_94_0, ro_96_0, ro_98_0, ro_100_0, ro_102_0, ro_104_0, ro_106_0, ro_108_0, ro_110_0, ro_112_0, ro_112_1, ro_112_2, ro_112_3, ro_112_4, ro_112_5, ro_112_6, ro_112_7, ro_112_8, ro_112_9, ro_113_0, ro_115_0, ro_117_0, ro_119_0, ro_121_0, ro_123_0, ro_125_0, ro_127_0, ro_129_0, ro_131_0, ro_133_0, ro_133_1, ro_133_2, ro_133_3, ro_133_4, ro_133_5, ro_133_6, ro_133_7, ro_133_8, ro_133_9, ro_134_0, ro_136_0, ro_138_0, ro_140_0, ro_142_0, ro_144_0, ro_146_0, ro_148_0, ro_150_0, ro_152_0, ro_154_0, ro_155_0, ro_157_0, ro_157_1, ro_157_2, ro_157_3, ro_157_4, ro_157_5, ro_157_6, ro_157_7, ro_157_8, ro_157_9, ro_158_0, ro_160_0, ro_162_0, ro_164_0, ro_166_0, ro_168_0, ro_170_0, ro_172_0, ro_174_0, ro_176_0, ro_178_0, ro_180_0, ro_182_1, ro_182_4, ro_182_5, ro_182_6, ro_182_9, ro_182_10, ro_182_11, ro_182_13, ro_182_14, ro_182_15, ro_182_16, ro_182_17, ro_182_20, ro_182_21, ro_182_22, ro_182_23, ro_182_24, ro_182_26, ro_182_27, ro_182_28, lo_3, lo_5, lo_7, lo_9, lo_11, lo_13, lo_15, lo_17, lo_19, lo_21, lo_24, lo_26, lo_28, lo_30, lo_32, lo_34, lo_36, lo_38, lo_40, lo_42, lo_44, lo_47, lo_49, lo_51, lo_54, lo_56, lo_58, lo_60, lo_63, lo_65, lo_67, lo_69, lo_72, lo_74, lo_76, lo_78, lo_80, lo_82, lo_84, lo_86, lo_88, lo_90, lo_93, lo_95, lo_97, lo_99, lo_101, lo_103, lo_105, lo_107, lo_109, lo_111, lo_114, lo_116, lo_118, lo_120, lo_122, lo_124, lo_126, lo_128, lo_130, lo_132, lo_135, lo_137, lo_139, lo_141, lo_143, lo_145, lo_147, lo_149, lo_151, lo_153, lo_156, lo_159, lo_161, lo_163, lo_165, lo_167, lo_169, lo_171, lo_173, lo_175, lo_177, lo_179, lo_181, lo_183, lo_184, lo_185, lo_186, lo_187, lo_188, lo_189, lo_190, lo_191, lo_192, lo_193, lo_194, lo_195, lo_196, lo_197, lo_198, lo_199, lo_200, lo_201, lo_202, lo_203, jp_nn, jp_eq, jp_e1, Classical.not_not, ji0, ji1, ji2, cs17_64, kk_64, cs17_82, kk_82, cs17_83, kk_83, cs17_85, kk_85, cs17_88, kk_88, cs17_86, kk_86, cs17_87, kk_87, jl_0, jl_1, jl_2, jl_3, jl_4, jl_5, jl_6, jl_7, jl_8, jl_9, jl_10, jl_11, jl_12, jl_13, jl_14, jl_15, jl_16, jl_17, jl_18, jl_19, jl_20, jl_21, jl_22, jl_23, jl_24, jl_25, jl_26, jl_27, jl_28, jl_29, jl_30, jl_31, jl_32, jl_33, jl_34, jl_35, jl_36, jl_37, jl_38, jl_39, jl_40, jl_95, jl_96, jl_97, jl_98, jl_99, jl_100, jl_101, jl_102, jl_103, jl_104, jl_105, jl_106, jl_107, jl_108, jl_109, jl_110, jl_111, jl_112, jl_113, jl_114, jl_186, jl_1100, jr, ju, jpT, jpF, tnc, Nat.reduceEqDiff, reduceIte, and_false, false_and, not_true_eq_false, not_false_eq_true, or_false, gt_iff_lt, ge_iff_le, Int.lt_irrefl, Int.le_refl, yk, yk', e83, n15, n14_w]
          refine ⟨l, O, _, m1_w, ?_⟩
          have yc' := eq_false yc
          simp only [yc', ek]
          first | exact fin_w | exact ⟨fun z => absurd z (fun z => z), fun _ => fin_w⟩
  · exact hQ.elim
theorem snd_17 {xs : Nat → Int} {L K : Nat} : ∀ n, SndC CS17 (evF xs L g_ck K g_cW g_M n) := snd_all snd_16 (fun f av h Q hQ => by
  unfold CS17 at hQ
  split at hQ
  · exact Or.inr m_82
  · exact Or.inr m_83
  · exact Or.inr m_85
  · exact Or.inr m_89
  · exact Or.inr m_90
  · exact Or.inr m_91
  · exact Or.inr m_88
  · exact Or.inr m_86
  · exact Or.inr m_87
  · exact Or.inr m_81
  · exact Or.inl hQ)
end
section
/-! ===== contracts: the class's line of a law_w ===== -/
def k128 : KT := fun av h Q => match av with
  | [o, p] => o = 1 ∧ p = 29 ∧ ∃ (T : TA) (i : Nat) (D : DD), T.2.1 ≤ 1000 ∧ TCA T i h ∧ TGd T ∧ i < T.2.1 ∧ CD 29 D h ∧ RFD D h ∧ (∀ f h', sEnd sLaw T D i = .error f → FL h h' → h' 1 6 = f → Q 1 [0] h') ∧ (∀ D' j h', sEnd sLaw T D i = .ok (D', j) → FL h h' → h' 1 6 = h 1 6 → CD 29 D' h' → RFD D' h' → TCA T j h' → Q 1 [1] h')
  | _ => False
section KKD4
variable {h h1 h2 h' : XH} {Q : Nat → List Int → XH → Prop} {D : DD} {T : TA} {i j : Nat} {c : List Int}
theorem kk_128 : k128 [1, 29] h Q = ∃ (T : TA) (i : Nat) (D : DD), T.2.1 ≤ 1000 ∧ TCA T i h ∧ TGd T ∧ i < T.2.1 ∧ CD 29 D h ∧ RFD D h ∧ (∀ f h', sEnd sLaw T D i = .error f → FL h h' → h' 1 6 = f → Q 1 [0] h') ∧ (∀ D' j h', sEnd sLaw T D i = .ok (D', j) → FL h h' → h' 1 6 = h 1 6 → CD 29 D' h' → RFD D' h' → TCA T j h' → Q 1 [1] h') := propext ⟨fun a => a.2.2, fun a => ⟨rfl, rfl, a⟩⟩
theorem FLw.fl (f : FLw h h') : FL h h' := fun o k z => f o k (fun y => z (by omega))
theorem CD.lw (a : CD 29 D h) (f : FLw h h') (e3_w : h' 45 3 = (c.length : Int)) (e : ∀ k v, c[k]? = some v → h' 47 k = cst v) (el : c.length ≤ 1000) : CD 29 (D.1, D.2.1, D.2.2.1, D.2.2.2.1, D.2.2.2.2.1, some c) h' := by
  obtain ⟨⟨⟨c1_w, c2, c3, l1, l2, l3⟩, r1_w, r2, r3, nd⟩, d1_w, d2_w, d3_w, d4_w, d5⟩ := a
  have g : ∀ o k : Nat, 29 ≤ o → o ≤ 44 → h' o k = h o k := fun o k a b => f o k (by omega)
  exact ⟨⟨⟨(g _ _ (by omega) (by omega)).trans c1_w, (g _ _ (by omega) (by omega)).trans c2, (g _ _ (by omega) (by omega)).trans c3, l1, l2, l3⟩, fun k v z => ⟨(g _ _ (by omega) (by omega)).trans (r1_w k v z).1, (r1_w k v z).2⟩, fun k v z => ⟨(g _ _ (by omega) (by omega)).trans (r2 k v z).1, (r2 k v z).2⟩, fun k v z => ⟨(g _ _ (by omega) (by omega)).trans (r3 k v z).1, (r3 k v z).2⟩, nd⟩, ⟨(g _ _ (by omega) (by omega)).trans d1_w.1, d1_w.2⟩, fun s z => (g _ _ (by omega) (by omega)).trans (d2_w s z), d3_w.fr (fun k => g _ _ (by omega) (by omega)) (fun k => g _ _ (by omega) (by omega)), d4_w.fr (fun k => g _ _ (by omega) (by omega)) (fun k => g _ _ (by omega) (by omega)) (fun k => g _ _ (by omega) (by omega)) (fun k => g _ _ (by omega) (by omega)), e3_w, e, el⟩
theorem eB_e2 {α β γ : Type} {x : XZ α} {f : α → XZ β} {g : α → β → γ} {e : Int} (h : eB x f = .error e) : (eB x fun a => eB (f a) fun b => .ok (g a b)) = .error e := by
  cases x with
  | error y => cases h; rfl
  | ok a =>
    have h' : f a = .error e := h
    show eB (f a) _ = _
    rw [h']
    rfl
end KKD4
def CS18 : CSt := fun f => match f with
  | 128 => k128
  | _ => CS17 f
theorem cs18_64 {av : List Int} {h : XH} {Q : Nat → List Int → XH → Prop} : CS18 64 av h Q = k64 av h Q := id rfl
theorem cs18_133 {av : List Int} {h : XH} {Q : Nat → List Int → XH → Prop} : CS18 133 av h Q = k133 av h Q := id rfl
theorem cs18_134 {av : List Int} {h : XH} {Q : Nat → List Int → XH → Prop} : CS18 134 av h Q = k134 av h Q := id rfl
theorem cs18_81 {av : List Int} {h : XH} {Q : Nat → List Int → XH → Prop} : CS18 81 av h Q = k81 av h Q := id rfl
theorem cs18_128 {av : List Int} {h : XH} {Q : Nat → List Int → XH → Prop} : CS18 128 av h Q = k128 av h Q := id rfl
theorem m_128 : BodyOK CS18 CS18 128 := fun av h Q hQ => by
  rw [cs18_128] at hQ
  unfold k128 at hQ
  split at hQ
  · rename_i o p
    obtain ⟨rfl, rfl, T, i, D, tN_w, t, tg, lt, cd, rf, q1_w, q2_w⟩ := hQ
    show pS CS18 bb_128 [1, 29, 0] h _
    cases y : D.2.2.2.2.2 with
    | some x =>
      have y1 : h 1 8 = 1 := by rw [rf.2, y]; rfl
      have ew : sEnd sLaw T D i = .error (er (tP T) 3 i) := by
        show eB (sLaw (tS T) (tP T) (tV T) wl D i) _ = _
        unfold sLaw
        rw [if_pos (by rw [y]; exact fun z => by cases z)]
        rfl
      have e3_w := t.fa (c := 3) (by decide) (by decide)
      unfold bb_128
      simp only [qe_1, qe_3, qe_4, qe_5, qe_7, qe_72, qe_10, qe_102, qe_13, qe_14, qe_15, qe_16, qe_17, qe_18, qe_20, qe_22, qe_23, qe_21, qe_24, qe_25, qe_26, qe_27, qe_28, qe_30, qe_31, qe_32, qc_20, qc_22, qc_23, qc_21, qc_24, qc_25, qc_26, qc_27, qc_1, qc_3, qc_4, qc_7, qc_13, qc_28, qc_32, qs_1, qs_2, qs_3, qs_4, qs_5, qs_6, qs_9, qs_10, qs_11, qs_14, qs_15, qs_16, qs_27, qs_17, qs_18, qs_19, qs_20, qs_22, qs_23, qs_28, qs_25, qs_26, qs_7, qs_8, kc_1, kn_1, kc_2, kn_2, kc_3, kn_3, kc_4, kn_4, kc_5, kn_5, kc_6, kn_6, kc_7, kn_7, kc_8, kn_8, kc_9, kn_9, kc_10, kn_10, kc_11, kn_11, kc_12, kn_12, kc_13, kn_13, kc_14, kn_14, kc_15, kn_15, kc_16, kc_17, kc_18, kc_19, kc_20, kc_21, kc_22, kc_23, kc_30, kc_32, kc_40, kc_43, kc_45, kc_48, kc_52, kc_56, kc_57, kc_59, kc_60, kc_61, kc_63, kc_64, kc_72, kc_78, kc_97, kc_99, kc_122, kc_126, kc_128, kc_192, kc_200, kc_255, kc_999, kc_1000, kc_9999, kn_9999, kc_10000, kc_12345, kc_65536, kc_252645135, kc_858993459, kc_1103515245, kc_1431655765, kc_2147483647, kc_0, kc_24, kc_28, kc_37, kc_41, kc_42, kc_73, kc_91, kc_95, kc_96, kc_98, kc_100, kc_112, kc_125, kc_150, kc_162, kc_163, kc_168, kc_186, kc_190, kc_250, kc_355, kc_356, kc_404, kc_405, kc_429, kc_573, kc_1002, kc_1100, kc_1891, kc_2200, kc_4719, kc_4869, kc_4881, kc_5148, kc_19741, kc_25433, kc_320403, kc_628412, kc_629093, kc_660401, kc_679843, kc_918640, kc_979410, kc_1178088, kc_6232410, kc_24644941, kc_36238189, kc_38270444, kc_392531318, kc_425693491, kc_1342154595, kc_2147483648, kc_42328242873, kc_891704255789, kc_1722105685577, kc_1858726030364, ct_0, ct_1, ct_2, ct_3, ct_4, ct_5, cf_0, cf_1, cf_2, cf_3, cf_4, cf_5, w_ty6, w_ty7, m_sv, m_z0, m_hd, m_g0, m_gs, m_s0, m_ss, m_ap, m_an, forall_const, true_and, and_true, ne_eq, not_true_eq_false, not_false_eq_true, false_implies, true_implies, implies_true, eq_self, reduceCtorEq, Nat.reduceDiv, Nat.reduceMod, Int.reduceToNat, or_true, true_or, or_false, false_or, or_self, m_it, m_if, m_c1, m_01, m_02, m_03, m_04, m_10, m_12, m_13, m_14, m_20, m_21, m_23, m_24, m_30, m_31, m_32, m_34, m_40, m_41, m_42, m_43, Int.reduceLE, Int.reduceLT, Int.reduceGE, Int.reduceGT, Int.reduceNeg, Int.reduceAdd, Int.reduceSub, Int.reduceMul, Int.reduceEq, Int.reduceNe, Nat.reduceAdd, jun2, ro_0_0, ro_0_1, ro_0_2, ro_0_3, ro_0_4, ro_0_5, ro_0_6, ro_0_7, ro_0_8, ro_0_9, ro_0_10, ro_0_11, ro_0_12, ro_1_0, ro_1_1, ro_2_0, ro_4_0, ro_6_0, ro_6_1, ro_6_2, ro_6_3, ro_6_4, ro_6_5, ro_6_6, ro_6_7, ro_6_8, ro_8_0, ro_10_0, ro_12_0, ro_14_0, ro_16_0, ro_18_0, ro_20_0, ro_22_0, ro_22_1, ro_22_2, ro_23_0, ro_25_0, ro_27_0, ro_29_0, ro_29_1, ro_29_2, ro_29_3, ro_29_4, ro_29_5, ro_29_6, ro_29_7, ro_29_8, ro_31_0, ro_33_0, ro_35_0, ro_37_0, ro_39_0, ro_41_0, ro_43_0, ro_45_0, ro_45_1, ro_45_2, ro_46_0, ro_48_0, ro_50_0, ro_52_0, ro_52_1, ro_52_2, ro_52_3, ro_53_0, ro_55_0, ro_57_0, ro_59_0, ro_61_0, ro_61_1, ro_61_2, ro_61_3, ro_62_0, ro_64_0, ro_66_0, ro_68_0, ro_70_0, ro_70_1, ro_70_2, ro_70_3, ro_70_4, ro_70_5, ro_70_6, ro_70_7, ro_70_8, ro_70_9, ro_71_0, ro_73_0, ro_75_0, ro_77_0, ro_79_0, ro_81_0, ro_83_0, ro_85_0, ro_87_0, ro_89_0, ro_91_0, ro_91_1, ro_91_2, ro_91_3, ro_91_4, ro_91_5, ro_91_6, ro_91_7, ro_91_8, ro_91_9, ro_92_0, ro_94_0, ro_96_0, ro_98_0, ro_100_0, ro_102_0, ro_104_0, ro_106_0, ro_108_0, ro_110_0, ro_112_0, ro_112_1, ro_112_2, ro_112_3, ro_112_4, ro_112_5, ro_112_6, ro_112_7, ro_112_8, ro_112_9, ro_113_0, ro_115_0, ro_117_0, ro_119_0, ro_121_0, ro_123_0, ro_125_0, ro_127_0, ro_129_0, ro_131_0, ro_133_0, ro_133_1, ro_133_2, ro_133_3, ro_133_4, ro_133_5, ro_133_6, ro_133_7, ro_133_8, ro_133_9, ro_134_0, ro_136_0, ro_138_0, ro_140_0, ro_142_0, ro_144_0, ro_146_0, ro_148_0, ro_150_0, ro_152_0, ro_154_0, ro_155_0, ro_157_0, ro_157_1, ro_157_2, ro_157_3, ro_157_4, ro_157_5, ro_157_6, ro_157_7, ro_157_8, ro_157_9, ro_158_0, ro_160_0, ro_162_0, ro_164_0, ro_166_0, ro_168_0, ro_170_0, ro_172_0, ro_174_0, ro_176_0, ro_178_0, ro_180_0, ro_182_1, ro_182_4, ro_182_5, ro_182_6, ro_182_9, ro_182_10, ro_182_11, ro_182_13, ro_182_14, ro_182_15, ro_182_16, ro_182_17, ro_182_20, ro_182_21, ro_182_22, ro_182_23, ro_182_24, ro_182_26, ro_182_27, ro_182_28, lo_3, lo_5, lo_7, lo_9, lo_11, lo_13, lo_15, lo_17, lo_19, lo_21, lo_24, lo_26, lo_28, lo_30, lo_32, lo_34, lo_36, lo_38, lo_40, lo_42, lo_44, lo_47, lo_49, lo_51, lo_54, lo_56, lo_58, lo_60, lo_63, lo_65, lo_67, lo_69, lo_72, lo_74, lo_76, lo_78, lo_80, lo_82, lo_84, lo_86, lo_88, lo_90, lo_93, lo_95, lo_97, lo_99, lo_101, lo_103, lo_105, lo_107, lo_109, lo_111, lo_114, lo_116, lo_118, lo_120, lo_122, lo_124, lo_126, lo_128, lo_130, lo_132, lo_135, lo_137, lo_139, lo_141, lo_143, lo_145, lo_147, lo_149, lo_151, lo_153, lo_156, lo_159, lo_161, lo_163, lo_165, lo_167, lo_169, lo_171, lo_173, lo_175, lo_177, lo_179, lo_181, lo_183, lo_184, lo_185, lo_186, lo_187, lo_188, lo_189, lo_190, lo_191, lo_192, lo_193, lo_194, lo_195, lo_196, lo_197, lo_198, lo_199, lo_200, lo_201, lo_202, lo_203, jp_nn, jp_eq, jp_e1, Classical.not_not, ji0, ji1, ji2, cs18_64, kk_64, cs18_133, kk_133, cs18_134, kk_134, cs18_81, kk_81, jl_0, jl_1, jl_2, jl_3, jl_4, jl_5, jl_6, jl_7, jl_8, jl_9, jl_10, jl_11, jl_12, jl_13, jl_14, jl_15, jl_16, jl_17, jl_18, jl_19, jl_20, jl_21, jl_22, jl_23, jl_24, jl_25, jl_26, jl_27, jl_28, jl_29, jl_30, jl_31, jl_32, jl_33, jl_34, jl_35, jl_36, jl_37, jl_38, jl_39, jl_40, jl_95, jl_96, jl_97, jl_98, jl_99, jl_100, jl_101, jl_102, jl_103, jl_104, jl_105, jl_106, jl_107, jl_108, jl_109, jl_110, jl_111, jl_112, jl_113, jl_114, jl_186, jl_1100, jr, ju, jpT, jpF, tnc, Nat.reduceEqDiff, reduceIte, and_false, false_and, not_true_eq_false, not_false_eq_true, or_false, gt_iff_lt, ge_iff_le, Int.lt_irrefl, Int.le_refl, y1, e3_w]
      exact q1_w _ _ ew (FL.up (by omega)) up_eq
    | none =>
      have y1 : h 1 8 = 0 := by rw [rf.2, y]; rfl
      have ew : sEnd sLaw T D i = eB ((sD (tS T) (tP T) (tV T) wl 5).1 (i + 1)) fun r => eB (sSgn (tS T) (tP T) (tV T) 59 r.2) fun j => .ok ((D.1, D.2.1, D.2.2.1, D.2.2.2.1, D.2.2.2.2.1, some r.1), j) := by
        show eB (sLaw (tS T) (tP T) (tV T) wl D i) _ = _
        unfold sLaw
        rw [if_neg (fun z => z y), eB_as]
        rfl
      have f0_w : FL h (j_up h 1 8 1) := FL.up (by omega)
      have t0_w : TCA T i (j_up h 1 8 1) := t.up
      obtain ⟨n1_w, n2_w, n3_w, n4_w⟩ := t0_w.nx lt rfl rfl
      unfold bb_128
      simp only [qe_1, qe_3, qe_4, qe_5, qe_7, qe_72, qe_10, qe_102, qe_13, qe_14, qe_15, qe_16, qe_17, qe_18, qe_20, qe_22, qe_23, qe_21, qe_24, qe_25, qe_26, qe_27, qe_28, qe_30, qe_31, qe_32, qc_20, qc_22, qc_23, qc_21, qc_24, qc_25, qc_26, qc_27, qc_1, qc_3, qc_4, qc_7, qc_13, qc_28, qc_32, qs_1, qs_2, qs_3, qs_4, qs_5, qs_6, qs_9, qs_10, qs_11, qs_14, qs_15, qs_16, qs_27, qs_17, qs_18, qs_19, qs_20, qs_22, qs_23, qs_28, qs_25, qs_26, qs_7, qs_8, kc_1, kn_1, kc_2, kn_2, kc_3, kn_3, kc_4, kn_4, kc_5, kn_5, kc_6, kn_6, kc_7, kn_7, kc_8, kn_8, kc_9, kn_9, kc_10, kn_10, kc_11, kn_11, kc_12, kn_12, kc_13, kn_13, kc_14, kn_14, kc_15, kn_15, kc_16, kc_17, kc_18, kc_19, kc_20, kc_21, kc_22, kc_23, kc_30, kc_32, kc_40, kc_43, kc_45, kc_48, kc_52, kc_56, kc_57, kc_59, kc_60, kc_61, kc_63, kc_64, kc_72, kc_78, kc_97, kc_99, kc_122, kc_126, kc_128, kc_192, kc_200, kc_255, kc_999, kc_1000, kc_9999, kn_9999, kc_10000, kc_12345, kc_65536, kc_252645135, kc_858993459, kc_1103515245, kc_1431655765, kc_2147483647, kc_0, kc_24, kc_28, kc_37, kc_41, kc_42, kc_73, kc_91, kc_95, kc_96, kc_98, kc_100, kc_112, kc_125, kc_150, kc_162, kc_163, kc_168, kc_186, kc_190, kc_250, kc_355, kc_356, kc_404, kc_405, kc_429, kc_573, kc_1002, kc_1100, kc_1891, kc_2200, kc_4719, kc_4869, kc_4881, kc_5148, kc_19741, kc_25433, kc_320403, kc_628412, kc_629093, kc_660401, kc_679843, kc_918640, kc_979410, kc_1178088, kc_6232410, kc_24644941, kc_36238189, kc_38270444, kc_392531318, kc_425693491, kc_1342154595, kc_2147483648, kc_42328242873, kc_891704255789, kc_1722105685577, kc_1858726030364, ct_0, ct_1, ct_2, ct_3, ct_4, ct_5, cf_0, cf_1, cf_2, cf_3, cf_4, cf_5, w_ty6, w_ty7, m_sv, m_z0, m_hd, m_g0, m_gs, m_s0, m_ss, m_ap, m_an, forall_const, true_and, and_true, ne_eq, not_true_eq_false, not_false_eq_true, false_implies, true_implies, implies_true, eq_self, reduceCtorEq, Nat.reduceDiv, Nat.reduceMod, Int.reduceToNat, or_true, true_or, or_false, false_or, or_self, m_it, m_if, m_c1, m_01, m_02, m_03, m_04, m_10, m_12, m_13, m_14, m_20, m_21, m_23, m_24, m_30, m_31, m_32, m_34, m_40, m_41, m_42, m_43, Int.reduceLE, Int.reduceLT, Int.reduceGE, Int.reduceGT, Int.reduceNeg, Int.reduceAdd, Int.reduceSub, Int.reduceMul, Int.reduceEq, Int.reduceNe, Nat.reduceAdd, jun2, ro_0_0, ro_0_1, ro_0_2, ro_0_3, ro_0_4, ro_0_5, ro_0_6, ro_0_7, ro_0_8, ro_0_9, ro_0_10, ro_0_11, ro_0_12, ro_1_0, ro_1_1, ro_2_0, ro_4_0, ro_6_0, ro_6_1, ro_6_2, ro_6_3, ro_6_4, ro_6_5, ro_6_6, ro_6_7, ro_6_8, ro_8_0, ro_10_0, ro_12_0, ro_14_0, ro_16_0, ro_18_0, ro_20_0, ro_22_0, ro_22_1, ro_22_2, ro_23_0, ro_25_0, ro_27_0, ro_29_0, ro_29_1, ro_29_2, ro_29_3, ro_29_4, ro_29_5, ro_29_6, ro_29_7, ro_29_8, ro_31_0, ro_33_0, ro_35_0, ro_37_0, ro_39_0, ro_41_0, ro_43_0, ro_45_0, ro_45_1, ro_45_2, ro_46_0, ro_48_0, ro_50_0, ro_52_0, ro_52_1, ro_52_2, ro_52_3, ro_53_0, ro_55_0, ro_57_0, ro_59_0, ro_61_0, ro_61_1, ro_61_2, ro_61_3, ro_62_0, ro_64_0, ro_66_0, ro_68_0, ro_70_0, ro_70_1, ro_70_2, ro_70_3, ro_70_4, ro_70_5, ro_70_6, ro_70_7, ro_70_8, ro_70_9, ro_71_0, ro_73_0, ro_75_0, ro_77_0, ro_79_0, ro_81_0, ro_83_0, ro_85_0, ro_87_0, ro_89_0, ro_91_0, ro_91_1, ro_91_2, ro_91_3, ro_91_4, ro_91_5, ro_91_6, ro_91_7, ro_91_8, ro_91_9, ro_92_0, ro_94_0, ro_96_0, ro_98_0, ro_100_0, ro_102_0, ro_104_0, ro_106_0, ro_108_0, ro_110_0, ro_112_0, ro_112_1, ro_112_2, ro_112_3, ro_112_4, ro_112_5, ro_112_6, ro_112_7, ro_112_8, ro_112_9, ro_113_0, ro_115_0, ro_117_0, ro_119_0, ro_121_0, ro_123_0, ro_125_0, ro_127_0, ro_129_0, ro_131_0, ro_133_0, ro_133_1, ro_133_2, ro_133_3, ro_133_4, ro_133_5, ro_133_6, ro_133_7, ro_133_8, ro_133_9, ro_134_0, ro_136_0, ro_138_0, ro_140_0, ro_142_0, ro_144_0, ro_146_0, ro_148_0, ro_150_0, ro_152_0, ro_154_0, ro_155_0, ro_157_0, ro_157_1, ro_157_2, ro_157_3, ro_157_4, ro_157_5, ro_157_6, ro_157_7, ro_157_8, ro_157_9, ro_158_0, ro_160_0, ro_162_0, ro_164_0, ro_166_0, ro_168_0, ro_170_0, ro_172_0, ro_174_0, ro_176_0, ro_178_0, ro_180_0, ro_182_1, ro_182_4, ro_182_5, ro_182_6, ro_182_9, ro_182_10, ro_182_11, ro_182_13, ro_182_14, ro_182_15, ro_182_16, ro_182_17, ro_182_20, ro_182_21, ro_182_22, ro_182_23, ro_182_24, ro_182_26, ro_182_27, ro_182_28, lo_3, lo_5, lo_7, lo_9, lo_11, lo_13, lo_15, lo_17, lo_19, lo_21, lo_24, lo_26, lo_28, lo_30, lo_32, lo_34, lo_36, lo_38, lo_40, lo_42, lo_44, lo_47, lo_49, lo_51, lo_54, lo_56, lo_58, lo_60, lo_63, lo_65, lo_67, lo_69, lo_72, lo_74, lo_76, lo_78, lo_80, lo_82, lo_84, lo_86, lo_88, lo_90, lo_93, lo_95, lo_97, lo_99, lo_101, lo_103, lo_105, lo_107, lo_109, lo_111, lo_114, lo_116, lo_118, lo_120, lo_122, lo_124, lo_126, lo_128, lo_130, lo_132, lo_135, lo_137, lo_139, lo_141, lo_143, lo_145, lo_147, lo_149, lo_151, lo_153, lo_156, lo_159, lo_161, lo_163, lo_165, lo_167, lo_169, lo_171, lo_173, lo_175, lo_177, lo_179, lo_181, lo_183, lo_184, lo_185, lo_186, lo_187, lo_188, lo_189, lo_190, lo_191, lo_192, lo_193, lo_194, lo_195, lo_196, lo_197, lo_198, lo_199, lo_200, lo_201, lo_202, lo_203, jp_nn, jp_eq, jp_e1, Classical.not_not, ji0, ji1, ji2, cs18_64, kk_64, cs18_133, kk_133, cs18_134, kk_134, cs18_81, kk_81, jl_0, jl_1, jl_2, jl_3, jl_4, jl_5, jl_6, jl_7, jl_8, jl_9, jl_10, jl_11, jl_12, jl_13, jl_14, jl_15, jl_16, jl_17, jl_18, jl_19, jl_20, jl_21, jl_22, jl_23, jl_24, jl_25, jl_26, jl_27, jl_28, jl_29, jl_30, jl_31, jl_32, jl_33, jl_34, jl_35, jl_36, jl_37, jl_38, jl_39, jl_40, jl_95, jl_96, jl_97, jl_98, jl_99, jl_100, jl_101, jl_102, jl_103, jl_104, jl_105, jl_106, jl_107, jl_108, jl_109, jl_110, jl_111, jl_112, jl_113, jl_114, jl_186, jl_1100, jr, ju, jpT, jpF, tnc, Nat.reduceEqDiff, reduceIte, and_false, false_and, not_true_eq_false, not_false_eq_true, or_false, gt_iff_lt, ge_iff_le, Int.lt_irrefl, Int.le_refl, y1]
      refine ⟨_, _, n1_w, n2_w, n3_w, fun h1 f1_w a1_w => ⟨T, i + 1, n4_w h1 f1_w a1_w, tg, tN_w, by omega, fun kd j h2 k1_w k15 e f2_w t2_w => ?_, fun c j h2 e f2_w t2_w e3_w e4_w el => ?_⟩⟩
      · have y2 : ¬ kd = 0 := by omega
        have ef := t2_w.fa (c := kd) k1_w k15
        have ee : sEnd sLaw T D i = .error (er (tP T) kd j) := by
          rw [ew]
          exact eB_e2 e
        simp only [qe_1, qe_3, qe_4, qe_5, qe_7, qe_72, qe_10, qe_102, qe_13, qe_14, qe_15, qe_16, qe_17, qe_18, qe_20, qe_22, qe_23, qe_21, qe_24, qe_25, qe_26, qe_27, qe_28, qe_30, qe_31, qe_32, qc_20, qc_22, qc_23, qc_21, qc_24, qc_25, qc_26, qc_27, qc_1, qc_3, qc_4, qc_7, qc_13, qc_28, qc_32, qs_1, qs_2, qs_3, qs_4, qs_5, qs_6, qs_9, qs_10, qs_11, qs_14, qs_15, qs_16, qs_27, qs_17, qs_18, qs_19, qs_20, qs_22, qs_23, qs_28, qs_25, qs_26, qs_7, qs_8, kc_1, kn_1, kc_2, kn_2, kc_3, kn_3, kc_4, kn_4, kc_5, kn_5, kc_6, kn_6, kc_7, kn_7, kc_8, kn_8, kc_9, kn_9, kc_10, kn_10, kc_11, kn_11, kc_12, kn_12, kc_13, kn_13, kc_14, kn_14, kc_15, kn_15, kc_16, kc_17, kc_18, kc_19, kc_20, kc_21, kc_22, kc_23, kc_30, kc_32, kc_40, kc_43, kc_45, kc_48, kc_52, kc_56, kc_57, kc_59, kc_60, kc_61, kc_63, kc_64, kc_72, kc_78, kc_97, kc_99, kc_122, kc_126, kc_128, kc_192, kc_200, kc_255, kc_999, kc_1000, kc_9999, kn_9999, kc_10000, kc_12345, kc_65536, kc_252645135, kc_858993459, kc_1103515245, kc_1431655765, kc_2147483647, kc_0, kc_24, kc_28, kc_37, kc_41, kc_42, kc_73, kc_91, kc_95, kc_96, kc_98, kc_100, kc_112, kc_125, kc_150, kc_162, kc_163, kc_168, kc_186, kc_190, kc_250, kc_355, kc_356, kc_404, kc_405, kc_429, kc_573, kc_1002, kc_1100, kc_1891, kc_2200, kc_4719, kc_4869, kc_4881, kc_5148, kc_19741, kc_25433, kc_320403, kc_628412, kc_629093, kc_660401, kc_679843, kc_918640, kc_979410, kc_1178088, kc_6232410, kc_24644941, kc_36238189, kc_38270444, kc_392531318, kc_425693491, kc_1342154595, kc_2147483648, kc_42328242873, kc_891704255789, kc_1722105685577, kc_1858726030364, ct_0, ct_1, ct_2, ct_3, ct_4, ct_5, cf_0, cf_1, cf_2, cf_3, cf_4, cf_5, w_ty6, w_ty7, m_sv, m_z0, m_hd, m_g0, m_gs, m_s0, m_ss, m_ap, m_an, forall_const, true_and, and_true, ne_eq, not_true_eq_false, not_false_eq_true, false_implies, true_implies, implies_true, eq_self, reduceCtorEq, Nat.reduceDiv, Nat.reduceMod, Int.reduceToNat, or_true, true_or, or_false, false_or, or_self, m_it, m_if, m_c1, m_01, m_02, m_03, m_04, m_10, m_12, m_13, m_14, m_20, m_21, m_23, m_24, m_30, m_31, m_32, m_34, m_40, m_41, m_42, m_43, Int.reduceLE, Int.reduceLT, Int.reduceGE, Int.reduceGT, Int.reduceNeg, Int.reduceAdd, Int.reduceSub, Int.reduceMul, Int.reduceEq, Int.reduceNe, Nat.reduceAdd, jun2, ro_0_0, ro_0_1, ro_0_2, ro_0_3, ro_0_4, ro_0_5, ro_0_6, ro_0_7, ro_0_8, ro_0_9, ro_0_10, ro_0_11, ro_0_12, ro_1_0, ro_1_1, ro_2_0, ro_4_0, ro_6_0, ro_6_1, ro_6_2, ro_6_3, ro_6_4, ro_6_5, ro_6_6, ro_6_7, ro_6_8, ro_8_0, ro_10_0, ro_12_0, ro_14_0, ro_16_0, ro_18_0, ro_20_0, ro_22_0, ro_22_1, ro_22_2, ro_23_0, ro_25_0, ro_27_0, ro_29_0, ro_29_1, ro_29_2, ro_29_3, ro_29_4, ro_29_5, ro_29_6, ro_29_7, ro_29_8, ro_31_0, ro_33_0, ro_35_0, ro_37_0, ro_39_0, ro_41_0, ro_43_0, ro_45_0, ro_45_1, ro_45_2, ro_46_0, ro_48_0, ro_50_0, ro_52_0, ro_52_1, ro_52_2, ro_52_3, ro_53_0, ro_55_0, ro_57_0, ro_59_0, ro_61_0, ro_61_1, ro_61_2, ro_61_3, ro_62_0, ro_64_0, ro_66_0, ro_68_0, ro_70_0, ro_70_1, ro_70_2, ro_70_3, ro_70_4, ro_70_5, ro_70_6, ro_70_7, ro_70_8, ro_70_9, ro_71_0, ro_73_0, ro_75_0, ro_77_0, ro_79_0, ro_81_0, ro_83_0, ro_85_0, ro_87_0, ro_89_0, ro_91_0, ro_91_1, ro_91_2, ro_91_3, ro_91_4, ro_91_5, ro_91_6, ro_91_7, ro_91_8, ro_91_9, ro_92_0, ro_94_0, ro_96_0, ro_98_0, ro_100_0, ro_102_0, ro_104_0, ro_106_0, ro_108_0, ro_110_0, ro_112_0, ro_112_1, ro_112_2, ro_112_3, ro_112_4, ro_112_5, ro_112_6, ro_112_7, ro_112_8, ro_112_9, ro_113_0, ro_115_0, ro_117_0, ro_119_0, ro_121_0, ro_123_0, ro_125_0, ro_127_0, ro_129_0, ro_131_0, ro_133_0, ro_133_1, ro_133_2, ro_133_3, ro_133_4, ro_133_5, ro_133_6, ro_133_7, ro_133_8, ro_133_9, ro_134_0, ro_136_0, ro_138_0, ro_140_0, ro_142_0, ro_144_0, ro_146_0, ro_148_0, ro_150_0, ro_152_0, ro_154_0, ro_155_0, ro_157_0, ro_157_1, ro_157_2, ro_157_3, ro_157_4, ro_157_5, ro_157_6, ro_157_7, ro_157_8, ro_157_9, ro_158_0, ro_160_0, ro_162_0, ro_164_0, ro_166_0, ro_168_0, ro_170_0, ro_172_0, ro_174_0, ro_176_0, ro_178_0, ro_180_0, ro_182_1, ro_182_4, ro_182_5, ro_182_6, ro_182_9, ro_182_10, ro_182_11, ro_182_13, ro_182_14, ro_182_15, ro_182_16, ro_182_17, ro_182_20, ro_182_21, ro_182_22, ro_182_23, ro_182_24, ro_182_26, ro_182_27, ro_182_28, lo_3, lo_5, lo_7, lo_9, lo_11, lo_13, lo_15, lo_17, lo_19, lo_21, lo_24, lo_26, lo_28, lo_30, lo_32, lo_34, lo_36, lo_38, lo_40, lo_42, lo_44, lo_47, lo_49, lo_51, lo_54, lo_56, lo_58, lo_60, lo_63, lo_65, lo_67, lo_69, lo_72, lo_74, lo_76, lo_78, lo_80, lo_82, lo_84, lo_86, lo_88, lo_90, lo_93, lo_95, lo_97, lo_99, lo_101, lo_103, lo_105, lo_107, lo_109, lo_111, lo_114, lo_116, lo_118, lo_120, lo_122, lo_124, lo_126, lo_128, lo_130, lo_132, lo_135, lo_137, lo_139, lo_141, lo_143, lo_145, lo_147, lo_149, lo_151, lo_153, lo_156, lo_159, lo_161, lo_163, lo_165, lo_167, lo_169, lo_171, lo_173, lo_175, lo_177, lo_179, lo_181, lo_183, lo_184, lo_185, lo_186, lo_187, lo_188, lo_189, lo_190, lo_191, lo_192, lo_193, lo_194, lo_195, lo_196, lo_197, lo_198, lo_199, lo_200, lo_201, lo_202, lo_203, jp_nn, jp_eq, jp_e1, Classical.not_not, ji0, ji1, ji2, cs18_64, kk_64, cs18_133, kk_133, cs18_134, kk_134, cs18_81, kk_81, jl_0, jl_1, jl_2, jl_3, jl_4, jl_5, jl_6, jl_7, jl_8, jl_9, jl_10, jl_11, jl_12, jl_13, jl_14, jl_15, jl_16, jl_17, jl_18, jl_19, jl_20, jl_21, jl_22, jl_23, jl_24, jl_25, jl_26, jl_27, jl_28, jl_29, jl_30, jl_31, jl_32, jl_33, jl_34, jl_35, jl_36, jl_37, jl_38, jl_39, jl_40, jl_95, jl_96, jl_97, jl_98, jl_99, jl_100, jl_101, jl_102, jl_103, jl_104, jl_105, jl_106, jl_107, jl_108, jl_109, jl_110, jl_111, jl_112, jl_113, jl_114, jl_186, jl_1100, jr, ju, jpT, jpF, tnc, Nat.reduceEqDiff, reduceIte, and_false, false_and, not_true_eq_false, not_false_eq_true, or_false, gt_iff_lt, ge_iff_le, Int.lt_irrefl, Int.le_refl, y2, ef]
        exact q1_w _ _ ee (((f0_w.tr f1_w.rd.fl).tr f2_w.fl).tr (FL.up (by omega))) up_eq
      · have fl2 : FL h h2 := (f0_w.tr f1_w.rd.fl).tr f2_w.fl
        have cd0 : CD 29 D (j_up h 1 8 1) := cd.fr (fun o k a b => up_ne (by omega))
        have cd2 : CD 29 (D.1, D.2.1, D.2.2.1, D.2.2.2.1, D.2.2.2.2.1, some c) h2 := (cd0.rd f1_w.rd).lw f2_w e3_w e4_w el
        have g7 : h2 1 7 = h 1 7 := (f2_w 1 7 (by omega)).trans ((f1_w 1 7 (by omega)).trans (up_ne (by omega)))
        have g8 : h2 1 8 = 1 := (f2_w 1 8 (by omega)).trans ((f1_w 1 8 (by omega)).trans up_eq)
        have rf2 : RFD (D.1, D.2.1, D.2.2.1, D.2.2.2.1, D.2.2.2.2.1, some c) h2 := ⟨g7.trans rf.1, g8⟩
        have ee : ∀ x, sSgn (tS T) (tP T) (tV T) 59 j = x → sEnd sLaw T D i = eB x fun j => .ok ((D.1, D.2.1, D.2.2.1, D.2.2.2.1, D.2.2.2.2.1, some c), j) := fun x e' => by
          rw [ew, e]
          show eB (sSgn (tS T) (tP T) (tV T) 59 j) _ = _
          rw [e']
        exact ⟨T, j, t2_w, fun f h4 e' f4_w e6_w => q1_w f h4 (by rw [ee _ e']; rfl) (fl2.tr f4_w.fl) e6_w, fun j2_w h4 e' f4_w t4_w => q2_w _ j2_w h4 (by rw [ee _ e']; rfl) (fl2.tr f4_w.fl) (f4_w.2.trans ((f2_w 1 6 (by omega)).trans ((f1_w 1 6 (by omega)).trans (up_ne (by omega))))) (cd2.rd f4_w.1) (rf2.rd f4_w.1) t4_w⟩
  · exact hQ.elim
theorem snd_18 {xs : Nat → Int} {L K : Nat} : ∀ n, SndC CS18 (evF xs L g_ck K g_cW g_M n) := snd_all snd_17 (fun f av h Q hQ => by
  unfold CS18 at hQ
  split at hQ
  · exact Or.inr m_128
  · exact Or.inl hQ)
end
section
/-! ===== contracts: the class's grid is_w read ===== -/
def k119 : KT := fun av h Q => match av with
  | [o, p] => o = 1 ∧ p = 29 ∧ ∃ (T : TA), T.2.1 ≤ 1000 ∧ BYT T.1 h ∧ TOK (h 3) T.1 T.2.1 (tS T) (tP T) (tV T) ∧ TGd T ∧ (∀ f h', sGrid (tS T) (tP T) (tV T) wl 1001 DD0 0 = .error f → FL h h' → Q 1 [f] h') ∧ (∀ D h', sGrid (tS T) (tP T) (tV T) wl 1001 DD0 0 = .ok D → FL h h' → CD 29 D h' → Q 1 [0] h')
  | _ => False
section KKD5
variable {h h1 h2 h' : XH} {Q : Nat → List Int → XH → Prop} {D D' : DD} {T : TA} {i j : Nat}
theorem kk_119 : k119 [1, 29] h Q = ∃ (T : TA), T.2.1 ≤ 1000 ∧ BYT T.1 h ∧ TOK (h 3) T.1 T.2.1 (tS T) (tP T) (tV T) ∧ TGd T ∧ (∀ f h', sGrid (tS T) (tP T) (tV T) wl 1001 DD0 0 = .error f → FL h h' → Q 1 [f] h') ∧ (∀ D h', sGrid (tS T) (tP T) (tV T) wl 1001 DD0 0 = .ok D → FL h h' → CD 29 D h' → Q 1 [0] h') := propext ⟨fun a => a.2.2, fun a => ⟨rfl, rfl, a⟩⟩
/-- one line, and the sign behind_w it -/
theorem sGrid_s {k : Nat} (h : tS T i ≠ 0) : sGrid (tS T) (tP T) (tV T) wl (k + 1) D i = eB (sEnd sLine T D i) fun r => sGrid (tS T) (tP T) (tV T) wl k r.1 r.2 := by
  rw [sGrid, if_neg h]
  show _ = eB (eB (sLine (tS T) (tP T) (tV T) wl D i) fun r => eB (sSgn (tS T) (tP T) (tV T) 59 r.2) fun j => .ok (r.1, j)) _
  rw [eB_as]
  refine eB_cg fun a _ => ?_
  rw [eB_as]
  rfl
theorem sEnd_sz {D' : DD} {j : Nat} (e : sEnd sLine T D i = .ok (D', j)) : szD D' = szD D + 1 := by
  obtain ⟨⟨D1, j1⟩, e1_w, e2_w⟩ := eB_ok e
  obtain ⟨j2_w, e3_w, e4_w⟩ := eB_ok e2_w
  cases e4_w
  exact sz_line e1_w
theorem CD.sz (c : CD 29 D h) : szD D ≤ 17 := by
  obtain ⟨⟨⟨c1_w, c2, c3, l1, l2, l3⟩, r1_w, r2, r3, nd⟩, d1_w, d2_w, d3_w, d4_w, d5⟩ := c
  unfold szD
  have a : (if D.1 ≠ 0 then 1 else 0) ≤ 1 := by split <;> omega
  have b : (if D.2.1.isSome then 1 else 0) ≤ 1 := by split <;> omega
  have c : (if D.2.2.2.2.2.isSome then 1 else 0) ≤ 1 := by split <;> omega
  omega
theorem sEnd_ln {sp_w : (S P V W : Nat → Int) → DD → Nat → XZ (DD × Nat)} (e : sLine (tS T) (tP T) (tV T) wl D i = sp_w (tS T) (tP T) (tV T) wl D i) : sEnd sp_w T D i = sEnd sLine T D i := by
  unfold sEnd
  rw [e]
def GIV (T : TA) (h : XH) (en : List Int) (h1 : XH) : Prop := ∃ (w : Int) (b k : Int), en = [1, 29, b, k, w] ∧ FL h h1 ∧ ((b = 1 ∧ ∃ (i : Nat) (D : DD), k = (szD D : Int) ∧ TCA T i h1 ∧ CD 29 D h1 ∧ RFD D h1 ∧ h1 1 6 = 0 ∧ sGrid (tS T) (tP T) (tV T) wl 1001 DD0 0 = sGrid (tS T) (tP T) (tV T) wl (1001 - szD D) D i) ∨ (b = 0 ∧ (0 ≤ k ∧ k ≤ 1000) ∧ sGrid (tS T) (tP T) (tV T) wl 1001 DD0 0 = .error (h1 1 6)))
end KKD5
def CS19 : CSt := fun f => match f with
  | 119 => k119
  | _ => CS18 f
theorem cs19_72 {av : List Int} {h : XH} {Q : Nat → List Int → XH → Prop} : CS19 72 av h Q = k72 av h Q := id rfl
theorem cs19_63 {av : List Int} {h : XH} {Q : Nat → List Int → XH → Prop} : CS19 63 av h Q = k63 av h Q := id rfl
theorem cs19_77 {av : List Int} {h : XH} {Q : Nat → List Int → XH → Prop} : CS19 77 av h Q = k77 av h Q := id rfl
theorem cs19_133 {av : List Int} {h : XH} {Q : Nat → List Int → XH → Prop} : CS19 133 av h Q = k133 av h Q := id rfl
theorem cs19_96 {av : List Int} {h : XH} {Q : Nat → List Int → XH → Prop} : CS19 96 av h Q = k96 av h Q := id rfl
theorem cs19_122 {av : List Int} {h : XH} {Q : Nat → List Int → XH → Prop} : CS19 122 av h Q = k122 av h Q := id rfl
theorem cs19_123 {av : List Int} {h : XH} {Q : Nat → List Int → XH → Prop} : CS19 123 av h Q = k123 av h Q := id rfl
theorem cs19_124 {av : List Int} {h : XH} {Q : Nat → List Int → XH → Prop} : CS19 124 av h Q = k124 av h Q := id rfl
theorem cs19_125 {av : List Int} {h : XH} {Q : Nat → List Int → XH → Prop} : CS19 125 av h Q = k125 av h Q := id rfl
theorem cs19_126 {av : List Int} {h : XH} {Q : Nat → List Int → XH → Prop} : CS19 126 av h Q = k126 av h Q := id rfl
theorem cs19_128 {av : List Int} {h : XH} {Q : Nat → List Int → XH → Prop} : CS19 128 av h Q = k128 av h Q := id rfl
theorem cs19_119 {av : List Int} {h : XH} {Q : Nat → List Int → XH → Prop} : CS19 119 av h Q = k119 av h Q := id rfl
theorem m_119 : BodyOK CS19 CS19 119 := fun av h Q hQ => by
  rw [cs19_119] at hQ
  unfold k119 at hQ
  split at hQ
  · rename_i o p
    obtain ⟨rfl, rfl, T, tN_w, byt, tok, tg, q1_w, q2_w⟩ := hQ
    show pS CS19 bb_119 [1, 29, 0, 0, 0] h _
    unfold bb_119
    simp only [qe_1, qe_3, qe_4, qe_5, qe_7, qe_72, qe_10, qe_102, qe_13, qe_14, qe_15, qe_16, qe_17, qe_18, qe_20, qe_22, qe_23, qe_21, qe_24, qe_25, qe_26, qe_27, qe_28, qe_30, qe_31, qe_32, qc_20, qc_22, qc_23, qc_21, qc_24, qc_25, qc_26, qc_27, qc_1, qc_3, qc_4, qc_7, qc_13, qc_28, qc_32, qs_1, qs_2, qs_3, qs_4, qs_5, qs_6, qs_9, qs_10, qs_11, qs_14, qs_15, qs_16, qs_27, qs_17, qs_18, qs_19, qs_20, qs_22, qs_23, qs_28, qs_25, qs_26, qs_7, qs_8, kc_1, kn_1, kc_2, kn_2, kc_3, kn_3, kc_4, kn_4, kc_5, kn_5, kc_6, kn_6, kc_7, kn_7, kc_8, kn_8, kc_9, kn_9, kc_10, kn_10, kc_11, kn_11, kc_12, kn_12, kc_13, kn_13, kc_14, kn_14, kc_15, kn_15, kc_16, kc_17, kc_18, kc_19, kc_20, kc_21, kc_22, kc_23, kc_30, kc_32, kc_40, kc_43, kc_45, kc_48, kc_52, kc_56, kc_57, kc_59, kc_60, kc_61, kc_63, kc_64, kc_72, kc_78, kc_97, kc_99, kc_122, kc_126, kc_128, kc_192, kc_200, kc_255, kc_999, kc_1000, kc_9999, kn_9999, kc_10000, kc_12345, kc_65536, kc_252645135, kc_858993459, kc_1103515245, kc_1431655765, kc_2147483647, kc_0, kc_24, kc_28, kc_37, kc_41, kc_42, kc_73, kc_91, kc_95, kc_96, kc_98, kc_100, kc_112, kc_125, kc_150, kc_162, kc_163, kc_168, kc_186, kc_190, kc_250, kc_355, kc_356, kc_404, kc_405, kc_429, kc_573, kc_1002, kc_1100, kc_1891, kc_2200, kc_4719, kc_4869, kc_4881, kc_5148, kc_19741, kc_25433, kc_320403, kc_628412, kc_629093, kc_660401, kc_679843, kc_918640, kc_979410, kc_1178088, kc_6232410, kc_24644941, kc_36238189, kc_38270444, kc_392531318, kc_425693491, kc_1342154595, kc_2147483648, kc_42328242873, kc_891704255789, kc_1722105685577, kc_1858726030364, ct_0, ct_1, ct_2, ct_3, ct_4, ct_5, cf_0, cf_1, cf_2, cf_3, cf_4, cf_5, w_ty6, w_ty7, m_sv, m_z0, m_hd, m_g0, m_gs, m_s0, m_ss, m_ap, m_an, forall_const, true_and, and_true, ne_eq, not_true_eq_false, not_false_eq_true, false_implies, true_implies, implies_true, eq_self, reduceCtorEq, Nat.reduceDiv, Nat.reduceMod, Int.reduceToNat, or_true, true_or, or_false, false_or, or_self, m_it, m_if, m_c1, m_01, m_02, m_03, m_04, m_10, m_12, m_13, m_14, m_20, m_21, m_23, m_24, m_30, m_31, m_32, m_34, m_40, m_41, m_42, m_43, Int.reduceLE, Int.reduceLT, Int.reduceGE, Int.reduceGT, Int.reduceNeg, Int.reduceAdd, Int.reduceSub, Int.reduceMul, Int.reduceEq, Int.reduceNe, Nat.reduceAdd, jun2, ro_0_0, ro_0_1, ro_0_2, ro_0_3, ro_0_4, ro_0_5, ro_0_6, ro_0_7, ro_0_8, ro_0_9, ro_0_10, ro_0_11, ro_0_12, ro_1_0, ro_1_1, ro_2_0, ro_4_0, ro_6_0, ro_6_1, ro_6_2, ro_6_3, ro_6_4, ro_6_5, ro_6_6, ro_6_7, ro_6_8, ro_8_0, ro_10_0, ro_12_0, ro_14_0, ro_16_0, ro_18_0, ro_20_0, ro_22_0, ro_22_1, ro_22_2, ro_23_0, ro_25_0, ro_27_0, ro_29_0, ro_29_1, ro_29_2, ro_29_3, ro_29_4, ro_29_5, ro_29_6, ro_29_7, ro_29_8, ro_31_0, ro_33_0, ro_35_0, ro_37_0, ro_39_0, ro_41_0, ro_43_0, ro_45_0, ro_45_1, ro_45_2, ro_46_0, ro_48_0, ro_50_0, ro_52_0, ro_52_1, ro_52_2, ro_52_3, ro_53_0, ro_55_0, ro_57_0, ro_59_0, ro_61_0, ro_61_1, ro_61_2, ro_61_3, ro_62_0, ro_64_0, ro_66_0, ro_68_0, ro_70_0, ro_70_1, ro_70_2, ro_70_3, ro_70_4, ro_70_5, ro_70_6, ro_70_7, ro_70_8, ro_70_9, ro_71_0, ro_73_0, ro_75_0, ro_77_0, ro_79_0, ro_81_0, ro_83_0, ro_85_0, ro_87_0, ro_89_0, ro_91_0, ro_91_1, ro_91_2, ro_91_3, ro_91_4, ro_91_5, ro_91_6, ro_91_7, ro_91_8, ro_91_9, ro_92_0, ro_94_0, ro_96_0, ro_98_0, ro_100_0, ro_102_0, ro_104_0, ro_106_0, ro_108_0, ro_110_0, ro_112_0, ro_112_1, ro_112_2, ro_112_3, ro_112_4, ro_112_5, ro_112_6, ro_112_7, ro_112_8, ro_112_9, ro_113_0, ro_115_0, ro_117_0, ro_119_0, ro_121_0, ro_123_0, ro_125_0, ro_127_0, ro_129_0, ro_131_0, ro_133_0, ro_133_1, ro_133_2, ro_133_3, ro_133_4, ro_133_5, ro_133_6, ro_133_7, ro_133_8, ro_133_9, ro_134_0, ro_136_0, ro_138_0, ro_140_0, ro_142_0, ro_144_0, ro_146_0, ro_148_0, ro_150_0, ro_152_0, ro_154_0, ro_155_0, ro_157_0, ro_157_1, ro_157_2, ro_157_3, ro_157_4, ro_157_5, ro_157_6, ro_157_7, ro_157_8, ro_157_9, ro_158_0, ro_160_0, ro_162_0, ro_164_0, ro_166_0, ro_168_0, ro_170_0, ro_172_0, ro_174_0, ro_176_0, ro_178_0, ro_180_0, ro_182_1, ro_182_4, ro_182_5, ro_182_6, ro_182_9, ro_182_10, ro_182_11, ro_182_13, ro_182_14, ro_182_15, ro_182_16, ro_182_17, ro_182_20, ro_182_21, ro_182_22, ro_182_23, ro_182_24, ro_182_26, ro_182_27, ro_182_28, lo_3, lo_5, lo_7, lo_9, lo_11, lo_13, lo_15, lo_17, lo_19, lo_21, lo_24, lo_26, lo_28, lo_30, lo_32, lo_34, lo_36, lo_38, lo_40, lo_42, lo_44, lo_47, lo_49, lo_51, lo_54, lo_56, lo_58, lo_60, lo_63, lo_65, lo_67, lo_69, lo_72, lo_74, lo_76, lo_78, lo_80, lo_82, lo_84, lo_86, lo_88, lo_90, lo_93, lo_95, lo_97, lo_99, lo_101, lo_103, lo_105, lo_107, lo_109, lo_111, lo_114, lo_116, lo_118, lo_120, lo_122, lo_124, lo_126, lo_128, lo_130, lo_132, lo_135, lo_137, lo_139, lo_141, lo_143, lo_145, lo_147, lo_149, lo_151, lo_153, lo_156, lo_159, lo_161, lo_163, lo_165, lo_167, lo_169, lo_171, lo_173, lo_175, lo_177, lo_179, lo_181, lo_183, lo_184, lo_185, lo_186, lo_187, lo_188, lo_189, lo_190, lo_191, lo_192, lo_193, lo_194, lo_195, lo_196, lo_197, lo_198, lo_199, lo_200, lo_201, lo_202, lo_203, jp_nn, jp_eq, jp_e1, Classical.not_not, ji0, ji1, ji2, cs19_72, kk_72, cs19_63, kk_63, cs19_77, kk_77, cs19_133, kk_133, cs19_96, kk_96, cs19_122, kk_122, cs19_123, kk_123, cs19_124, kk_124, cs19_125, kk_125, cs19_126, kk_126, cs19_128, kk_128, jl_0, jl_1, jl_2, jl_3, jl_4, jl_5, jl_6, jl_7, jl_8, jl_9, jl_10, jl_11, jl_12, jl_13, jl_14, jl_15, jl_16, jl_17, jl_18, jl_19, jl_20, jl_21, jl_22, jl_23, jl_24, jl_25, jl_26, jl_27, jl_28, jl_29, jl_30, jl_31, jl_32, jl_33, jl_34, jl_35, jl_36, jl_37, jl_38, jl_39, jl_40, jl_95, jl_96, jl_97, jl_98, jl_99, jl_100, jl_101, jl_102, jl_103, jl_104, jl_105, jl_106, jl_107, jl_108, jl_109, jl_110, jl_111, jl_112, jl_113, jl_114, jl_186, jl_1100, jr, ju, jpT, jpF, tnc, Nat.reduceEqDiff, reduceIte, and_false, false_and, not_true_eq_false, not_false_eq_true, or_false, gt_iff_lt, ge_iff_le, Int.lt_irrefl, Int.le_refl]
    intro h1 f1_w cd1
    have f2_w : FL h1 (j_up (j_up (j_up h1 1 6 0) 1 7 0) 1 8 0) := (FL.up (by omega)).tr ((FL.up (by omega)).tr (FL.up (by omega)))
    have fl2 : FL h (j_up (j_up (j_up h1 1 6 0) 1 7 0) 1 8 0) := f1_w.fl.tr f2_w
    have e2_w : ∀ o k : Nat, o ≠ 1 → o < 29 → j_up (j_up (j_up h1 1 6 0) 1 7 0) 1 8 0 o k = h o k := fun o k z z2 => by
      rw [up_ne (by omega), up_ne (by omega), up_ne (by omega)]
      exact f1_w o k (by omega)
    have e3_w : j_up (j_up (j_up h1 1 6 0) 1 7 0) 1 8 0 3 = h 3 := funext fun k => e2_w 3 k (by decide) (by decide)
    have byt2 : BYT T.1 (j_up (j_up (j_up h1 1 6 0) 1 7 0) 1 8 0) := by
      refine ⟨(e2_w 2 1 (by decide) (by decide)).trans byt.1, byt.2.1, fun k z => ?_⟩
      rw [e3_w]
      exact byt.2.2 k z
    have cd2 : CD 29 DD0 (j_up (j_up (j_up h1 1 6 0) 1 7 0) 1 8 0) := cd1.fr (fun o k a b => by rw [up_ne (by omega), up_ne (by omega), up_ne (by omega)])
    refine ⟨T.1, byt2, fun h3 f3_w a3 => ?_⟩
    have t3_w : TCA T 0 h3 := by
      refine ADV.tc tok.rest (byt2.ft f3_w) ?_ ?_
      · exact (f3_w.row (by decide)).trans e3_w
      · rw [← e3_w]
        exact a3
    have fl3 : FL h h3 := fl2.tr f3_w.rd.fl
    have cd3 : CD 29 DD0 h3 := cd2.rd f3_w.rd
    have g6 : h3 1 6 = 0 := (f3_w 1 6 (by omega)).trans rfl
    have rf3 : RFD DD0 h3 := ⟨(f3_w 1 7 (by omega)).trans rfl, (f3_w 1 8 (by omega)).trans rfl⟩
    refine qp_lp (fun en h4 => GIV T h en h4) ⟨0, 1, 0, rfl, fl3, Or.inl ⟨rfl, 0, DD0, rfl, t3_w, cd3, rf3, g6, rfl⟩⟩ ?_
    intro en h4 ⟨w0_w, b, k, e4_w, fl4, hb_w⟩
    subst e4_w
    rcases hb_w with ⟨rfl, i, D, rfl, t4_w, cd4, rf4, g4, ev_w⟩ | ⟨rfl, kb, ev_w⟩
    · have sz := cd4.sz
      have yk : (szD D : Int) < 1000 := by omega
      have yk' : ¬ (1000 : Int) ≤ (szD D : Int) := by omega
      have ek := jk1 (k := szD D) (by omega)
      by_cases y0 : tS T i = 0
      · have y0' : h4 2 3 = 0 := t4_w.2.1.trans y0
        have eg : sGrid (tS T) (tP T) (tV T) wl 1001 DD0 0 = .ok D := by
          rw [ev_w, show 1001 - szD D = (1000 - szD D) + 1 by omega, sGrid, if_pos y0]
        have fin_w := q2_w D h4 eg fl4 cd4
        simp only [qe_1, qe_3, qe_4, qe_5, qe_7, qe_72, qe_10, qe_102, qe_13, qe_14, qe_15, qe_16, qe_17, qe_18, qe_20, qe_22, qe_23, qe_21, qe_24, qe_25, qe_26, qe_27, qe_28, qe_30, qe_31, qe_32, qc_20, qc_22, qc_23, qc_21, qc_24, qc_25, qc_26, qc_27, qc_1, qc_3, qc_4, qc_7, qc_13, qc_28, qc_32, qs_1, qs_2, qs_3, qs_4, qs_5, qs_6, qs_9, qs_10, qs_11, qs_14, qs_15, qs_16, qs_27, qs_17, qs_18, qs_19, qs_20, qs_22, qs_23, qs_28, qs_25, qs_26, qs_7, qs_8, kc_1, kn_1, kc_2, kn_2, kc_3, kn_3, kc_4, kn_4, kc_5, kn_5, kc_6, kn_6, kc_7, kn_7, kc_8, kn_8, kc_9, kn_9, kc_10, kn_10, kc_11, kn_11, kc_12, kn_12, kc_13, kn_13, kc_14, kn_14, kc_15, kn_15, kc_16, kc_17, kc_18, kc_19, kc_20, kc_21, kc_22, kc_23, kc_30, kc_32, kc_40, kc_43, kc_45, kc_48, kc_52, kc_56, kc_57, kc_59, kc_60, kc_61, kc_63, kc_64, kc_72, kc_78, kc_97, kc_99, kc_122, kc_126, kc_128, kc_192, kc_200, kc_255, kc_999, kc_1000, kc_9999, kn_9999, kc_10000, kc_12345, kc_65536, kc_252645135, kc_858993459, kc_1103515245, kc_1431655765, kc_2147483647, kc_0, kc_24, kc_28, kc_37, kc_41, kc_42, kc_73, kc_91, kc_95, kc_96, kc_98, kc_100, kc_112, kc_125, kc_150, kc_162, kc_163, kc_168, kc_186, kc_190, kc_250, kc_355, kc_356, kc_404, kc_405, kc_429, kc_573, kc_1002, kc_1100, kc_1891, kc_2200, kc_4719, kc_4869, kc_4881, kc_5148, kc_19741, kc_25433, kc_320403, kc_628412, kc_629093, kc_660401, kc_679843, kc_918640, kc_979410, kc_1178088, kc_6232410, kc_24644941, kc_36238189, kc_38270444, kc_392531318, kc_425693491, kc_1342154595, kc_2147483648, kc_42328242873, kc_891704255789, kc_1722105685577, kc_1858726030364, ct_0, ct_1, ct_2, ct_3, ct_4, ct_5, cf_0, cf_1, cf_2, cf_3, cf_4, cf_5, w_ty6, w_ty7, m_sv, m_z0, m_hd, m_g0, m_gs, m_s0, m_ss, m_ap, m_an, forall_const, true_and, and_true, ne_eq, not_true_eq_false, not_false_eq_true, false_implies, true_implies, implies_true, eq_self, reduceCtorEq, Nat.reduceDiv, Nat.reduceMod, Int.reduceToNat, or_true, true_or, or_false, false_or, or_self, m_it, m_if, m_c1, m_01, m_02, m_03, m_04, m_10, m_12, m_13, m_14, m_20, m_21, m_23, m_24, m_30, m_31, m_32, m_34, m_40, m_41, m_42, m_43, Int.reduceLE, Int.reduceLT, Int.reduceGE, Int.reduceGT, Int.reduceNeg, Int.reduceAdd, Int.reduceSub, Int.reduceMul, Int.reduceEq, Int.reduceNe, Nat.reduceAdd, jun2, ro_0_0, ro_0_1, ro_0_2, ro_0_3, ro_0_4, ro_0_5, ro_0_6, ro_0_7, ro_0_8, ro_0_9, ro_0_10, ro_0_11, ro_0_12, ro_1_0, ro_1_1, ro_2_0, ro_4_0, ro_6_0, ro_6_1, ro_6_2, ro_6_3, ro_6_4, ro_6_5, ro_6_6, ro_6_7, ro_6_8, ro_8_0, ro_10_0, ro_12_0, ro_14_0, ro_16_0, ro_18_0, ro_20_0, ro_22_0, ro_22_1, ro_22_2, ro_23_0, ro_25_0, ro_27_0, ro_29_0, ro_29_1, ro_29_2, ro_29_3, ro_29_4, ro_29_5, ro_29_6, ro_29_7, ro_29_8, ro_31_0, ro_33_0, ro_35_0, ro_37_0, ro_39_0, ro_41_0, ro_43_0, ro_45_0, ro_45_1, ro_45_2, ro_46_0, ro_48_0, ro_50_0, ro_52_0, ro_52_1, ro_52_2, ro_52_3, ro_53_0, ro_55_0, ro_57_0, ro_59_0, ro_61_0, ro_61_1, ro_61_2, ro_61_3, ro_62_0, ro_64_0, ro_66_0, ro_68_0, ro_70_0, ro_70_1, ro_70_2, ro_70_3, ro_70_4, ro_70_5, ro_70_6, ro_70_7, ro_70_8, ro_70_9, ro_71_0, ro_73_0, ro_75_0, ro_77_0, ro_79_0, ro_81_0, ro_83_0, ro_85_0, ro_87_0, ro_89_0, ro_91_0, ro_91_1, ro_91_2, ro_91_3, ro_91_4, ro_91_5, ro_91_6, ro_91_7, ro_91_8, ro_91_9, ro_92_0, ro_94_0, ro_96_0, ro_98_0, ro_100_0, ro_102_0, ro_104_0, ro_106_0, ro_108_0, ro_110_0, ro_112_0, ro_112_1, ro_112_2, ro_112_3, ro_112_4, ro_112_5, ro_112_6, ro_112_7, ro_112_8, ro_112_9, ro_113_0, ro_115_0, ro_117_0, ro_119_0, ro_121_0, ro_123_0, ro_125_0, ro_127_0, ro_129_0, ro_131_0, ro_133_0, ro_133_1, ro_133_2, ro_133_3, ro_133_4, ro_133_5, ro_133_6, ro_133_7, ro_133_8, ro_133_9, ro_134_0, ro_136_0, ro_138_0, ro_140_0, ro_142_0, ro_144_0, ro_146_0, ro_148_0, ro_150_0, ro_152_0, ro_154_0, ro_155_0, ro_157_0, ro_157_1, ro_157_2, ro_157_3, ro_157_4, ro_157_5, ro_157_6, ro_157_7, ro_157_8, ro_157_9, ro_158_0, ro_160_0, ro_162_0, ro_164_0, ro_166_0, ro_168_0, ro_170_0, ro_172_0, ro_174_0, ro_176_0, ro_178_0, ro_180_0, ro_182_1, ro_182_4, ro_182_5, ro_182_6, ro_182_9, ro_182_10, ro_182_11, ro_182_13, ro_182_14, ro_182_15, ro_182_16, ro_182_17, ro_182_20, ro_182_21, ro_182_22, ro_182_23, ro_182_24, ro_182_26, ro_182_27, ro_182_28, lo_3, lo_5, lo_7, lo_9, lo_11, lo_13, lo_15, lo_17, lo_19, lo_21, lo_24, lo_26, lo_28, lo_30, lo_32, lo_34, lo_36, lo_38, lo_40, lo_42, lo_44, lo_47, lo_49, lo_51, lo_54, lo_56, lo_58, lo_60, lo_63, lo_65, lo_67, lo_69, lo_72, lo_74, lo_76, lo_78, lo_80, lo_82, lo_84, lo_86, lo_88, lo_90, lo_93, lo_95, lo_97, lo_99, lo_101, lo_103, lo_105, lo_107, lo_109, lo_111, lo_114, lo_116, lo_118, lo_120, lo_122, lo_124, lo_126, lo_128, lo_130, lo_132, lo_135, lo_137, lo_139, lo_141, lo_143, lo_145, lo_147, lo_149, lo_151, lo_153, lo_156, lo_159, lo_161, lo_163, lo_165, lo_167, lo_169, lo_171, lo_173, lo_175, lo_177, lo_179, lo_181, lo_183, lo_184, lo_185, lo_186, lo_187, lo_188, lo_189, lo_190, lo_191, lo_192, lo_193, lo_194, lo_195, lo_196, lo_197, lo_198, lo_199, lo_200, lo_201, lo_202, lo_203, jp_nn, jp_eq, jp_e1, Classical.not_not, ji0, ji1, ji2, cs19_72, kk_72, cs19_63, kk_63, cs19_77, kk_77, cs19_133, kk_133, cs19_96, kk_96, cs19_122, kk_122, cs19_123, kk_123, cs19_124, kk_124, cs19_125, kk_125, cs19_126, kk_126, cs19_128, kk_128, jl_0, jl_1, jl_2, jl_3, jl_4, jl_5, jl_6, jl_7, jl_8, jl_9, jl_10, jl_11, jl_12, jl_13, jl_14, jl_15, jl_16, jl_17, jl_18, jl_19, jl_20, jl_21, jl_22, jl_23, jl_24, jl_25, jl_26, jl_27, jl_28, jl_29, jl_30, jl_31, jl_32, jl_33, jl_34, jl_35, jl_36, jl_37, jl_38, jl_39, jl_40, jl_95, jl_96, jl_97, jl_98, jl_99, jl_100, jl_101, jl_102, jl_103, jl_104, jl_105, jl_106, jl_107, jl_108, jl_109, jl_110, jl_111, jl_112, jl_113, jl_114, jl_186, jl_1100, jr, ju, jpT, jpF, tnc, Nat.reduceEqDiff, reduceIte, and_false, false_and, not_true_eq_false, not_false_eq_true, or_false, gt_iff_lt, ge_iff_le, Int.lt_irrefl, Int.le_refl, yk, yk', y0', g4]
        exact fin_w
      · have y0' : ¬ h4 2 3 = 0 := fun z => y0 (t4_w.2.1.symm.trans z)
        have lt := t4_w.lt y0
        have es : sGrid (tS T) (tP T) (tV T) wl 1001 DD0 0 = eB (sEnd sLine T D i) fun r => sGrid (tS T) (tP T) (tV T) wl (1000 - szD D) r.1 r.2 := by
          rw [ev_w, show 1001 - szD D = (1000 - szD D) + 1 by omega]
          exact sGrid_s y0
        have a0_w : wrd (h4 2 3) (h4 2 6) = 0 ↔ sWd (tS T) (tV T) wl 0 i := t4_w.wd (w := 0) (by decide)
        have a1_w : wrd (h4 2 3) (h4 2 6) = 1 ↔ sWd (tS T) (tV T) wl 1 i := t4_w.wd (w := 1) (by decide)
        have a2 : wrd (h4 2 3) (h4 2 6) = 2 ↔ sWd (tS T) (tV T) wl 2 i := t4_w.wd (w := 2) (by decide)
        have a5 : wrd (h4 2 3) (h4 2 6) = 5 ↔ sWd (tS T) (tV T) wl 5 i := t4_w.wd (w := 5) (by decide)
        have a6 : wrd (h4 2 3) (h4 2 6) = 6 ↔ sWd (tS T) (tV T) wl 6 i := t4_w.wd (w := 6) (by decide)
        have a8 : wrd (h4 2 3) (h4 2 6) = 8 ↔ sWd (tS T) (tV T) wl 8 i := t4_w.wd (w := 8) (by decide)
        have el : sLine (tS T) (tP T) (tV T) wl D i = if wrd (h4 2 3) (h4 2 6) = 2 then sClass (tS T) (tP T) (tV T) wl D i else if wrd (h4 2 3) (h4 2 6) = 5 then sSup (tS T) (tP T) (tV T) wl D i else if wrd (h4 2 3) (h4 2 6) = 6 then sMeter (tS T) (tP T) (tV T) wl D i else if wrd (h4 2 3) (h4 2 6) = 0 then sSlots (tS T) (tP T) (tV T) D i else if wrd (h4 2 3) (h4 2 6) = 1 then sFeed (tS T) (tP T) (tV T) D i else if wrd (h4 2 3) (h4 2 6) = 8 then sLaw (tS T) (tP T) (tV T) wl D i else .error (er (tP T) 1 i) := by
          unfold sLine
          simp only [a0_w, a1_w, a2, a5, a6, a8]
        have ef := t4_w.fa (c := 1) (by decide) (by decide)
        clear a0_w a1_w a2 a5 a6 a8
        have bad_w : ∀ f (h5 : XH), sEnd sLine T D i = .error f → FL h4 h5 → h5 1 6 = f → ∀ w : Int, GIV T h [1, 29, 0, ((szD D + 1 : Nat) : Int), w] h5 := fun f h5 e f5_w e6_w w => ⟨w, 0, _, rfl, fl4.tr f5_w, Or.inr ⟨rfl, by omega, by rw [es, e, e6_w]; rfl⟩⟩
        have good_w : ∀ D' j (h5 : XH), sEnd sLine T D i = .ok (D', j) → FL h4 h5 → h5 1 6 = h4 1 6 → CD 29 D' h5 → RFD D' h5 → TCA T j h5 → ∀ w : Int, GIV T h [1, 29, 1, ((szD D + 1 : Nat) : Int), w] h5 := fun D' j h5 e f5_w e6_w cd5 rf5 t5_w w => by
          have z := sEnd_sz e
          refine ⟨w, 1, _, rfl, fl4.tr f5_w, Or.inl ⟨rfl, j, D', by rw [z], t5_w, cd5, rf5, e6_w.trans g4, ?_⟩⟩
          rw [es, e, z]
          show sGrid _ _ _ _ _ _ _ = _
          rw [show 1001 - (szD D + 1) = 1000 - szD D by omega]
        simp only [qe_1, qe_3, qe_4, qe_5, qe_7, qe_72, qe_10, qe_102, qe_13, qe_14, qe_15, qe_16, qe_17, qe_18, qe_20, qe_22, qe_23, qe_21, qe_24, qe_25, qe_26, qe_27, qe_28, qe_30, qe_31, qe_32, qc_20, qc_22, qc_23, qc_21, qc_24, qc_25, qc_26, qc_27, qc_1, qc_3, qc_4, qc_7, qc_13, qc_28, qc_32, qs_1, qs_2, qs_3, qs_4, qs_5, qs_6, qs_9, qs_10, qs_11, qs_14, qs_15, qs_16, qs_27, qs_17, qs_18, qs_19, qs_20, qs_22, qs_23, qs_28, qs_25, qs_26, qs_7, qs_8, kc_1, kn_1, kc_2, kn_2, kc_3, kn_3, kc_4, kn_4, kc_5, kn_5, kc_6, kn_6, kc_7, kn_7, kc_8, kn_8, kc_9, kn_9, kc_10, kn_10, kc_11, kn_11, kc_12, kn_12, kc_13, kn_13, kc_14, kn_14, kc_15, kn_15, kc_16, kc_17, kc_18, kc_19, kc_20, kc_21, kc_22, kc_23, kc_30, kc_32, kc_40, kc_43, kc_45, kc_48, kc_52, kc_56, kc_57, kc_59, kc_60, kc_61, kc_63, kc_64, kc_72, kc_78, kc_97, kc_99, kc_122, kc_126, kc_128, kc_192, kc_200, kc_255, kc_999, kc_1000, kc_9999, kn_9999, kc_10000, kc_12345, kc_65536, kc_252645135, kc_858993459, kc_1103515245, kc_1431655765, kc_2147483647, kc_0, kc_24, kc_28, kc_37, kc_41, kc_42, kc_73, kc_91, kc_95, kc_96, kc_98, kc_100, kc_112, kc_125, kc_150, kc_162, kc_163, kc_168, kc_186, kc_190, kc_250, kc_355, kc_356, kc_404, kc_405, kc_429, kc_573, kc_1002, kc_1100, kc_1891, kc_2200, kc_4719, kc_4869, kc_4881, kc_5148, kc_19741, kc_25433, kc_320403, kc_628412, kc_629093, kc_660401, kc_679843, kc_918640, kc_979410, kc_1178088, kc_6232410, kc_24644941, kc_36238189, kc_38270444, kc_392531318, kc_425693491, kc_1342154595, kc_2147483648, kc_42328242873, kc_891704255789, kc_1722105685577, kc_1858726030364, ct_0, ct_1, ct_2, ct_3, ct_4, ct_5, cf_0, cf_1, cf_2, cf_3, cf_4, cf_5, w_ty6, w_ty7, m_sv, m_z0, m_hd, m_g0, m_gs, m_s0, m_ss, m_ap, m_an, forall_const, true_and, and_true, ne_eq, not_true_eq_false, not_false_eq_true, false_implies, true_implies, implies_true, eq_self, reduceCtorEq, Nat.reduceDiv, Nat.reduceMod, Int.reduceToNat, or_true, true_or, or_false, false_or, or_self, m_it, m_if, m_c1, m_01, m_02, m_03, m_04, m_10, m_12, m_13, m_14, m_20, m_21, m_23, m_24, m_30, m_31, m_32, m_34, m_40, m_41, m_42, m_43, Int.reduceLE, Int.reduceLT, Int.reduceGE, Int.reduceGT, Int.reduceNeg, Int.reduceAdd, Int.reduceSub, Int.reduceMul, Int.reduceEq, Int.reduceNe, Nat.reduceAdd, jun2, ro_0_0, ro_0_1, ro_0_2, ro_0_3, ro_0_4, ro_0_5, ro_0_6, ro_0_7, ro_0_8, ro_0_9, ro_0_10, ro_0_11, ro_0_12, ro_1_0, ro_1_1, ro_2_0, ro_4_0, ro_6_0, ro_6_1, ro_6_2, ro_6_3, ro_6_4, ro_6_5, ro_6_6, ro_6_7, ro_6_8, ro_8_0, ro_10_0, ro_12_0, ro_14_0, ro_16_0, ro_18_0, ro_20_0, ro_22_0, ro_22_1, ro_22_2, ro_23_0, ro_25_0, ro_27_0, ro_29_0, ro_29_1, ro_29_2, ro_29_3, ro_29_4, ro_29_5, ro_29_6, ro_29_7, ro_29_8, ro_31_0, ro_33_0, ro_35_0, ro_37_0, ro_39_0, ro_41_0, ro_43_0, ro_45_0, ro_45_1, ro_45_2, ro_46_0, ro_48_0, ro_50_0, ro_52_0, ro_52_1, ro_52_2, ro_52_3, ro_53_0, ro_55_0, ro_57_0, ro_59_0, ro_61_0, ro_61_1, ro_61_2, ro_61_3, ro_62_0, ro_64_0, ro_66_0, ro_68_0, ro_70_0, ro_70_1, ro_70_2, ro_70_3, ro_70_4, ro_70_5, ro_70_6, ro_70_7, ro_70_8, ro_70_9, ro_71_0, ro_73_0, ro_75_0, ro_77_0, ro_79_0, ro_81_0, ro_83_0, ro_85_0, ro_87_0, ro_89_0, ro_91_0, ro_91_1, ro_91_2, ro_91_3, ro_91_4, ro_91_5, ro_91_6, ro_91_7, ro_91_8, ro_91_9, ro_92_0, ro_94_0, ro_96_0, ro_98_0, ro_100_0, ro_102_0, ro_104_0, ro_106_0, ro_108_0, ro_110_0, ro_112_0, ro_112_1, ro_112_2, ro_112_3, ro_112_4, ro_112_5, ro_112_6, ro_112_7, ro_112_8, ro_112_9, ro_113_0, ro_115_0, ro_117_0, ro_119_0, ro_121_0, ro_123_0, ro_125_0, ro_127_0, ro_129_0, ro_131_0, ro_133_0, ro_133_1, ro_133_2, ro_133_3, ro_133_4, ro_133_5, ro_133_6, ro_133_7, ro_133_8, ro_133_9, ro_134_0, ro_136_0, ro_138_0, ro_140_0, ro_142_0, ro_144_0, ro_146_0, ro_148_0, ro_150_0, ro_152_0, ro_154_0, ro_155_0, ro_157_0, ro_157_1, ro_157_2, ro_157_3, ro_157_4, ro_157_5, ro_157_6, ro_157_7, ro_157_8, ro_157_9, ro_158_0, ro_160_0, ro_162_0, ro_164_0, ro_166_0, ro_168_0, ro_170_0, ro_172_0, ro_174_0, ro_176_0, ro_178_0, ro_180_0, ro_182_1, ro_182_4, ro_182_5, ro_182_6, ro_182_9, ro_182_10, ro_182_11, ro_182_13, ro_182_14, ro_182_15, ro_182_16, ro_182_17, ro_182_20, ro_182_21, ro_182_22, ro_182_23, ro_182_24, ro_182_26, ro_182_27, ro_182_28, lo_3, lo_5, lo_7, lo_9, lo_11, lo_13, lo_15, lo_17, lo_19, lo_21, lo_24, lo_26, lo_28, lo_30, lo_32, lo_34, lo_36, lo_38, lo_40, lo_42, lo_44, lo_47, lo_49, lo_51, lo_54, lo_56, lo_58, lo_60, lo_63, lo_65, lo_67, lo_69, lo_72, lo_74, lo_76, lo_78, lo_80, lo_82, lo_84, lo_86, lo_88, lo_90, lo_93, lo_95, lo_97, lo_99, lo_101, lo_103, lo_105, lo_107, lo_109, lo_111, lo_114, lo_116, lo_118, lo_120, lo_122, lo_124, lo_126, lo_128, lo_130, lo_132, lo_135, lo_137, lo_139, lo_141, lo_143, lo_145, lo_147, lo_149, lo_151, lo_153, lo_156, lo_159, lo_161, lo_163, lo_165, lo_167, lo_169, lo_171, lo_173, lo_175, lo_177, lo_179, lo_181, lo_183, lo_184, lo_185, lo_186, lo_187, lo_188, lo_189, lo_190, lo_191, lo_192, lo_193, lo_194, lo_195, lo_196, lo_197, lo_198, lo_199, lo_200, lo_201, lo_202, lo_203, jp_nn, jp_eq, jp_e1, Classical.not_not, ji0, ji1, ji2, cs19_72, kk_72, cs19_63, kk_63, cs19_77, kk_77, cs19_133, kk_133, cs19_96, kk_96, cs19_122, kk_122, cs19_123, kk_123, cs19_124, kk_124, cs19_125, kk_125, cs19_126, kk_126, cs19_128, kk_128, jl_0, jl_1, jl_2, jl_3, jl_4, jl_5, jl_6, jl_7, jl_8, jl_9, jl_10, jl_11, jl_12, jl_13, jl_14, jl_15, jl_16, jl_17, jl_18, jl_19, jl_20, jl_21, jl_22, jl_23, jl_24, jl_25, jl_26, jl_27, jl_28, jl_29, jl_30, jl_31, jl_32, jl_33, jl_34, jl_35, jl_36, jl_37, jl_38, jl_39, jl_40, jl_95, jl_96, jl_97, jl_98, jl_99, jl_100, jl_101, jl_102, jl_103, jl_104, jl_105, jl_106, jl_107, jl_108, jl_109, jl_110, jl_111, jl_112, jl_113, jl_114, jl_186, jl_1100, jr, ju, jpT, jpF, tnc, Nat.reduceEqDiff, reduceIte, and_false, false_and, not_true_eq_false, not_false_eq_true, or_false, gt_iff_lt, ge_iff_le, Int.lt_irrefl, Int.le_refl, yk, yk', y0', ek]
        generalize wrd (h4 2 3) (h4 2 6) = w at el ⊢
        refine ⟨fun y => ?_, fun y => ⟨fun y2 => ?_, fun y2 => ⟨fun y3 => ?_, fun y3 => ⟨fun y4 => ?_, fun y4 => ⟨fun y5 => ?_, fun y5 => ⟨fun y6 => ?_, fun y6 => ?_⟩⟩⟩⟩⟩⟩
        · have q : sEnd (fun S P V _ => sSlots S P V) T D i = sEnd sLine T D i := sEnd_ln (by rw [el, y]; rfl)
          exact ⟨T, i, D, t4_w, tg, lt, cd4, rf4, fun f h5 e f5_w e6_w _ => bad_w f h5 (q.symm.trans e) f5_w e6_w _, fun D' j h5 e f5_w e6_w cd5 rf5 t5_w _ => good_w D' j h5 (q.symm.trans e) f5_w e6_w cd5 rf5 t5_w _⟩
        · have q : sEnd (fun S P V _ => sFeed S P V) T D i = sEnd sLine T D i := sEnd_ln (by rw [el, y2]; rfl)
          exact ⟨T, i, D, t4_w, tg, lt, cd4, rf4, fun f h5 e f5_w e6_w _ => bad_w f h5 (q.symm.trans e) f5_w e6_w _, fun D' j h5 e f5_w e6_w cd5 rf5 t5_w _ => good_w D' j h5 (q.symm.trans e) f5_w e6_w cd5 rf5 t5_w _⟩
        · have q : sEnd sClass T D i = sEnd sLine T D i := sEnd_ln (by rw [el, y3]; rfl)
          exact ⟨T, i, D, t4_w, tg, lt, cd4, rf4, fun f h5 e f5_w e6_w _ => bad_w f h5 (q.symm.trans e) f5_w e6_w _, fun D' j h5 e f5_w e6_w cd5 rf5 t5_w _ => good_w D' j h5 (q.symm.trans e) f5_w e6_w cd5 rf5 t5_w _⟩
        · have q : sEnd sSup T D i = sEnd sLine T D i := sEnd_ln (by rw [el, y4]; rfl)
          exact ⟨T, i, D, t4_w, tg, lt, cd4, rf4, fun f h5 e f5_w e6_w _ => bad_w f h5 (q.symm.trans e) f5_w e6_w _, fun D' j h5 e f5_w e6_w cd5 rf5 t5_w _ => good_w D' j h5 (q.symm.trans e) f5_w e6_w cd5 rf5 t5_w _⟩
        · have q : sEnd sMeter T D i = sEnd sLine T D i := sEnd_ln (by rw [el, y5]; rfl)
          exact ⟨T, i, D, t4_w, tg, lt, cd4, rf4, fun f h5 e f5_w e6_w _ => bad_w f h5 (q.symm.trans e) f5_w e6_w _, fun D' j h5 e f5_w e6_w cd5 rf5 t5_w _ => good_w D' j h5 (q.symm.trans e) f5_w e6_w cd5 rf5 t5_w _⟩
        · have q : sEnd sLaw T D i = sEnd sLine T D i := sEnd_ln (by rw [el, y6]; rfl)
          exact ⟨T, i, D, tN_w, t4_w, tg, lt, cd4, rf4, fun f h5 e f5_w e6_w => bad_w f h5 (q.symm.trans e) f5_w e6_w _, fun D' j h5 e f5_w e6_w cd5 rf5 t5_w => good_w D' j h5 (q.symm.trans e) f5_w e6_w cd5 rf5 t5_w _⟩
        · have q : sEnd sLine T D i = .error (er (tP T) 1 i) := by
            unfold sEnd
            rw [el, if_neg y3, if_neg y4, if_neg y5, if_neg y, if_neg y2, if_neg y6]
            rfl
          exact bad_w _ _ q (FL.up (by omega)) (up_eq.trans ef) _
    · have fin_w := q1_w _ h4 ev_w fl4
      by_cases yk : k < 1000
      · have yk' : ¬ (1000 : Int) ≤ k := by omega
        simp only [qe_1, qe_3, qe_4, qe_5, qe_7, qe_72, qe_10, qe_102, qe_13, qe_14, qe_15, qe_16, qe_17, qe_18, qe_20, qe_22, qe_23, qe_21, qe_24, qe_25, qe_26, qe_27, qe_28, qe_30, qe_31, qe_32, qc_20, qc_22, qc_23, qc_21, qc_24, qc_25, qc_26, qc_27, qc_1, qc_3, qc_4, qc_7, qc_13, qc_28, qc_32, qs_1, qs_2, qs_3, qs_4, qs_5, qs_6, qs_9, qs_10, qs_11, qs_14, qs_15, qs_16, qs_27, qs_17, qs_18, qs_19, qs_20, qs_22, qs_23, qs_28, qs_25, qs_26, qs_7, qs_8, kc_1, kn_1, kc_2, kn_2, kc_3, kn_3, kc_4, kn_4, kc_5, kn_5, kc_6, kn_6, kc_7, kn_7, kc_8, kn_8, kc_9, kn_9, kc_10, kn_10, kc_11, kn_11, kc_12, kn_12, kc_13, kn_13, kc_14, kn_14, kc_15, kn_15, kc_16, kc_17, kc_18, kc_19, kc_20, kc_21, kc_22, kc_23, kc_30, kc_32, kc_40, kc_43, kc_45, kc_48, kc_52, kc_56, kc_57, kc_59, kc_60, kc_61, kc_63, kc_64, kc_72, kc_78, kc_97, kc_99, kc_122, kc_126, kc_128, kc_192, kc_200, kc_255, kc_999, kc_1000, kc_9999, kn_9999, kc_10000, kc_12345, kc_65536, kc_252645135, kc_858993459, kc_1103515245, kc_1431655765, kc_2147483647, kc_0, kc_24, kc_28, kc_37, kc_41, kc_42, kc_73, kc_91, kc_95, kc_96, kc_98, kc_100, kc_112, kc_125, kc_150, kc_162, kc_163, kc_168, kc_186, kc_190, kc_250, kc_355, kc_356, kc_404, kc_405, kc_429, kc_573, kc_1002, kc_1100, kc_1891, kc_2200, kc_4719, kc_4869, kc_4881, kc_5148, kc_19741, kc_25433, kc_320403, kc_628412, kc_629093, kc_660401, kc_679843, kc_918640, kc_979410, kc_1178088, kc_6232410, kc_24644941, kc_36238189, kc_38270444, kc_392531318, kc_425693491, kc_1342154595, kc_2147483648, kc_42328242873, kc_891704255789, kc_1722105685577, kc_1858726030364, ct_0, ct_1, ct_2, ct_3, ct_4, ct_5, cf_0, cf_1, cf_2, cf_3, cf_4, cf_5, w_ty6, w_ty7, m_sv, m_z0, m_hd, m_g0, m_gs, m_s0, m_ss, m_ap, m_an, forall_const, true_and, and_true, ne_eq, not_true_eq_false, not_false_eq_true, false_implies, true_implies, implies_true, eq_self, reduceCtorEq, Nat.reduceDiv, Nat.reduceMod, Int.reduceToNat, or_true, true_or, or_false, false_or, or_self, m_it, m_if, m_c1, m_01, m_02, m_03, m_04, m_10, m_12, m_13, m_14, m_20, m_21, m_23, m_24, m_30, m_31, m_32, m_34, m_40, m_41, m_42, m_43, Int.reduceLE, Int.reduceLT, Int.reduceGE, Int.reduceGT, Int.reduceNeg, Int.reduceAdd, Int.reduceSub, Int.reduceMul, Int.reduceEq, Int.reduceNe, Nat.reduceAdd, jun2, ro_0_0, ro_0_1, ro_0_2, ro_0_3, ro_0_4, ro_0_5, ro_0_6, ro_0_7, ro_0_8, ro_0_9, ro_0_10, ro_0_11, ro_0_12, ro_1_0, ro_1_1, ro_2_0, ro_4_0, ro_6_0, ro_6_1, ro_6_2, ro_6_3, ro_6_4, ro_6_5, ro_6_6, ro_6_7, ro_6_8, ro_8_0, ro_10_0, ro_12_0, ro_14_0, ro_16_0, ro_18_0, ro_20_0, ro_22_0, ro_22_1, ro_22_2, ro_23_0, ro_25_0, ro_27_0, ro_29_0, ro_29_1, ro_29_2, ro_29_3, ro_29_4, ro_29_5, ro_29_6, ro_29_7, ro_29_8, ro_31_0, ro_33_0, ro_35_0, ro_37_0, ro_39_0, ro_41_0, ro_43_0, ro_45_0, ro_45_1, ro_45_2, ro_46_0, ro_48_0, ro_50_0, ro_52_0, ro_52_1, ro_52_2, ro_52_3, ro_53_0, ro_55_0, ro_57_0, ro_59_0, ro_61_0, ro_61_1, ro_61_2, ro_61_3, ro_62_0, ro_64_0, ro_66_0, ro_68_0, ro_70_0, ro_70_1, ro_70_2, ro_70_3, ro_70_4, ro_70_5, ro_70_6, ro_70_7, ro_70_8, ro_70_9, ro_71_0, ro_73_0, ro_75_0, ro_77_0, ro_79_0, ro_81_0, ro_83_0, ro_85_0, ro_87_0, ro_89_0, ro_91_0, ro_91_1, ro_91_2, ro_91_3, ro_91_4, ro_91_5, ro_91_6, ro_91_7, ro_91_8, ro_91_9, ro_92_0, ro_94_0, ro_96_0, ro_98_0, ro_100_0, ro_102_0, ro_104_0, ro_106_0, ro_108_0, ro_110_0, ro_112_0, ro_112_1, ro_112_2, ro_112_3, ro_112_4, ro_112_5, ro_112_6, ro_112_7, ro_112_8, ro_112_9, ro_113_0, ro_115_0, ro_117_0, ro_119_0, ro_121_0, ro_123_0, ro_125_0, ro_127_0, ro_129_0, ro_131_0, ro_133_0, ro_133_1, ro_133_2, ro_133_3, ro_133_4, ro_133_5, ro_133_6, ro_133_7, ro_133_8, ro_133_9, ro_134_0, ro_136_0, ro_138_0, ro_140_0, ro_142_0, ro_144_0, ro_146_0, ro_148_0, ro_150_0, ro_152_0, ro_154_0, ro_155_0, ro_157_0, ro_157_1, ro_157_2, ro_157_3, ro_157_4, ro_157_5, ro_157_6, ro_157_7, ro_157_8, ro_157_9, ro_158_0, ro_160_0, ro_162_0, ro_164_0, ro_166_0, ro_168_0, ro_170_0, ro_172_0, ro_174_0, ro_176_0, ro_178_0, ro_180_0, ro_182_1, ro_182_4, ro_182_5, ro_182_6, ro_182_9, ro_182_10, ro_182_11, ro_182_13, ro_182_14, ro_182_15, ro_182_16, ro_182_17, ro_182_20, ro_182_21, ro_182_22, ro_182_23, ro_182_24, ro_182_26, ro_182_27, ro_182_28, lo_3, lo_5, lo_7, lo_9, lo_11, lo_13, lo_15, lo_17, lo_19, lo_21, lo_24, lo_26, lo_28, lo_30, lo_32, lo_34, lo_36, lo_38, lo_40, lo_42, lo_44, lo_47, lo_49, lo_51, lo_54, lo_56, lo_58, lo_60, lo_63, lo_65, lo_67, lo_69, lo_72, lo_74, lo_76, lo_78, lo_80, lo_82, lo_84, lo_86, lo_88, lo_90, lo_93, lo_95, lo_97, lo_99, lo_101, lo_103, lo_105, lo_107, lo_109, lo_111, lo_114, lo_116, lo_118, lo_120, lo_122, lo_124, lo_126, lo_128, lo_130, lo_132, lo_135, lo_137, lo_139, lo_141, lo_143, lo_145, lo_147, lo_149, lo_151, lo_153, lo_156, lo_159, lo_161, lo_163, lo_165, lo_167, lo_169, lo_171, lo_173, lo_175, lo_177, lo_179, lo_181, lo_183, lo_184, lo_185, lo_186, lo_187, lo_188, lo_189, lo_190, lo_191, lo_192, lo_193, lo_194, lo_195, lo_196, lo_197, lo_198, lo_199, lo_200, lo_201, lo_202, lo_203, jp_nn, jp_eq, jp_e1, Classical.not_not, ji0, ji1, ji2, cs19_72, kk_72, cs19_63, kk_63, cs19_77, kk_77, cs19_133, kk_133, cs19_96, kk_96, cs19_122, kk_122, cs19_123, kk_123, cs19_124, kk_124, cs19_125, kk_125, cs19_126, kk_126, cs19_128, kk_128, jl_0, jl_1, jl_2, jl_3, jl_4, jl_5, jl_6, jl_7, jl_8, jl_9, jl_10, jl_11, jl_12, jl_13, jl_14, jl_15, jl_16, jl_17, jl_18, jl_19, jl_20, jl_21, jl_22, jl_23, jl_24, jl_25, jl_26, jl_27, jl_28, jl_29, jl_30, jl_31, jl_32, jl_33, jl_34, jl_35, jl_36, jl_37, jl_38, jl_39, jl_40, jl_95, jl_96, jl_97, jl_98, jl_99, jl_100, jl_101, jl_102, jl_103, jl_104, jl_105, jl_106, jl_107, jl_108, jl_109, jl_110, jl_111, jl_112, jl_113, jl_114, jl_186, jl_1100, jr, ju, jpT, jpF, tnc, Nat.reduceEqDiff, reduceIte, and_false, false_and, not_true_eq_false, not_false_eq_true, or_false, gt_iff_lt, ge_iff_le, Int.lt_irrefl, Int.le_refl, yk, yk']
        exact fin_w
      · have yk' : (1000 : Int) ≤ k := by omega
        simp only [qe_1, qe_3, qe_4, qe_5, qe_7, qe_72, qe_10, qe_102, qe_13, qe_14, qe_15, qe_16, qe_17, qe_18, qe_20, qe_22, qe_23, qe_21, qe_24, qe_25, qe_26, qe_27, qe_28, qe_30, qe_31, qe_32, qc_20, qc_22, qc_23, qc_21, qc_24, qc_25, qc_26, qc_27, qc_1, qc_3, qc_4, qc_7, qc_13, qc_28, qc_32, qs_1, qs_2, qs_3, qs_4, qs_5, qs_6, qs_9, qs_10, qs_11, qs_14, qs_15, qs_16, qs_27, qs_17, qs_18, qs_19, qs_20, qs_22, qs_23, qs_28, qs_25, qs_26, qs_7, qs_8, kc_1, kn_1, kc_2, kn_2, kc_3, kn_3, kc_4, kn_4, kc_5, kn_5, kc_6, kn_6, kc_7, kn_7, kc_8, kn_8, kc_9, kn_9, kc_10, kn_10, kc_11, kn_11, kc_12, kn_12, kc_13, kn_13, kc_14, kn_14, kc_15, kn_15, kc_16, kc_17, kc_18, kc_19, kc_20, kc_21, kc_22, kc_23, kc_30, kc_32, kc_40, kc_43, kc_45, kc_48, kc_52, kc_56, kc_57, kc_59, kc_60, kc_61, kc_63, kc_64, kc_72, kc_78, kc_97, kc_99, kc_122, kc_126, kc_128, kc_192, kc_200, kc_255, kc_999, kc_1000, kc_9999, kn_9999, kc_10000, kc_12345, kc_65536, kc_252645135, kc_858993459, kc_1103515245, kc_1431655765, kc_2147483647, kc_0, kc_24, kc_28, kc_37, kc_41, kc_42, kc_73, kc_91, kc_95, kc_96, kc_98, kc_100, kc_112, kc_125, kc_150, kc_162, kc_163, kc_168, kc_186, kc_190, kc_250, kc_355, kc_356, kc_404, kc_405, kc_429, kc_573, kc_1002, kc_1100, kc_1891, kc_2200, kc_4719, kc_4869, kc_4881, kc_5148, kc_19741, kc_25433, kc_320403, kc_628412, kc_629093, kc_660401, kc_679843, kc_918640, kc_979410, kc_1178088, kc_6232410, kc_24644941, kc_36238189, kc_38270444, kc_392531318, kc_425693491, kc_1342154595, kc_2147483648, kc_42328242873, kc_891704255789, kc_1722105685577, kc_1858726030364, ct_0, ct_1, ct_2, ct_3, ct_4, ct_5, cf_0, cf_1, cf_2, cf_3, cf_4, cf_5, w_ty6, w_ty7, m_sv, m_z0, m_hd, m_g0, m_gs, m_s0, m_ss, m_ap, m_an, forall_const, true_and, and_true, ne_eq, not_true_eq_false, not_false_eq_true, false_implies, true_implies, implies_true, eq_self, reduceCtorEq, Nat.reduceDiv, Nat.reduceMod, Int.reduceToNat, or_true, true_or, or_false, false_or, or_self, m_it, m_if, m_c1, m_01, m_02, m_03, m_04, m_10, m_12, m_13, m_14, m_20, m_21, m_23, m_24, m_30, m_31, m_32, m_34, m_40, m_41, m_42, m_43, Int.reduceLE, Int.reduceLT, Int.reduceGE, Int.reduceGT, Int.reduceNeg, Int.reduceAdd, Int.reduceSub, Int.reduceMul, Int.reduceEq, Int.reduceNe, Nat.reduceAdd, jun2, ro_0_0, ro_0_1, ro_0_2, ro_0_3, ro_0_4, ro_0_5, ro_0_6, ro_0_7, ro_0_8, ro_0_9, ro_0_10, ro_0_11, ro_0_12, ro_1_0, ro_1_1, ro_2_0, ro_4_0, ro_6_0, ro_6_1, ro_6_2, ro_6_3, ro_6_4, ro_6_5, ro_6_6, ro_6_7, ro_6_8, ro_8_0, ro_10_0, ro_12_0, ro_14_0, ro_16_0, ro_18_0, ro_20_0, ro_22_0, ro_22_1, ro_22_2, ro_23_0, ro_25_0, ro_27_0, ro_29_0, ro_29_1, ro_29_2, ro_29_3, ro_29_4, ro_29_5, ro_29_6, ro_29_7, ro_29_8, ro_31_0, ro_33_0, ro_35_0, ro_37_0, ro_39_0, ro_41_0, ro_43_0, ro_45_0, ro_45_1, ro_45_2, ro_46_0, ro_48_0, ro_50_0, ro_52_0, ro_52_1, ro_52_2, ro_52_3, ro_53_0, ro_55_0, ro_57_0, ro_59_0, ro_61_0, ro_61_1, ro_61_2, ro_61_3, ro_62_0, ro_64_0, ro_66_0, ro_68_0, ro_70_0, ro_70_1, ro_70_2, ro_70_3, ro_70_4, ro_70_5, ro_70_6, ro_70_7, ro_70_8, ro_70_9, ro_71_0, ro_73_0, ro_75_0, ro_77_0, ro_79_0, ro_81_0, ro_83_0, ro_85_0, ro_87_0, ro_89_0, ro_91_0, ro_91_1, ro_91_2, ro_91_3, ro_91_4, ro_91_5, ro_91_6, ro_91_7, ro_91_8, ro_91_9, ro_92_0, ro_94_0, ro_96_0, ro_98_0, ro_100_0, ro_102_0, ro_104_0, ro_106_0, ro_108_0, ro_110_0, ro_112_0, ro_112_1, ro_112_2, ro_112_3, ro_112_4, ro_112_5, ro_112_6, ro_112_7, ro_112_8, ro_112_9, ro_113_0, ro_115_0, ro_117_0, ro_119_0, ro_121_0, ro_123_0, ro_125_0, ro_127_0, ro_129_0, ro_131_0, ro_133_0, ro_133_1, ro_133_2, ro_133_3, ro_133_4, ro_133_5, ro_133_6, ro_133_7, ro_133_8, ro_133_9, ro_134_0, ro_136_0, ro_138_0, ro_140_0, ro_142_0, ro_144_0, ro_146_0, ro_148_0, ro_150_0, ro_152_0, ro_154_0, ro_155_0, ro_157_0, ro_157_1, ro_157_2, ro_157_3, ro_157_4, ro_157_5, ro_157_6, ro_157_7, ro_157_8, ro_157_9, ro_158_0, ro_160_0, ro_162_0, ro_164_0, ro_166_0, ro_168_0, ro_170_0, ro_172_0, ro_174_0, ro_176_0, ro_178_0, ro_180_0, ro_182_1, ro_182_4, ro_182_5, ro_182_6, ro_182_9, ro_182_10, ro_182_11, ro_182_13, ro_182_14, ro_182_15, ro_182_16, ro_182_17, ro_182_20, ro_182_21, ro_182_22, ro_182_23, ro_182_24, ro_182_26, ro_182_27, ro_182_28, lo_3, lo_5, lo_7, lo_9, lo_11, lo_13, lo_15, lo_17, lo_19, lo_21, lo_24, lo_26, lo_28, lo_30, lo_32, lo_34, lo_36, lo_38, lo_40, lo_42, lo_44, lo_47, lo_49, lo_51, lo_54, lo_56, lo_58, lo_60, lo_63, lo_65, lo_67, lo_69, lo_72, lo_74, lo_76, lo_78, lo_80, lo_82, lo_84, lo_86, lo_88, lo_90, lo_93, lo_95, lo_97, lo_99, lo_101, lo_103, lo_105, lo_107, lo_109, lo_111, lo_114, lo_116, lo_118, lo_120, lo_122, lo_124, lo_126, lo_128, lo_130, lo_132, lo_135, lo_137, lo_139, lo_141, lo_143, lo_145, lo_147, lo_149, lo_151, lo_153, lo_156, lo_159, lo_161, lo_163, lo_165, lo_167, lo_169, lo_171, lo_173, lo_175, lo_177, lo_179, lo_181, lo_183, lo_184, lo_185, lo_186, lo_187, lo_188, lo_189, lo_190, lo_191, lo_192, lo_193, lo_194, lo_195, lo_196, lo_197, lo_198, lo_199, lo_200, lo_201, lo_202, lo_203, jp_nn, jp_eq, jp_e1, Classical.not_not, ji0, ji1, ji2, cs19_72, kk_72, cs19_63, kk_63, cs19_77, kk_77, cs19_133, kk_133, cs19_96, kk_96, cs19_122, kk_122, cs19_123, kk_123, cs19_124, kk_124, cs19_125, kk_125, cs19_126, kk_126, cs19_128, kk_128, jl_0, jl_1, jl_2, jl_3, jl_4, jl_5, jl_6, jl_7, jl_8, jl_9, jl_10, jl_11, jl_12, jl_13, jl_14, jl_15, jl_16, jl_17, jl_18, jl_19, jl_20, jl_21, jl_22, jl_23, jl_24, jl_25, jl_26, jl_27, jl_28, jl_29, jl_30, jl_31, jl_32, jl_33, jl_34, jl_35, jl_36, jl_37, jl_38, jl_39, jl_40, jl_95, jl_96, jl_97, jl_98, jl_99, jl_100, jl_101, jl_102, jl_103, jl_104, jl_105, jl_106, jl_107, jl_108, jl_109, jl_110, jl_111, jl_112, jl_113, jl_114, jl_186, jl_1100, jr, ju, jpT, jpF, tnc, Nat.reduceEqDiff, reduceIte, and_false, false_and, not_true_eq_false, not_false_eq_true, or_false, gt_iff_lt, ge_iff_le, Int.lt_irrefl, Int.le_refl, yk, yk']
        exact fin_w
  · exact hQ.elim
theorem snd_19 {xs : Nat → Int} {L K : Nat} : ∀ n, SndC CS19 (evF xs L g_ck K g_cW g_M n) := snd_all snd_18 (fun f av h Q hQ => by
  unfold CS19 at hQ
  split at hQ
  · exact Or.inr m_119
  · exact Or.inl hQ)
end
section
/-! ===== methods of which nothing_w is_w asked_w but that nothing_w is_w made_w ===== -/
def tpE (F : Nat → Bool) : SX → Bool
  | .op (.var t) (.op a (.op b c)) => match t with
    | 1 => true
    | 3 => true
    | 4 => tpE F a
    | 5 => tpE F a
    | 7 => tpE F a && tpE F b && decide (sx_n c ≠ 1)
    | 10 => tpE F a && decide (sx_n c ≠ 1)
    | 13 => tpE F a
    | 14 => tpE F a && tpE F b
    | 15 => tpE F a && tpE F b
    | 16 => tpE F a && tpE F b
    | 17 => tpE F a && tpE F b
    | 18 => tpE F a
    | 20 => tpE F a && tpE F b
    | 21 => tpE F a
    | 22 => tpE F a && tpE F b
    | 23 => tpE F a && tpE F b
    | 24 => tpE F a
    | 25 => tpE F a && tpE F b
    | 26 => tpE F a && tpE F b
    | 27 => tpE F a
    | 28 => tpE F a && tpE F b && tpE F c
    | 30 => tpE F a && tpE F b
    | 31 => true
    | 32 => tpE F a && F (sx_n b)
    | _ => false
  | _ => false
def tpS (F : Nat → Bool) : SX → Bool
  | .op (.var t) (.op a (.op b c)) => match t with
    | 1 => true
    | 2 => tpS F a && tpS F b
    | 3 => tpE F b
    | 4 => true
    | 5 => tpE F a && tpE F b
    | 6 => tpE F a && tpE F b
    | 7 => tpE F a && tpE F b && (match c with
      | .op (.var _) v => tpE F v
      | _ => false)
    | 8 => tpE F a && tpE F b && (match c with
      | .op (.var _) v => tpE F v
      | _ => false)
    | 9 => tpE F a
    | 10 => tpE F a && tpS F b
    | 11 => tpE F a && tpS F b && tpS F c
    | 12 => tpE F a && tpS F b && tpS F c
    | 13 => tpE F a && tpS F b
    | 14 => true
    | 15 => true
    | 16 => tpE F a
    | 27 => tpE F a
    | 17 => true
    | 18 => true
    | 19 => tpE F a && tpS F b
    | 20 => tpS F a
    | 22 => true
    | 23 => tpE F a && tpE F b
    | 28 => tpE F a && tpS F b
    | 25 => tpS F b && tpS F c
    | 26 => tpS F a
    | _ => false
  | _ => false
section TOP
variable {C : CSt} {F : Nat → Bool}
def TpC (C : CSt) (F : Nat → Bool) : Prop := ∀ f, F f = true → ∀ (av : List Int) (h : XH) (Q : Nat → List Int → XH → Prop), (∀ k r h', Q k r h') → C f av h Q
theorem bnd {a b : Bool} (h : (a && b) = true) : a = true ∧ b = true := by
  rw [Bool.and_eq_true] at h
  exact h
theorem tpE_ok (hC : TpC C F) : ∀ t : SX, tpE F t = true → (∀ en h (Q : PQQ), (∀ x h', Q x h') → (pP C t).1 en h Q) ∧ (∀ en h (Qt Qf : XH → Prop), (∀ h', Qt h') → (∀ h', Qf h') → (pP C t).2 en h Qt Qf)
  | .op (.var t) (.op a (.op b c)), e => by
    have ia := tpE_ok hC a
    have ib := tpE_ok hC b
    have ic := tpE_ok hC c
    have hE : ∀ en h (Q : PQQ), (∀ x h', Q x h') → pNE C t a b c (pP C a) (pP C b) (pP C c) en h Q := by
      intro en h Q hQ
      unfold tpE at e
      unfold pNE
      split at e
      · exact hQ _ _
      · exact hQ _ _
      · exact (ia e).1 _ _ _ fun x h1 => hQ _ _
      · exact (ia e).1 _ _ _ fun x h1 => hQ _ _
      · obtain ⟨e1_w, e2_w⟩ := bnd e
        obtain ⟨e1_w, e3_w⟩ := bnd e1_w
        refine (ia e1_w).1 _ _ _ fun x h1 => (ib e3_w).1 _ _ _ fun y h2 => ?_
        have e2' := of_decide_eq_true e2_w
        show p_ld _ _ _ _ _
        unfold p_ld
        split
        · exact fun _ => hQ _ _
        · rename_i z; exact absurd z e2'
        · exact fun _ => hQ _ _
      · obtain ⟨e1_w, e2_w⟩ := bnd e
        refine (ia e1_w).1 _ _ _ fun x h1 => ?_
        have e2' := of_decide_eq_true e2_w
        show p_ln _ _ _ _
        unfold p_ln
        split
        · exact hQ _ _
        · rename_i z; exact absurd z e2'
        · exact hQ _ _
      · exact (ia e).1 _ _ _ fun x h1 => hQ _ _
      · obtain ⟨e1_w, e2_w⟩ := bnd e
        exact (ia e1_w).1 _ _ _ fun x h1 => (ib e2_w).1 _ _ _ fun y h2 => hQ _ _
      · obtain ⟨e1_w, e2_w⟩ := bnd e
        exact (ia e1_w).1 _ _ _ fun x h1 => (ib e2_w).1 _ _ _ fun y h2 => hQ _ _
      · obtain ⟨e1_w, e2_w⟩ := bnd e
        exact (ia e1_w).1 _ _ _ fun x h1 => (ib e2_w).1 _ _ _ fun y h2 => hQ _ _
      · obtain ⟨e1_w, e2_w⟩ := bnd e
        exact (ia e1_w).1 _ _ _ fun x h1 => (ib e2_w).1 _ _ _ fun y h2 _ => hQ _ _
      · exact (ia e).1 _ _ _ fun x h1 => hQ _ _
      · obtain ⟨e1_w, e2_w⟩ := bnd e
        exact (ia e1_w).1 _ _ _ fun x h1 => (ib e2_w).1 _ _ _ fun y h2 => ⟨fun _ => hQ _ _, fun _ => hQ _ _⟩
      · exact (ia e).1 _ _ _ fun x h1 => ⟨fun _ => hQ _ _, fun _ => hQ _ _⟩
      · obtain ⟨e1_w, e2_w⟩ := bnd e
        exact (ia e1_w).1 _ _ _ fun x h1 => (ib e2_w).1 _ _ _ fun y h2 => ⟨fun _ => hQ _ _, fun _ => hQ _ _⟩
      · obtain ⟨e1_w, e2_w⟩ := bnd e
        exact (ia e1_w).1 _ _ _ fun x h1 => (ib e2_w).1 _ _ _ fun y h2 => ⟨fun _ => hQ _ _, fun _ => hQ _ _⟩
      · exact (ia e).1 _ _ _ hQ
      · obtain ⟨e1_w, e2_w⟩ := bnd e
        exact (ia e1_w).2 _ _ _ _ (fun h1 => (ib e2_w).2 _ _ _ _ (fun _ => hQ _ _) (fun _ => hQ _ _)) (fun _ => hQ _ _)
      · obtain ⟨e1_w, e2_w⟩ := bnd e
        exact (ia e1_w).2 _ _ _ _ (fun _ => hQ _ _) (fun h1 => (ib e2_w).2 _ _ _ _ (fun _ => hQ _ _) (fun _ => hQ _ _))
      · exact (ia e).2 _ _ _ _ (fun _ => hQ _ _) (fun _ => hQ _ _)
      · obtain ⟨e1_w, e2_w⟩ := bnd e
        obtain ⟨e1_w, e3_w⟩ := bnd e1_w
        exact (ia e1_w).2 _ _ _ _ (fun h1 => (ib e3_w).1 _ _ _ hQ) (fun h1 => (ic e2_w).1 _ _ _ hQ)
      · obtain ⟨e1_w, e2_w⟩ := bnd e
        exact (ia e1_w).1 _ _ _ fun x h1 => (ib e2_w).1 _ _ _ fun y h2 => hQ _ _
      · exact hQ _ _
      · obtain ⟨e1_w, e2_w⟩ := bnd e
        exact (ia e1_w).1 _ _ _ fun x h1 => hC _ e2_w _ _ _ fun k r h2 _ => hQ _ _
      · cases e
    refine ⟨hE, ?_⟩
    intro en h Qt Qf ht hf
    show pNC C t a b c (pP C a) (pP C b) (pP C c) en h Qt Qf
    have hz : p_nz (pNE C t a b c (pP C a) (pP C b) (pP C c)) en h Qt Qf := hE en h _ fun x h1 => ⟨fun _ => ht _, fun _ => hf _⟩
    unfold tpE at e
    unfold pNC
    split at e
    any_goals exact hz
    · obtain ⟨e1_w, e2_w⟩ := bnd e
      exact (ia e1_w).1 _ _ _ fun x h1 => (ib e2_w).1 _ _ _ fun y h2 => ⟨fun _ => ht _, fun _ => hf _⟩
    · exact (ia e).1 _ _ _ fun x h1 => ⟨fun _ => ht _, fun _ => hf _⟩
    · obtain ⟨e1_w, e2_w⟩ := bnd e
      exact (ia e1_w).1 _ _ _ fun x h1 => (ib e2_w).1 _ _ _ fun y h2 => ⟨fun _ => ht _, fun _ => hf _⟩
    · obtain ⟨e1_w, e2_w⟩ := bnd e
      exact (ia e1_w).1 _ _ _ fun x h1 => (ib e2_w).1 _ _ _ fun y h2 => ⟨fun _ => ht _, fun _ => hf _⟩
    · exact (ia e).2 _ _ _ _ ht hf
    · obtain ⟨e1_w, e2_w⟩ := bnd e
      exact (ia e1_w).2 _ _ _ _ (fun h1 => (ib e2_w).2 _ _ _ _ ht hf) hf
    · obtain ⟨e1_w, e2_w⟩ := bnd e
      exact (ia e1_w).2 _ _ _ _ ht (fun h1 => (ib e2_w).2 _ _ _ _ ht hf)
    · exact (ia e).2 _ _ _ _ hf ht
    · cases e
  | .var _, e => by cases e
  | .op (.op _ _) _, e => by cases e
  | .op (.var _) (.var _), e => by cases e
  | .op (.var _) (.op _ (.var _)), e => by cases e
theorem tpS_ok (hC : TpC C F) : ∀ t : SX, tpS F t = true → ∀ en h (R : PRR), (∀ c vs en' h', R c vs en' h') → pS C t en h R
  | .op (.var t) (.op a (.op b c)), e => by
    have ia := tpS_ok hC a
    have ib := tpS_ok hC b
    have ic := tpS_ok hC c
    have xe := fun t z => (tpE_ok hC t z).1
    have xc := fun t z => (tpE_ok hC t z).2
    intro en h R hR
    show pNS C t a b c (pS C a) (pS C b) (pS C c) en h R
    unfold tpS at e
    unfold pNS
    split at e
    · exact hR _ _ _ _
    · obtain ⟨e1_w, e2_w⟩ := bnd e
      exact ia e1_w _ _ _ fun c vs en1 h1 => ⟨fun _ => ib e2_w _ _ _ hR, fun _ => hR _ _ _ _⟩
    · exact xe _ e _ _ _ fun x h1 => hR _ _ _ _
    · exact hR _ _ _ _
    · obtain ⟨e1_w, e2_w⟩ := bnd e
      exact xe _ e1_w _ _ _ fun x h1 => xe _ e2_w _ _ _ fun y h2 => hR _ _ _ _
    · obtain ⟨e1_w, e2_w⟩ := bnd e
      exact xe _ e1_w _ _ _ fun x h1 => xe _ e2_w _ _ _ fun y h2 => hR _ _ _ _
    · obtain ⟨e1_w, e2_w⟩ := bnd e
      obtain ⟨e1_w, e3_w⟩ := bnd e1_w
      split at e2_w
      · exact xe _ e1_w _ _ _ fun x h1 => xe _ e3_w _ _ _ fun y h2 => xe _ e2_w _ _ _ fun z h3 _ => hR _ _ _ _
      · cases e2_w
    · obtain ⟨e1_w, e2_w⟩ := bnd e
      obtain ⟨e1_w, e3_w⟩ := bnd e1_w
      split at e2_w
      · exact xe _ e1_w _ _ _ fun x h1 => xe _ e3_w _ _ _ fun y h2 => xe _ e2_w _ _ _ fun z h3 _ => hR _ _ _ _
      · cases e2_w
    · exact xe _ e _ _ _ fun x h1 => hR _ _ _ _
    · obtain ⟨e1_w, e2_w⟩ := bnd e
      exact xc _ e1_w _ _ _ _ (fun h1 => ib e2_w _ _ _ hR) (fun h1 => hR _ _ _ _)
    · obtain ⟨e1_w, e2_w⟩ := bnd e
      obtain ⟨e1_w, e3_w⟩ := bnd e1_w
      exact xc _ e1_w _ _ _ _ (fun h1 => ib e3_w _ _ _ hR) (fun h1 => ic e2_w _ _ _ hR)
    · obtain ⟨e1_w, e2_w⟩ := bnd e
      obtain ⟨e1_w, e3_w⟩ := bnd e1_w
      exact ⟨fun _ _ => True, trivial, fun en h _ => xc _ e1_w _ _ _ _ (fun h1 => ib e3_w _ _ _ fun c vs en1 h2 => ⟨fun _ => ic e2_w _ _ _ fun _ _ _ _ _ => trivial, fun _ => hR _ _ _ _, fun _ _ _ => hR _ _ _ _⟩) (fun h1 => hR _ _ _ _)⟩
    · obtain ⟨e1_w, e2_w⟩ := bnd e
      exact ⟨fun _ _ => True, trivial, fun en h _ => ib e2_w _ _ _ fun c vs en1 h2 => ⟨fun _ => xc _ e1_w _ _ _ _ (fun _ => trivial) (fun _ => hR _ _ _ _), fun _ => hR _ _ _ _, fun _ _ _ => hR _ _ _ _⟩⟩
    · exact hR _ _ _ _
    · exact hR _ _ _ _
    · exact xe _ e _ _ _ fun x h1 => hR _ _ _ _
    · exact xe _ e _ _ _ fun x h1 _ => hR _ _ _ _
    · exact hR _ _ _ _
    · exact hR _ _ _ _
    · obtain ⟨e1_w, e2_w⟩ := bnd e
      exact xe _ e1_w _ _ _ fun x h1 => ib e2_w _ _ _ fun c vs en1 h2 => ⟨fun _ => hR _ _ _ _, fun _ => hR _ _ _ _⟩
    · exact ia e _ _ _ hR
    · exact hR _ _ _ _
    · obtain ⟨e1_w, e2_w⟩ := bnd e
      exact xe _ e1_w _ _ _ fun x h1 => xe _ e2_w _ _ _ fun y h2 _ => hR _ _ _ _
    · obtain ⟨e1_w, e2_w⟩ := bnd e
      exact xc _ e1_w _ _ _ _ (fun h1 => ib e2_w _ _ _ hR) (fun h1 => hR _ _ _ _)
    · obtain ⟨e1_w, e2_w⟩ := bnd e
      exact ⟨fun _ => ib e1_w _ _ _ fun c vs en1 h1 _ => hR _ _ _ _, fun _ => ic e2_w _ _ _ hR⟩
    · exact ia e _ _ _ hR
    · cases e
  | .var _, e => by cases e
  | .op (.op _ _) _, e => by cases e
  | .op (.var _) (.var _), e => by cases e
  | .op (.var _) (.op _ (.var _)), e => by cases e
end TOP
/-- the methods that begin anew_w, or_w copy_w a plan -/
def tpL : List Nat := [3, 54, 55, 57, 58, 80, 97, 142, 156]
def CTop : CSt := fun f _ _ Q => tpL.contains f = true ∧ ∀ k r h', Q k r h'
theorem tpL_ok : (tpL.all fun f => tpS (fun g => tpL.contains g) (g_M f).2.2.2.2) = true := by decide +kernel
theorem snd_top {xs : Nat → Int} {L K : Nat} : ∀ n, SndC CTop (evF xs L g_ck K g_cW g_M n) := snd_all snd_none (fun f av h Q hQ => Or.inr (fun av h Q hQ => tpS_ok (F := fun g => tpL.contains g) (fun g e av h Q hq => ⟨e, hq⟩) _ (List.all_eq_true.mp tpL_ok f (by
  have := hQ.1
  rw [List.contains_iff_mem] at this
  exact this)) _ _ _ (fun c vs en' h' _ => hQ.2 _ _ _)))
end
section
/-! ===== contracts: the class's grid ===== -/
def kTop : KT := fun _ _ Q => ∀ k r h', Q k r h'
def k97 : KT := kTop
def k3 : KT := kTop
def k61 : KT := fun av h Q => match av with
  | [o] => Q 1 [] (j_up h o.toNat 1 0)
  | _ => False
def k2 : KT := fun av h Q => match av with
  | [o] => o = 0 ∧ ∃ (T : TA), T.2.1 ≤ 1000 ∧ BYT T.1 h ∧ TOK (h 3) T.1 T.2.1 (tS T) (tP T) (tV T) ∧ TGd T ∧ ∀ h', Q 1 [resG (tS T) (tP T) (tV T) wl] h'
  | _ => False
section KKE1
variable {h h1 h2 h' : XH} {Q : Nat → List Int → XH → Prop} {o p : Int} {av : List Int}
theorem kk_97 : k97 av h Q = ∀ k r h', Q k r h' := id rfl
theorem kk_3 : k3 av h Q = ∀ k r h', Q k r h' := id rfl
theorem kk_61 : k61 [o] h Q = Q 1 [] (j_up h o.toNat 1 0) := id rfl
theorem kk_2 : k2 [0] h Q = ∃ (T : TA), T.2.1 ≤ 1000 ∧ BYT T.1 h ∧ TOK (h 3) T.1 T.2.1 (tS T) (tP T) (tV T) ∧ TGd T ∧ ∀ h', Q 1 [resG (tS T) (tP T) (tV T) wl] h' := propext ⟨fun a => a.2, fun a => ⟨rfl, a⟩⟩
end KKE1
def CS20 : CSt := fun f => match f with
  | 97 => k97
  | 3 => k3
  | _ => CS19 f
theorem snd_20 {xs : Nat → Int} {L K : Nat} : ∀ n, SndC CS20 (evF xs L g_ck K g_cW g_M n) := fun n cd f av h Q hQ k r g' h' e => by
  unfold CS20 at hQ
  split at hQ
  · exact snd_top n cd _ av h Q ⟨by decide, hQ⟩ k r g' h' e
  · exact snd_top n cd _ av h Q ⟨by decide, hQ⟩ k r g' h' e
  · exact snd_19 n cd _ av h Q hQ k r g' h' e
def CS21 : CSt := fun f => match f with
  | 61 => k61
  | 2 => k2
  | _ => CS20 f
theorem cs21_119 {av : List Int} {h : XH} {Q : Nat → List Int → XH → Prop} : CS21 119 av h Q = k119 av h Q := id rfl
theorem cs21_97 {av : List Int} {h : XH} {Q : Nat → List Int → XH → Prop} : CS21 97 av h Q = k97 av h Q := id rfl
theorem cs21_3 {av : List Int} {h : XH} {Q : Nat → List Int → XH → Prop} : CS21 3 av h Q = k3 av h Q := id rfl
theorem cs21_61 {av : List Int} {h : XH} {Q : Nat → List Int → XH → Prop} : CS21 61 av h Q = k61 av h Q := id rfl
theorem cs21_2 {av : List Int} {h : XH} {Q : Nat → List Int → XH → Prop} : CS21 2 av h Q = k2 av h Q := id rfl
theorem m_61 : BodyOK CS21 CS21 61 := fun av h Q hQ => by
  rw [cs21_61] at hQ
  unfold k61 at hQ
  split at hQ
  · rename_i o
    show pS CS21 bb_61 [o] h _
    unfold bb_61
    simp only [qe_1, qe_3, qe_4, qe_5, qe_7, qe_72, qe_10, qe_102, qe_13, qe_14, qe_15, qe_16, qe_17, qe_18, qe_20, qe_22, qe_23, qe_21, qe_24, qe_25, qe_26, qe_27, qe_28, qe_30, qe_31, qe_32, qc_20, qc_22, qc_23, qc_21, qc_24, qc_25, qc_26, qc_27, qc_1, qc_3, qc_4, qc_7, qc_13, qc_28, qc_32, qs_1, qs_2, qs_3, qs_4, qs_5, qs_6, qs_9, qs_10, qs_11, qs_14, qs_15, qs_16, qs_27, qs_17, qs_18, qs_19, qs_20, qs_22, qs_23, qs_28, qs_25, qs_26, qs_7, qs_8, kc_1, kn_1, kc_2, kn_2, kc_3, kn_3, kc_4, kn_4, kc_5, kn_5, kc_6, kn_6, kc_7, kn_7, kc_8, kn_8, kc_9, kn_9, kc_10, kn_10, kc_11, kn_11, kc_12, kn_12, kc_13, kn_13, kc_14, kn_14, kc_15, kn_15, kc_16, kc_17, kc_18, kc_19, kc_20, kc_21, kc_22, kc_23, kc_30, kc_32, kc_40, kc_43, kc_45, kc_48, kc_52, kc_56, kc_57, kc_59, kc_60, kc_61, kc_63, kc_64, kc_72, kc_78, kc_97, kc_99, kc_122, kc_126, kc_128, kc_192, kc_200, kc_255, kc_999, kc_1000, kc_9999, kn_9999, kc_10000, kc_12345, kc_65536, kc_252645135, kc_858993459, kc_1103515245, kc_1431655765, kc_2147483647, kc_0, kc_24, kc_28, kc_37, kc_41, kc_42, kc_73, kc_91, kc_95, kc_96, kc_98, kc_100, kc_112, kc_125, kc_150, kc_162, kc_163, kc_168, kc_186, kc_190, kc_250, kc_355, kc_356, kc_404, kc_405, kc_429, kc_573, kc_1002, kc_1100, kc_1891, kc_2200, kc_4719, kc_4869, kc_4881, kc_5148, kc_19741, kc_25433, kc_320403, kc_628412, kc_629093, kc_660401, kc_679843, kc_918640, kc_979410, kc_1178088, kc_6232410, kc_24644941, kc_36238189, kc_38270444, kc_392531318, kc_425693491, kc_1342154595, kc_2147483648, kc_42328242873, kc_891704255789, kc_1722105685577, kc_1858726030364, ct_0, ct_1, ct_2, ct_3, ct_4, ct_5, cf_0, cf_1, cf_2, cf_3, cf_4, cf_5, w_ty6, w_ty7, m_sv, m_z0, m_hd, m_g0, m_gs, m_s0, m_ss, m_ap, m_an, forall_const, true_and, and_true, ne_eq, not_true_eq_false, not_false_eq_true, false_implies, true_implies, implies_true, eq_self, reduceCtorEq, Nat.reduceDiv, Nat.reduceMod, Int.reduceToNat, or_true, true_or, or_false, false_or, or_self, m_it, m_if, m_c1, m_01, m_02, m_03, m_04, m_10, m_12, m_13, m_14, m_20, m_21, m_23, m_24, m_30, m_31, m_32, m_34, m_40, m_41, m_42, m_43, Int.reduceLE, Int.reduceLT, Int.reduceGE, Int.reduceGT, Int.reduceNeg, Int.reduceAdd, Int.reduceSub, Int.reduceMul, Int.reduceEq, Int.reduceNe, Nat.reduceAdd, jun2, ro_0_0, ro_0_1, ro_0_2, ro_0_3, ro_0_4, ro_0_5, ro_0_6, ro_0_7, ro_0_8, ro_0_9, ro_0_10, ro_0_11, ro_0_12, ro_1_0, ro_1_1, ro_2_0, ro_4_0, ro_6_0, ro_6_1, ro_6_2, ro_6_3, ro_6_4, ro_6_5, ro_6_6, ro_6_7, ro_6_8, ro_8_0, ro_10_0, ro_12_0, ro_14_0, ro_16_0, ro_18_0, ro_20_0, ro_22_0, ro_22_1, ro_22_2, ro_23_0, ro_25_0, ro_27_0, ro_29_0, ro_29_1, ro_29_2, ro_29_3, ro_29_4, ro_29_5, ro_29_6, ro_29_7, ro_29_8, ro_31_0, ro_33_0, ro_35_0, ro_37_0, ro_39_0, ro_41_0, ro_43_0, ro_45_0, ro_45_1, ro_45_2, ro_46_0, ro_48_0, ro_50_0, ro_52_0, ro_52_1, ro_52_2, ro_52_3, ro_53_0, ro_55_0, ro_57_0, ro_59_0, ro_61_0, ro_61_1, ro_61_2, ro_61_3, ro_62_0, ro_64_0, ro_66_0, ro_68_0, ro_70_0, ro_70_1, ro_70_2, ro_70_3, ro_70_4, ro_70_5, ro_70_6, ro_70_7, ro_70_8, ro_70_9, ro_71_0, ro_73_0, ro_75_0, ro_77_0, ro_79_0, ro_81_0, ro_83_0, ro_85_0, ro_87_0, ro_89_0, ro_91_0, ro_91_1, ro_91_2, ro_91_3, ro_91_4, ro_91_5, ro_91_6, ro_91_7, ro_91_8, ro_91_9, ro_92_0, ro_94_0, ro_96_0, ro_98_0, ro_100_0, ro_102_0, ro_104_0, ro_106_0, ro_108_0, ro_110_0, ro_112_0, ro_112_1, ro_112_2, ro_112_3, ro_112_4, ro_112_5, ro_112_6, ro_112_7, ro_112_8, ro_112_9, ro_113_0, ro_115_0, ro_117_0, ro_119_0, ro_121_0, ro_123_0, ro_125_0, ro_127_0, ro_129_0, ro_131_0, ro_133_0, ro_133_1, ro_133_2, ro_133_3, ro_133_4, ro_133_5, ro_133_6, ro_133_7, ro_133_8, ro_133_9, ro_134_0, ro_136_0, ro_138_0, ro_140_0, ro_142_0, ro_144_0, ro_146_0, ro_148_0, ro_150_0, ro_152_0, ro_154_0, ro_155_0, ro_157_0, ro_157_1, ro_157_2, ro_157_3, ro_157_4, ro_157_5, ro_157_6, ro_157_7, ro_157_8, ro_157_9, ro_158_0, ro_160_0, ro_162_0, ro_164_0, ro_166_0, ro_168_0, ro_170_0, ro_172_0, ro_174_0, ro_176_0, ro_178_0, ro_180_0, ro_182_1, ro_182_4, ro_182_5, ro_182_6, ro_182_9, ro_182_10, ro_182_11, ro_182_13, ro_182_14, ro_182_15, ro_182_16, ro_182_17, ro_182_20, ro_182_21, ro_182_22, ro_182_23, ro_182_24, ro_182_26, ro_182_27, ro_182_28, lo_3, lo_5, lo_7, lo_9, lo_11, lo_13, lo_15, lo_17, lo_19, lo_21, lo_24, lo_26, lo_28, lo_30, lo_32, lo_34, lo_36, lo_38, lo_40, lo_42, lo_44, lo_47, lo_49, lo_51, lo_54, lo_56, lo_58, lo_60, lo_63, lo_65, lo_67, lo_69, lo_72, lo_74, lo_76, lo_78, lo_80, lo_82, lo_84, lo_86, lo_88, lo_90, lo_93, lo_95, lo_97, lo_99, lo_101, lo_103, lo_105, lo_107, lo_109, lo_111, lo_114, lo_116, lo_118, lo_120, lo_122, lo_124, lo_126, lo_128, lo_130, lo_132, lo_135, lo_137, lo_139, lo_141, lo_143, lo_145, lo_147, lo_149, lo_151, lo_153, lo_156, lo_159, lo_161, lo_163, lo_165, lo_167, lo_169, lo_171, lo_173, lo_175, lo_177, lo_179, lo_181, lo_183, lo_184, lo_185, lo_186, lo_187, lo_188, lo_189, lo_190, lo_191, lo_192, lo_193, lo_194, lo_195, lo_196, lo_197, lo_198, lo_199, lo_200, lo_201, lo_202, lo_203, jp_nn, jp_eq, jp_e1, Classical.not_not, ji0, ji1, ji2, jl_0, jl_1, jl_2, jl_3, jl_4, jl_5, jl_6, jl_7, jl_8, jl_9, jl_10, jl_11, jl_12, jl_13, jl_14, jl_15, jl_16, jl_17, jl_18, jl_19, jl_20, jl_21, jl_22, jl_23, jl_24, jl_25, jl_26, jl_27, jl_28, jl_29, jl_30, jl_31, jl_32, jl_33, jl_34, jl_35, jl_36, jl_37, jl_38, jl_39, jl_40, jl_95, jl_96, jl_97, jl_98, jl_99, jl_100, jl_101, jl_102, jl_103, jl_104, jl_105, jl_106, jl_107, jl_108, jl_109, jl_110, jl_111, jl_112, jl_113, jl_114, jl_186, jl_1100, jr, ju, jpT, jpF, tnc, Nat.reduceEqDiff, reduceIte, and_false, false_and, not_true_eq_false, not_false_eq_true, or_false, gt_iff_lt, ge_iff_le, Int.lt_irrefl, Int.le_refl]
    exact hQ
  · exact hQ.elim
theorem m_2 : BodyOK CS21 CS21 2 := fun av h Q hQ => by
  rw [cs21_2] at hQ
  unfold k2 at hQ
  split at hQ
  · rename_i o
    obtain ⟨rfl, T, tN_w, byt, tok, tg, hQ⟩ := hQ
    show pS CS21 bb_2 [0, 0] h _
    unfold bb_2
    simp only [qe_1, qe_3, qe_4, qe_5, qe_7, qe_72, qe_10, qe_102, qe_13, qe_14, qe_15, qe_16, qe_17, qe_18, qe_20, qe_22, qe_23, qe_21, qe_24, qe_25, qe_26, qe_27, qe_28, qe_30, qe_31, qe_32, qc_20, qc_22, qc_23, qc_21, qc_24, qc_25, qc_26, qc_27, qc_1, qc_3, qc_4, qc_7, qc_13, qc_28, qc_32, qs_1, qs_2, qs_3, qs_4, qs_5, qs_6, qs_9, qs_10, qs_11, qs_14, qs_15, qs_16, qs_27, qs_17, qs_18, qs_19, qs_20, qs_22, qs_23, qs_28, qs_25, qs_26, qs_7, qs_8, kc_1, kn_1, kc_2, kn_2, kc_3, kn_3, kc_4, kn_4, kc_5, kn_5, kc_6, kn_6, kc_7, kn_7, kc_8, kn_8, kc_9, kn_9, kc_10, kn_10, kc_11, kn_11, kc_12, kn_12, kc_13, kn_13, kc_14, kn_14, kc_15, kn_15, kc_16, kc_17, kc_18, kc_19, kc_20, kc_21, kc_22, kc_23, kc_30, kc_32, kc_40, kc_43, kc_45, kc_48, kc_52, kc_56, kc_57, kc_59, kc_60, kc_61, kc_63, kc_64, kc_72, kc_78, kc_97, kc_99, kc_122, kc_126, kc_128, kc_192, kc_200, kc_255, kc_999, kc_1000, kc_9999, kn_9999, kc_10000, kc_12345, kc_65536, kc_252645135, kc_858993459, kc_1103515245, kc_1431655765, kc_2147483647, kc_0, kc_24, kc_28, kc_37, kc_41, kc_42, kc_73, kc_91, kc_95, kc_96, kc_98, kc_100, kc_112, kc_125, kc_150, kc_162, kc_163, kc_168, kc_186, kc_190, kc_250, kc_355, kc_356, kc_404, kc_405, kc_429, kc_573, kc_1002, kc_1100, kc_1891, kc_2200, kc_4719, kc_4869, kc_4881, kc_5148, kc_19741, kc_25433, kc_320403, kc_628412, kc_629093, kc_660401, kc_679843, kc_918640, kc_979410, kc_1178088, kc_6232410, kc_24644941, kc_36238189, kc_38270444, kc_392531318, kc_425693491, kc_1342154595, kc_2147483648, kc_42328242873, kc_891704255789, kc_1722105685577, kc_1858726030364, ct_0, ct_1, ct_2, ct_3, ct_4, ct_5, cf_0, cf_1, cf_2, cf_3, cf_4, cf_5, w_ty6, w_ty7, m_sv, m_z0, m_hd, m_g0, m_gs, m_s0, m_ss, m_ap, m_an, forall_const, true_and, and_true, ne_eq, not_true_eq_false, not_false_eq_true, false_implies, true_implies, implies_true, eq_self, reduceCtorEq, Nat.reduceDiv, Nat.reduceMod, Int.reduceToNat, or_true, true_or, or_false, false_or, or_self, m_it, m_if, m_c1, m_01, m_02, m_03, m_04, m_10, m_12, m_13, m_14, m_20, m_21, m_23, m_24, m_30, m_31, m_32, m_34, m_40, m_41, m_42, m_43, Int.reduceLE, Int.reduceLT, Int.reduceGE, Int.reduceGT, Int.reduceNeg, Int.reduceAdd, Int.reduceSub, Int.reduceMul, Int.reduceEq, Int.reduceNe, Nat.reduceAdd, jun2, ro_0_0, ro_0_1, ro_0_2, ro_0_3, ro_0_4, ro_0_5, ro_0_6, ro_0_7, ro_0_8, ro_0_9, ro_0_10, ro_0_11, ro_0_12, ro_1_0, ro_1_1, ro_2_0, ro_4_0, ro_6_0, ro_6_1, ro_6_2, ro_6_3, ro_6_4, ro_6_5, ro_6_6, ro_6_7, ro_6_8, ro_8_0, ro_10_0, ro_12_0, ro_14_0, ro_16_0, ro_18_0, ro_20_0, ro_22_0, ro_22_1, ro_22_2, ro_23_0, ro_25_0, ro_27_0, ro_29_0, ro_29_1, ro_29_2, ro_29_3, ro_29_4, ro_29_5, ro_29_6, ro_29_7, ro_29_8, ro_31_0, ro_33_0, ro_35_0, ro_37_0, ro_39_0, ro_41_0, ro_43_0, ro_45_0, ro_45_1, ro_45_2, ro_46_0, ro_48_0, ro_50_0, ro_52_0, ro_52_1, ro_52_2, ro_52_3, ro_53_0, ro_55_0, ro_57_0, ro_59_0, ro_61_0, ro_61_1, ro_61_2, ro_61_3, ro_62_0, ro_64_0, ro_66_0, ro_68_0, ro_70_0, ro_70_1, ro_70_2, ro_70_3, ro_70_4, ro_70_5, ro_70_6, ro_70_7, ro_70_8, ro_70_9, ro_71_0, ro_73_0, ro_75_0, ro_77_0, ro_79_0, ro_81_0, ro_83_0, ro_85_0, ro_87_0, ro_89_0, ro_91_0, ro_91_1, ro_91_2, ro_91_3, ro_91_4, ro_91_5, ro_91_6, ro_91_7, ro_91_8, ro_91_9, ro_92_0, ro_94_0, ro_96_0, ro_98_0, ro_100_0, ro_102_0, ro_104_0, ro_106_0, ro_108_0, ro_110_0, ro_112_0, ro_112_1, ro_112_2, ro_112_3, ro_112_4, ro_112_5, ro_112_6, ro_112_7, ro_112_8, ro_112_9, ro_113_0, ro_115_0, ro_117_0, ro_119_0, ro_121_0, ro_123_0, ro_125_0, ro_127_0, ro_129_0, ro_131_0, ro_133_0, ro_133_1, ro_133_2, ro_133_3, ro_133_4, ro_133_5, ro_133_6, ro_133_7, ro_133_8, ro_133_9, ro_134_0, ro_136_0, ro_138_0, ro_140_0, ro_142_0, ro_144_0, ro_146_0, ro_148_0, ro_150_0, ro_152_0, ro_154_0, ro_155_0, ro_157_0, ro_157_1, ro_157_2, ro_157_3, ro_157_4, ro_157_5, ro_157_6, ro_157_7, ro_157_8, ro_157_9, ro_158_0, ro_160_0, ro_162_0, ro_164_0, ro_166_0, ro_168_0, ro_170_0, ro_172_0, ro_174_0, ro_176_0, ro_178_0, ro_180_0, ro_182_1, ro_182_4, ro_182_5, ro_182_6, ro_182_9, ro_182_10, ro_182_11, ro_182_13, ro_182_14, ro_182_15, ro_182_16, ro_182_17, ro_182_20, ro_182_21, ro_182_22, ro_182_23, ro_182_24, ro_182_26, ro_182_27, ro_182_28, lo_3, lo_5, lo_7, lo_9, lo_11, lo_13, lo_15, lo_17, lo_19, lo_21, lo_24, lo_26, lo_28, lo_30, lo_32, lo_34, lo_36, lo_38, lo_40, lo_42, lo_44, lo_47, lo_49, lo_51, lo_54, lo_56, lo_58, lo_60, lo_63, lo_65, lo_67, lo_69, lo_72, lo_74, lo_76, lo_78, lo_80, lo_82, lo_84, lo_86, lo_88, lo_90, lo_93, lo_95, lo_97, lo_99, lo_101, lo_103, lo_105, lo_107, lo_109, lo_111, lo_114, lo_116, lo_118, lo_120, lo_122, lo_124, lo_126, lo_128, lo_130, lo_132, lo_135, lo_137, lo_139, lo_141, lo_143, lo_145, lo_147, lo_149, lo_151, lo_153, lo_156, lo_159, lo_161, lo_163, lo_165, lo_167, lo_169, lo_171, lo_173, lo_175, lo_177, lo_179, lo_181, lo_183, lo_184, lo_185, lo_186, lo_187, lo_188, lo_189, lo_190, lo_191, lo_192, lo_193, lo_194, lo_195, lo_196, lo_197, lo_198, lo_199, lo_200, lo_201, lo_202, lo_203, jp_nn, jp_eq, jp_e1, Classical.not_not, ji0, ji1, ji2, cs21_119, kk_119, cs21_97, kk_97, cs21_3, kk_3, cs21_61, kk_61, jl_0, jl_1, jl_2, jl_3, jl_4, jl_5, jl_6, jl_7, jl_8, jl_9, jl_10, jl_11, jl_12, jl_13, jl_14, jl_15, jl_16, jl_17, jl_18, jl_19, jl_20, jl_21, jl_22, jl_23, jl_24, jl_25, jl_26, jl_27, jl_28, jl_29, jl_30, jl_31, jl_32, jl_33, jl_34, jl_35, jl_36, jl_37, jl_38, jl_39, jl_40, jl_95, jl_96, jl_97, jl_98, jl_99, jl_100, jl_101, jl_102, jl_103, jl_104, jl_105, jl_106, jl_107, jl_108, jl_109, jl_110, jl_111, jl_112, jl_113, jl_114, jl_186, jl_1100, jr, ju, jpT, jpF, tnc, Nat.reduceEqDiff, reduceIte, and_false, false_and, not_true_eq_false, not_false_eq_true, or_false, gt_iff_lt, ge_iff_le, Int.lt_irrefl, Int.le_refl]
    refine ⟨T, tN_w, byt, tok, tg, fun f h1 e f1_w => ?_, fun D h1 e f1_w cd1 => ?_⟩
    · have er : resG (tS T) (tP T) (tV T) wl = f := by
        unfold resG
        rw [e]
      rw [er] at hQ
      by_cases y : f = 0
      · subst y
        simp only [qe_1, qe_3, qe_4, qe_5, qe_7, qe_72, qe_10, qe_102, qe_13, qe_14, qe_15, qe_16, qe_17, qe_18, qe_20, qe_22, qe_23, qe_21, qe_24, qe_25, qe_26, qe_27, qe_28, qe_30, qe_31, qe_32, qc_20, qc_22, qc_23, qc_21, qc_24, qc_25, qc_26, qc_27, qc_1, qc_3, qc_4, qc_7, qc_13, qc_28, qc_32, qs_1, qs_2, qs_3, qs_4, qs_5, qs_6, qs_9, qs_10, qs_11, qs_14, qs_15, qs_16, qs_27, qs_17, qs_18, qs_19, qs_20, qs_22, qs_23, qs_28, qs_25, qs_26, qs_7, qs_8, kc_1, kn_1, kc_2, kn_2, kc_3, kn_3, kc_4, kn_4, kc_5, kn_5, kc_6, kn_6, kc_7, kn_7, kc_8, kn_8, kc_9, kn_9, kc_10, kn_10, kc_11, kn_11, kc_12, kn_12, kc_13, kn_13, kc_14, kn_14, kc_15, kn_15, kc_16, kc_17, kc_18, kc_19, kc_20, kc_21, kc_22, kc_23, kc_30, kc_32, kc_40, kc_43, kc_45, kc_48, kc_52, kc_56, kc_57, kc_59, kc_60, kc_61, kc_63, kc_64, kc_72, kc_78, kc_97, kc_99, kc_122, kc_126, kc_128, kc_192, kc_200, kc_255, kc_999, kc_1000, kc_9999, kn_9999, kc_10000, kc_12345, kc_65536, kc_252645135, kc_858993459, kc_1103515245, kc_1431655765, kc_2147483647, kc_0, kc_24, kc_28, kc_37, kc_41, kc_42, kc_73, kc_91, kc_95, kc_96, kc_98, kc_100, kc_112, kc_125, kc_150, kc_162, kc_163, kc_168, kc_186, kc_190, kc_250, kc_355, kc_356, kc_404, kc_405, kc_429, kc_573, kc_1002, kc_1100, kc_1891, kc_2200, kc_4719, kc_4869, kc_4881, kc_5148, kc_19741, kc_25433, kc_320403, kc_628412, kc_629093, kc_660401, kc_679843, kc_918640, kc_979410, kc_1178088, kc_6232410, kc_24644941, kc_36238189, kc_38270444, kc_392531318, kc_425693491, kc_1342154595, kc_2147483648, kc_42328242873, kc_891704255789, kc_1722105685577, kc_1858726030364, ct_0, ct_1, ct_2, ct_3, ct_4, ct_5, cf_0, cf_1, cf_2, cf_3, cf_4, cf_5, w_ty6, w_ty7, m_sv, m_z0, m_hd, m_g0, m_gs, m_s0, m_ss, m_ap, m_an, forall_const, true_and, and_true, ne_eq, not_true_eq_false, not_false_eq_true, false_implies, true_implies, implies_true, eq_self, reduceCtorEq, Nat.reduceDiv, Nat.reduceMod, Int.reduceToNat, or_true, true_or, or_false, false_or, or_self, m_it, m_if, m_c1, m_01, m_02, m_03, m_04, m_10, m_12, m_13, m_14, m_20, m_21, m_23, m_24, m_30, m_31, m_32, m_34, m_40, m_41, m_42, m_43, Int.reduceLE, Int.reduceLT, Int.reduceGE, Int.reduceGT, Int.reduceNeg, Int.reduceAdd, Int.reduceSub, Int.reduceMul, Int.reduceEq, Int.reduceNe, Nat.reduceAdd, jun2, ro_0_0, ro_0_1, ro_0_2, ro_0_3, ro_0_4, ro_0_5, ro_0_6, ro_0_7, ro_0_8, ro_0_9, ro_0_10, ro_0_11, ro_0_12, ro_1_0, ro_1_1, ro_2_0, ro_4_0, ro_6_0, ro_6_1, ro_6_2, ro_6_3, ro_6_4, ro_6_5, ro_6_6, ro_6_7, ro_6_8, ro_8_0, ro_10_0, ro_12_0, ro_14_0, ro_16_0, ro_18_0, ro_20_0, ro_22_0, ro_22_1, ro_22_2, ro_23_0, ro_25_0, ro_27_0, ro_29_0, ro_29_1, ro_29_2, ro_29_3, ro_29_4, ro_29_5, ro_29_6, ro_29_7, ro_29_8, ro_31_0, ro_33_0, ro_35_0, ro_37_0, ro_39_0, ro_41_0, ro_43_0, ro_45_0, ro_45_1, ro_45_2, ro_46_0, ro_48_0, ro_50_0, ro_52_0, ro_52_1, ro_52_2, ro_52_3, ro_53_0, ro_55_0, ro_57_0, ro_59_0, ro_61_0, ro_61_1, ro_61_2, ro_61_3, ro_62_0, ro_64_0, ro_66_0, ro_68_0, ro_70_0, ro_70_1, ro_70_2, ro_70_3, ro_70_4, ro_70_5, ro_70_6, ro_70_7, ro_70_8, ro_70_9, ro_71_0, ro_73_0, ro_75_0, ro_77_0, ro_79_0, ro_81_0, ro_83_0, ro_85_0, ro_87_0, ro_89_0, ro_91_0, ro_91_1, ro_91_2, ro_91_3, ro_91_4, ro_91_5, ro_91_6, ro_91_7, ro_91_8, ro_91_9, ro_92_0, ro_94_0, ro_96_0, ro_98_0, ro_100_0, ro_102_0, ro_104_0, ro_106_0, ro_108_0, ro_110_0, ro_112_0, ro_112_1, ro_112_2, ro_112_3, ro_112_4, ro_112_5, ro_112_6, ro_112_7, ro_112_8, ro_112_9, ro_113_0, ro_115_0, ro_117_0, ro_119_0, ro_121_0, ro_123_0, ro_125_0, ro_127_0, ro_129_0, ro_131_0, ro_133_0, ro_133_1, ro_133_2, ro_133_3, ro_133_4, ro_133_5, ro_133_6, ro_133_7, ro_133_8, ro_133_9, ro_134_0, ro_136_0, ro_138_0, ro_140_0, ro_142_0, ro_144_0, ro_146_0, ro_148_0, ro_150_0, ro_152_0, ro_154_0, ro_155_0, ro_157_0, ro_157_1, ro_157_2, ro_157_3, ro_157_4, ro_157_5, ro_157_6, ro_157_7, ro_157_8, ro_157_9, ro_158_0, ro_160_0, ro_162_0, ro_164_0, ro_166_0, ro_168_0, ro_170_0, ro_172_0, ro_174_0, ro_176_0, ro_178_0, ro_180_0, ro_182_1, ro_182_4, ro_182_5, ro_182_6, ro_182_9, ro_182_10, ro_182_11, ro_182_13, ro_182_14, ro_182_15, ro_182_16, ro_182_17, ro_182_20, ro_182_21, ro_182_22, ro_182_23, ro_182_24, ro_182_26, ro_182_27, ro_182_28, lo_3, lo_5, lo_7, lo_9, lo_11, lo_13, lo_15, lo_17, lo_19, lo_21, lo_24, lo_26, lo_28, lo_30, lo_32, lo_34, lo_36, lo_38, lo_40, lo_42, lo_44, lo_47, lo_49, lo_51, lo_54, lo_56, lo_58, lo_60, lo_63, lo_65, lo_67, lo_69, lo_72, lo_74, lo_76, lo_78, lo_80, lo_82, lo_84, lo_86, lo_88, lo_90, lo_93, lo_95, lo_97, lo_99, lo_101, lo_103, lo_105, lo_107, lo_109, lo_111, lo_114, lo_116, lo_118, lo_120, lo_122, lo_124, lo_126, lo_128, lo_130, lo_132, lo_135, lo_137, lo_139, lo_141, lo_143, lo_145, lo_147, lo_149, lo_151, lo_153, lo_156, lo_159, lo_161, lo_163, lo_165, lo_167, lo_169, lo_171, lo_173, lo_175, lo_177, lo_179, lo_181, lo_183, lo_184, lo_185, lo_186, lo_187, lo_188, lo_189, lo_190, lo_191, lo_192, lo_193, lo_194, lo_195, lo_196, lo_197, lo_198, lo_199, lo_200, lo_201, lo_202, lo_203, jp_nn, jp_eq, jp_e1, Classical.not_not, ji0, ji1, ji2, cs21_119, kk_119, cs21_97, kk_97, cs21_3, kk_3, cs21_61, kk_61, jl_0, jl_1, jl_2, jl_3, jl_4, jl_5, jl_6, jl_7, jl_8, jl_9, jl_10, jl_11, jl_12, jl_13, jl_14, jl_15, jl_16, jl_17, jl_18, jl_19, jl_20, jl_21, jl_22, jl_23, jl_24, jl_25, jl_26, jl_27, jl_28, jl_29, jl_30, jl_31, jl_32, jl_33, jl_34, jl_35, jl_36, jl_37, jl_38, jl_39, jl_40, jl_95, jl_96, jl_97, jl_98, jl_99, jl_100, jl_101, jl_102, jl_103, jl_104, jl_105, jl_106, jl_107, jl_108, jl_109, jl_110, jl_111, jl_112, jl_113, jl_114, jl_186, jl_1100, jr, ju, jpT, jpF, tnc, Nat.reduceEqDiff, reduceIte, and_false, false_and, not_true_eq_false, not_false_eq_true, or_false, gt_iff_lt, ge_iff_le, Int.lt_irrefl, Int.le_refl]
        intros
        exact hQ _
      · simp only [qe_1, qe_3, qe_4, qe_5, qe_7, qe_72, qe_10, qe_102, qe_13, qe_14, qe_15, qe_16, qe_17, qe_18, qe_20, qe_22, qe_23, qe_21, qe_24, qe_25, qe_26, qe_27, qe_28, qe_30, qe_31, qe_32, qc_20, qc_22, qc_23, qc_21, qc_24, qc_25, qc_26, qc_27, qc_1, qc_3, qc_4, qc_7, qc_13, qc_28, qc_32, qs_1, qs_2, qs_3, qs_4, qs_5, qs_6, qs_9, qs_10, qs_11, qs_14, qs_15, qs_16, qs_27, qs_17, qs_18, qs_19, qs_20, qs_22, qs_23, qs_28, qs_25, qs_26, qs_7, qs_8, kc_1, kn_1, kc_2, kn_2, kc_3, kn_3, kc_4, kn_4, kc_5, kn_5, kc_6, kn_6, kc_7, kn_7, kc_8, kn_8, kc_9, kn_9, kc_10, kn_10, kc_11, kn_11, kc_12, kn_12, kc_13, kn_13, kc_14, kn_14, kc_15, kn_15, kc_16, kc_17, kc_18, kc_19, kc_20, kc_21, kc_22, kc_23, kc_30, kc_32, kc_40, kc_43, kc_45, kc_48, kc_52, kc_56, kc_57, kc_59, kc_60, kc_61, kc_63, kc_64, kc_72, kc_78, kc_97, kc_99, kc_122, kc_126, kc_128, kc_192, kc_200, kc_255, kc_999, kc_1000, kc_9999, kn_9999, kc_10000, kc_12345, kc_65536, kc_252645135, kc_858993459, kc_1103515245, kc_1431655765, kc_2147483647, kc_0, kc_24, kc_28, kc_37, kc_41, kc_42, kc_73, kc_91, kc_95, kc_96, kc_98, kc_100, kc_112, kc_125, kc_150, kc_162, kc_163, kc_168, kc_186, kc_190, kc_250, kc_355, kc_356, kc_404, kc_405, kc_429, kc_573, kc_1002, kc_1100, kc_1891, kc_2200, kc_4719, kc_4869, kc_4881, kc_5148, kc_19741, kc_25433, kc_320403, kc_628412, kc_629093, kc_660401, kc_679843, kc_918640, kc_979410, kc_1178088, kc_6232410, kc_24644941, kc_36238189, kc_38270444, kc_392531318, kc_425693491, kc_1342154595, kc_2147483648, kc_42328242873, kc_891704255789, kc_1722105685577, kc_1858726030364, ct_0, ct_1, ct_2, ct_3, ct_4, ct_5, cf_0, cf_1, cf_2, cf_3, cf_4, cf_5, w_ty6, w_ty7, m_sv, m_z0, m_hd, m_g0, m_gs, m_s0, m_ss, m_ap, m_an, forall_const, true_and, and_true, ne_eq, not_true_eq_false, not_false_eq_true, false_implies, true_implies, implies_true, eq_self, reduceCtorEq, Nat.reduceDiv, Nat.reduceMod, Int.reduceToNat, or_true, true_or, or_false, false_or, or_self, m_it, m_if, m_c1, m_01, m_02, m_03, m_04, m_10, m_12, m_13, m_14, m_20, m_21, m_23, m_24, m_30, m_31, m_32, m_34, m_40, m_41, m_42, m_43, Int.reduceLE, Int.reduceLT, Int.reduceGE, Int.reduceGT, Int.reduceNeg, Int.reduceAdd, Int.reduceSub, Int.reduceMul, Int.reduceEq, Int.reduceNe, Nat.reduceAdd, jun2, ro_0_0, ro_0_1, ro_0_2, ro_0_3, ro_0_4, ro_0_5, ro_0_6, ro_0_7, ro_0_8, ro_0_9, ro_0_10, ro_0_11, ro_0_12, ro_1_0, ro_1_1, ro_2_0, ro_4_0, ro_6_0, ro_6_1, ro_6_2, ro_6_3, ro_6_4, ro_6_5, ro_6_6, ro_6_7, ro_6_8, ro_8_0, ro_10_0, ro_12_0, ro_14_0, ro_16_0, ro_18_0, ro_20_0, ro_22_0, ro_22_1, ro_22_2, ro_23_0, ro_25_0, ro_27_0, ro_29_0, ro_29_1, ro_29_2, ro_29_3, ro_29_4, ro_29_5, ro_29_6, ro_29_7, ro_29_8, ro_31_0, ro_33_0, ro_35_0, ro_37_0, ro_39_0, ro_41_0, ro_43_0, ro_45_0, ro_45_1, ro_45_2, ro_46_0, ro_48_0, ro_50_0, ro_52_0, ro_52_1, ro_52_2, ro_52_3, ro_53_0, ro_55_0, ro_57_0, ro_59_0, ro_61_0, ro_61_1, ro_61_2, ro_61_3, ro_62_0, ro_64_0, ro_66_0, ro_68_0, ro_70_0, ro_70_1, ro_70_2, ro_70_3, ro_70_4, ro_70_5, ro_70_6, ro_70_7, ro_70_8, ro_70_9, ro_71_0, ro_73_0, ro_75_0, ro_77_0, ro_79_0, ro_81_0, ro_83_0, ro_85_0, ro_87_0, ro_89_0, ro_91_0, ro_91_1, ro_91_2, ro_91_3, ro_91_4, ro_91_5, ro_91_6, ro_91_7, ro_91_8, ro_91_9, ro_92_0, ro_94_0, ro_96_0, ro_98_0, ro_100_0, ro_102_0, ro_104_0, ro_106_0, ro_108_0, ro_110_0, ro_112_0, ro_112_1, ro_112_2, ro_112_3, ro_112_4, ro_112_5, ro_112_6, ro_112_7, ro_112_8, ro_112_9, ro_113_0, ro_115_0, ro_117_0, ro_119_0, ro_121_0, ro_123_0, ro_125_0, ro_127_0, ro_129_0, ro_131_0, ro_133_0, ro_133_1, ro_133_2, ro_133_3, ro_133_4, ro_133_5, ro_133_6, ro_133_7, ro_133_8, ro_133_9, ro_134_0, ro_136_0, ro_138_0, ro_140_0, ro_142_0, ro_144_0, ro_146_0, ro_148_0, ro_150_0, ro_152_0, ro_154_0, ro_155_0, ro_157_0, ro_157_1, ro_157_2, ro_157_3, ro_157_4, ro_157_5, ro_157_6, ro_157_7, ro_157_8, ro_157_9, ro_158_0, ro_160_0, ro_162_0, ro_164_0, ro_166_0, ro_168_0, ro_170_0, ro_172_0, ro_174_0, ro_176_0, ro_178_0, ro_180_0, ro_182_1, ro_182_4, ro_182_5, ro_182_6, ro_182_9, ro_182_10, ro_182_11, ro_182_13, ro_182_14, ro_182_15, ro_182_16, ro_182_17, ro_182_20, ro_182_21, ro_182_22, ro_182_23, ro_182_24, ro_182_26, ro_182_27, ro_182_28, lo_3, lo_5, lo_7, lo_9, lo_11, lo_13, lo_15, lo_17, lo_19, lo_21, lo_24, lo_26, lo_28, lo_30, lo_32, lo_34, lo_36, lo_38, lo_40, lo_42, lo_44, lo_47, lo_49, lo_51, lo_54, lo_56, lo_58, lo_60, lo_63, lo_65, lo_67, lo_69, lo_72, lo_74, lo_76, lo_78, lo_80, lo_82, lo_84, lo_86, lo_88, lo_90, lo_93, lo_95, lo_97, lo_99, lo_101, lo_103, lo_105, lo_107, lo_109, lo_111, lo_114, lo_116, lo_118, lo_120, lo_122, lo_124, lo_126, lo_128, lo_130, lo_132, lo_135, lo_137, lo_139, lo_141, lo_143, lo_145, lo_147, lo_149, lo_151, lo_153, lo_156, lo_159, lo_161, lo_163, lo_165, lo_167, lo_169, lo_171, lo_173, lo_175, lo_177, lo_179, lo_181, lo_183, lo_184, lo_185, lo_186, lo_187, lo_188, lo_189, lo_190, lo_191, lo_192, lo_193, lo_194, lo_195, lo_196, lo_197, lo_198, lo_199, lo_200, lo_201, lo_202, lo_203, jp_nn, jp_eq, jp_e1, Classical.not_not, ji0, ji1, ji2, cs21_119, kk_119, cs21_97, kk_97, cs21_3, kk_3, cs21_61, kk_61, jl_0, jl_1, jl_2, jl_3, jl_4, jl_5, jl_6, jl_7, jl_8, jl_9, jl_10, jl_11, jl_12, jl_13, jl_14, jl_15, jl_16, jl_17, jl_18, jl_19, jl_20, jl_21, jl_22, jl_23, jl_24, jl_25, jl_26, jl_27, jl_28, jl_29, jl_30, jl_31, jl_32, jl_33, jl_34, jl_35, jl_36, jl_37, jl_38, jl_39, jl_40, jl_95, jl_96, jl_97, jl_98, jl_99, jl_100, jl_101, jl_102, jl_103, jl_104, jl_105, jl_106, jl_107, jl_108, jl_109, jl_110, jl_111, jl_112, jl_113, jl_114, jl_186, jl_1100, jr, ju, jpT, jpF, tnc, Nat.reduceEqDiff, reduceIte, and_false, false_and, not_true_eq_false, not_false_eq_true, or_false, gt_iff_lt, ge_iff_le, Int.lt_irrefl, Int.le_refl, y]
        exact hQ _
    · have er : resG (tS T) (tP T) (tV T) wl = 0 := by
        unfold resG
        rw [e]
      rw [er] at hQ
      intros
      exact hQ _
  · exact hQ.elim
theorem snd_21 {xs : Nat → Int} {L K : Nat} : ∀ n, SndC CS21 (evF xs L g_ck K g_cW g_M n) := snd_all snd_20 (fun f av h Q hQ => by
  unfold CS21 at hQ
  split at hQ
  · exact Or.inr m_61
  · exact Or.inr m_2
  · exact Or.inl hQ)
/-! ===== the bytes_w of both_w, and what is_w cut_w of them ===== -/
theorem w37_e {b b' : Nat → Int} {a : Nat} : ∀ m : Nat, (∀ q, a ≤ q → q < a + m → b q = b' q) → w37 b a m = w37 b' a m
  | 0, _ => rfl
  | m + 1, h => by
    rw [w37, w37, w37_e m (fun q z1 z2 => h q z1 (by omega)), h (a + m) (by omega) (by omega)]
theorem wdc_e {b b' : Nat → Int} {a : Nat} : ∀ m : Nat, (∀ q, a ≤ q → q < a + m → b q = b' q) → wdc b a m = wdc b' a m
  | 0, _ => rfl
  | m + 1, h => by
    rw [wdc, wdc, wdc_e m (fun q z1 z2 => h q z1 (by omega)), h (a + m) (by omega) (by omega)]
theorem TKN.eq {b b' : Nat → Int} {n p q : Nat} {s pl v : Int} (t : TKN b n p q s pl v) (h : ∀ k, k < n → b k = b' k) : TKN b' n p q s pl v := by
  obtain ⟨a, a1_w, a2, a3, a4, a5, a6, a7⟩ := t
  have e : ∀ k, k < q → b k = b' k := fun k z => h k (by omega)
  refine ⟨a, a1_w, a2, a3, fun k z1 z2 => by rw [← e k (by omega)]; exact a4 k z1 z2, by rw [← e a a2]; exact a5, a6, ?_⟩
  rcases a7 with ⟨u1, u2_w, u3, u4_w, u5⟩ | ⟨u1, u2_w, u3, u4_w, u5⟩ | ⟨u1, u2_w, u3, u4_w, u5⟩
  · refine Or.inl ⟨by rw [← e a a2]; exact u1, fun k z1 z2 => by rw [← e k z2]; exact u2_w k z1 z2, ?_, u4_w, fun z => (u5 z).trans (w37_e _ (fun k z1 z2 => e k (by omega)))⟩
    by_cases y : q = n
    · exact Or.inl y
    · rw [← h q (by omega)]
      exact u3
  · refine Or.inr (Or.inl ⟨by rw [← e a a2]; exact u1, fun k z1 z2 => by rw [← e k z2]; exact u2_w k z1 z2, ?_, u4_w, fun z => (u5 z).trans (wdc_e _ (fun k z1 z2 => e k (by omega)))⟩)
    by_cases y : q = n
    · exact Or.inl y
    · rw [← h q (by omega)]
      exact u3
  · rw [e a a2] at u1 u2_w u4_w u5
    exact Or.inr (Or.inr ⟨u1, u2_w, u3, u4_w, u5⟩)
theorem TOK.eq {b b' : Nat → Int} {n N : Nat} {S P V : Nat → Int} (t : TOK b n N S P V) (h : ∀ k, k < n → b k = b' k) : TOK b' n N S P V := by
  obtain ⟨⟨pos_w, p0, p1_w, p2_w, p3_w⟩, s, p⟩ := t
  exact ⟨⟨pos_w, p0, fun j z => (p1_w j z).eq h, p2_w, fun k z1 z2 => by rw [← h k z2]; exact p3_w k z1 z2⟩, s, p⟩
theorem TOK.le {b : Nat → Int} {n N : Nat} {S P V : Nat → Int} (t : TOK b n N S P V) : N ≤ n := by
  obtain ⟨⟨pos_w, p0, p1_w, p2_w, p3_w⟩, s, p⟩ := t
  have k : ∀ j, j ≤ N → j ≤ pos_w j := fun j => by
    induction j with
    | zero => exact fun _ => Nat.zero_le _
    | succ j ih_w =>
      intro z
      obtain ⟨a, a1_w, a2, -⟩ := p1_w j z
      have := ih_w (by omega)
      omega
  have := k N (Nat.le_refl _)
  omega
theorem wdc_0 {b : Nat → Int} {a : Nat} : ∀ m : Nat, (∀ q, a ≤ q → q < a + m → isD (b q)) → 0 ≤ wdc b a m
  | 0, _ => Int.le_refl _
  | m + 1, h => by
    have ih_w := wdc_0 m (fun q z1 z2 => h q z1 (by omega))
    have l := h (a + m) (by omega) (by omega)
    rw [wdc]
    omega
theorem TOK.gd {b : Nat → Int} {n N : Nat} {S P V : Nat → Int} (t : TOK b n N S P V) : TGd (n, N, S, P, V) := by
  obtain ⟨⟨pos_w, p0, p1_w, p2_w, p3_w⟩, s, p⟩ := t
  intro i hi_w h2
  have hi' : i < N := hi_w
  have h2' : S i = 2 := h2
  show 0 ≤ V i
  obtain ⟨a, a1_w, a2, a3, a4, a5, a6, a7⟩ := p1_w i hi'
  rcases a7 with ⟨u1, u2_w, u3, u4_w, u5⟩ | ⟨u1, u2_w, u3, u4_w, u5⟩ | ⟨u1, u2_w, u3, u4_w, u5⟩
  · rw [u4_w] at h2'
    split at h2' <;> exact absurd h2' (by decide)
  · have h4 : pos_w (i + 1) - a ≤ 4 := by
      rw [u4_w] at h2'
      by_cases y : pos_w (i + 1) - a > 4
      · rw [if_pos y] at h2'; exact absurd h2' (by decide)
      · omega
    rw [u5 h4]
    exact wdc_0 _ (fun k z1 z2 => u2_w k z1 (by omega))
  · rw [u4_w] at h2'
    split at h2' <;> exact absurd h2' (by decide)
end
section
/-! ===== what lasts from call to call, the bytes_w and words told_w ===== -/
def Inv3 (h : XH) : Prop := Inv0 h ∧ SmB (h 2 1) (h 3) (h 183) ∧ h 187 = wl
def r_n3 (r : Nat) : Bool := r_nf r && !(m_W r).2.contains 3 && !(m_W r).2.contains 183 && !(m_W r).2.contains 187
section INV3
variable {xs : Nat → Int} {L K n : Nat} {c d : Nat} {h h' h1 h2 : XH}
theorem Inv3.kp (hI : Inv3 h) (h0 : Inv0 h') (e2_w : h' 2 1 = h 2 1) (e3_w : h' 3 = h 3) (e8 : h' 183 = h 183) (e9_w : h' 187 = h 187) : Inv3 h' := by
  obtain ⟨-, a, b⟩ := hI
  refine ⟨h0, ?_, e9_w.trans b⟩
  rw [e2_w, e3_w, e8]; exact a
theorem FR.rows (f : FR g_ro h h') : h' 2 1 = h 2 1 ∧ h' 3 = h 3 ∧ h' 183 = h 183 ∧ h' 187 = h 187 := ⟨f 2 1 ro_21, funext fun k => f 3 k ro_t, funext fun k => f 183 k (ro_ge (by decide)), funext fun k => f 187 k (ro_ge (by decide))⟩
/-- a call of the class that is_w neither feed nor grid nor work: what it leaves as_w it is_w -/
theorem cls_fr (hK_w : 4294967300 ≤ K) {f : Nat} (hd_w : g_dp f < n) (hd2 : g_dp f < 99999) {av : List Int} (hL : Lnk h) (hv : VL (fun _ => 0) a_g3 ((g_T 0).2.1 f) av) : ∃ cc r g' h', evF xs L g_ck K g_cW g_M n f av ((a_g3, c, d), h) = some (cc, r, (g', h')) ∧ FR g_ro h h' := by
  obtain ⟨k1_w, k2⟩ := g_cls (xs := xs) (L := L) (c := c) (d := d) hK_w n f hd_w hd2
  obtain ⟨cc, r, g', h', e1_w, e2_w, e3_w, e4_w⟩ := k1_w av h hL.1 hv
  exact ⟨cc, r, g', h', e1_w, e3_w⟩
theorem ref_3 {r : Nat} (hf : r_n3 r = true) {ws_w v : List Int} {g g' : XS × Nat × Nat} {cc : Nat} (hg : g.1 = a_g3) (e : evF xs L g_ck K g_cW g_M n r (182 :: ws_w) (g, h) = some (cc, v, (g', h'))) : r_nf r = true ∧ h' 2 1 = h 2 1 ∧ h' 3 = h 3 ∧ h' 183 = h 183 ∧ h' 187 = h 187 := by
  simp only [r_n3, Bool.and_eq_true, Bool.not_eq_true'] at hf
  obtain ⟨⟨⟨f1_w, f2_w⟩, f3_w⟩, f4_w⟩ := hf
  have f5_w := f1_w
  simp only [r_nf, Bool.and_eq_true, Bool.not_eq_true'] at f5_w
  obtain ⟨-, fr⟩ := fr_all n r (182 :: ws_w) _ _ _ _ _ _ f5_w.1.1.1.1 hg (Or.inr rfl) e
  exact ⟨f1_w, fr 2 1 (fun z => absurd z (by decide)) f5_w.2, funext fun k => fr 3 k (fun z => absurd z (by decide)) f2_w, funext fun k => fr 183 k (fun z => absurd z (by decide)) f3_w, funext fun k => fr 187 k (fun z => absurd z (by decide)) f4_w⟩
theorem pair_i3 (hK2 : 20000000000 ≤ K) (hn : n < 99999) {f r : Nat} (hd_w : g_dp f < n) (ht : g_THR f = false) (hr : r_dp r < n) (hf : r_n3 r = true) {vs ws_w : List Int} (ha_w : VL (fun _ => 0) a_g3 ((g_T 0).2.1 f) vs) (hv : ∀ P, IL P (qP (r_T 0) r) (182 :: ws_w)) (hI : Inv3 h) : ∃ (v1_w v2 : List Int) (h1 h2 : XH), evF xs L g_ck K g_cW g_M n f vs ((a_g3, c, d), h) = some (1, v1_w, ((a_g3, c, d), h1)) ∧ evF xs L g_ck K g_cW g_M n r (182 :: ws_w) ((a_g3, c, d), h1) = some (1, v2, ((a_g3, c, d), h2)) ∧ Inv3 h2 := by
  have f1_w : r_nf r = true := by
    simp only [r_n3, Bool.and_eq_true] at hf
    exact hf.1.1.1
  obtain ⟨v1_w, v2, h1, h2, e1_w, e2_w, e3_w⟩ := pair_inv (xs := xs) (L := L) (c := c) (d := d) hK2 hn hd_w ht hr f1_w ha_w hv hI.1
  obtain ⟨cc, r1_w, g', h1', q1_w, q2_w⟩ := cls_fr (xs := xs) (L := L) (K := K) (c := c) (d := d) (n := n) (f := f) (by omega) hd_w (by omega) hI.1.1 ha_w
  have u : h1' = h1 := by
    have t := q1_w.symm.trans e1_w
    cases t
    rfl
  subst u
  obtain ⟨a1_w, a2, a3, a4⟩ := q2_w.rows
  obtain ⟨-, b1, b2, b3, b4⟩ := ref_3 (g := (a_g3, c, d)) hf rfl e2_w
  exact ⟨v1_w, v2, h1', h2, e1_w, e2_w, hI.kp e3_w (b1.trans a1_w) (b2.trans a2) (b3.trans a3) (b4.trans a4)⟩
theorem feed_i3 (hK_w : 4294967300 ≤ K) {a b e : Int} (hI : Inv3 h) : ∃ (v : Int) (h1 h2 : XH), evF xs L g_ck K g_cW g_M (n + 2) 1 [0, a, b, e] ((a_g3, c, d), h) = some (1, [v], ((a_g3, c, d), h1)) ∧ evF xs L g_ck K g_cW g_M (n + 2) 183 [182, a, b, e] ((a_g3, c, d), h1) = some (1, [v], ((a_g3, c, d), h2)) ∧ Inv3 h2 := by
  obtain ⟨v, h1, h2, e1_w, f1_w, hI2⟩ := feed_inv (xs := xs) (L := L) (K := K) (n := n) (c := c) (d := d) (a := a) (b := b) (e := e) hK_w hI.1
  obtain ⟨hI0, hS_w, hW⟩ := hI
  obtain ⟨hH, m0_w, m1_w, hm_w⟩ := hI0.1
  obtain ⟨h1', e1', g1⟩ := fqA2 (xs := xs) (L := L) (ck := g_ck) (cW := g_cW) (K := K) (n := n) (a := a) (b := b) (c := e) (g := (a_g3, c, d)) (h := h) (by omega) fg_1 fg_2 fg_3 fg_4 (by decide) rfl ⟨m0_w, m1_w⟩
  have ev_w : v = fclT (h 2 1) a b e ∧ h1' = h1 := by
    have t := e1'.symm.trans e1_w
    cases t
    exact ⟨rfl, rfl⟩
  obtain ⟨ev_w, u1⟩ := ev_w
  subst u1
  obtain ⟨h1'', e1'', z1, e3_w⟩ := fqA (xs := xs) (L := L) (ck := g_ck) (cW := g_cW) (K := K) (n := n) (a := a) (b := b) (c := e) (g := (a_g3, c, d)) (h := h) (by omega) fg_1 fg_2 fg_3 fg_4 (by decide) rfl ⟨m0_w, m1_w⟩
  have u2_w : h1'' = h1' := by
    have t := e1''.symm.trans e1_w
    cases t
    rfl
  subst u2_w
  have k1_w : KeptC h h1'' := e3_w (fun x => KeptC h x) (fun x m s p => by
    unfold upA
    split
    · intro o k ho
      have t2_w : (2 : Int).toNat = 2 := rfl
      have t3_w : (3 : Int).toNat = 3 := rfl
      rw [up_ne (fun z => by have := z.1; omega), up_ne (fun z => by have := z.1; omega)]
      exact p o k ho
    · exact p) (fun _ _ _ => rfl)
  have hm1 : h1'' 182 2 = h 2 1 := (k1_w 182 2 (Nat.le_refl _)).trans hm_w
  obtain ⟨h2', f1', g2⟩ := fqM2 (xs := xs) (L := L) (ck := g_ck) (cW := g_cW) (K := K) (n := n) (a := a) (b := b) (c := e) (g := (a_g3, c, d)) (h := h1'') (by omega) fg_5 fg_6 (by decide) hm1 ⟨m0_w, m1_w⟩
  have u3 : h2' = h2 := by
    have t := f1'.symm.trans f1_w
    cases t
    rfl
  subst u3
  obtain ⟨h2'', f1'', z2, f3_w⟩ := fqM (xs := xs) (L := L) (ck := g_ck) (cW := g_cW) (K := K) (n := n) (a := a) (b := b) (c := e) (g := (a_g3, c, d)) (h := h1'') (by omega) fg_5 fg_6 (by decide) hm1 ⟨m0_w, m1_w⟩
  have u4_w : h2'' = h2' := by
    have t := f1''.symm.trans f1_w
    cases t
    rfl
  subst u4_w
  have key := f3_w (fun x => ∀ o k : Nat, o ≠ 182 → o ≠ 183 → x o k = h1'' o k) (fun x m s _ p => by
    unfold upM
    split
    · intro o k a b
      have t2_w : (182 : Int).toNat = 182 := rfl
      have t3_w : (183 : Int).toNat = 183 := rfl
      rw [up_ne (fun z => by have := z.1; omega), up_ne (fun z => by have := z.1; omega)]
      exact p o k a b
    · exact p) (fun o k a _ => up_ne (fun z => a z.1))
  have w1_w : h1'' 3 = fcT (h 2 1) a b e (h 3) := g1
  have w2_w : h2'' 183 = fcT (h 2 1) a b e (h1'' 183) := g2
  have w3_w : h1'' 183 = h 183 := funext fun k => k1_w 183 k (by decide)
  have w4_w : h2'' 3 = h1'' 3 := funext fun k => key 3 k (by decide) (by decide)
  have w5 : h2'' 2 1 = fclT (h 2 1) a b e := (key 2 1 (by decide) (by decide)).trans z1
  refine ⟨v, h1'', h2'', e1_w, f1_w, hI2, ?_, ?_⟩
  · rw [w4_w, w1_w, w2_w, w3_w, w5]
    exact fcT_sm ⟨m0_w, m1_w⟩ hS_w
  · rw [← hW]
    exact funext fun k => (key 187 k (by decide) (by decide)).trans (k1_w 187 k (by decide))
theorem smB_0 {X Y : Nat → Int} : SmB 0 X Y := fun k z => absurd z (by omega)
theorem grid_i3 (hK2 : 20000000000 ≤ K) (hn : n + 41 < 99999) (hI : Inv3 h) : ∃ (v : Int) (h1 h2 : XH), evF xs L g_ck K g_cW g_M (n + 41) 2 [0] ((a_g3, c, d), h) = some (1, [v], ((a_g3, c, d), h1)) ∧ evF xs L g_ck K g_cW g_M (n + 41) 206 [182] ((a_g3, c, d), h1) = some (1, [v], ((a_g3, c, d), h2)) ∧ Inv3 h2 := by
  obtain ⟨v1_w, v2, h1, h2, e1_w, e2_w, e3_w⟩ := grid_inv (xs := xs) (L := L) (K := K) (c := c) (d := d) (n := n) hK2 hn hI.1
  obtain ⟨hI0, hS_w, hW⟩ := hI
  obtain ⟨hH, m0_w, m1_w, hm_w⟩ := hI0.1
  obtain ⟨v, h1', q1_w, q2_w, q3_w, q4_w⟩ := grid_ok (xs := xs) (L := L) (K := K) (c := c) (d := d) (n := n + 40) (by omega) (by omega) hH
  have u : v1_w = [v] ∧ h1' = h1 := by
    have t := q1_w.symm.trans e1_w
    cases t
    exact ⟨rfl, rfl⟩
  obtain ⟨rfl, u⟩ := u
  subst u
  -- what the reference_w answers_w
  have hm2 : h1' 182 2 = (((h 2 1).toNat : Nat) : Int) := by rw [q4_w 182 2 (Nat.le_refl _), hm_w]; omega
  have c206 : CS8 206 [182] h1' (fun k r h' => k = 1 → ∃ N S P V, TOK (h1' 183) (h 2 1).toNat N S P V ∧ r = [resG S P V (h1' 187)]) := by
    rw [cs8_206, kk_206]
    exact ⟨_, hm2, by omega, fun r h' ⟨N, S, P, V, a, b⟩ _ => ⟨N, S, P, V, a, by rw [b]⟩⟩
  obtain ⟨N, S, P, V, tok, er⟩ := (snd_8 (n + 41) _ _ _ _ _ c206 _ _ _ _ e2_w).2 rfl
  -- the class's answer_w is_w the same
  have eb : ∀ k : Nat, k < (h 2 1).toNat → h1' 183 k = h 3 k := fun k z => by
    rw [q4_w 183 k (by decide)]
    exact (hS_w k (by omega)).1.symm
  have tok2 : TOK (h 3) (h 2 1).toNat N S P V := tok.eq eb
  have c2 : CS21 2 [0] h (fun k r h' => k = 1 → r = [resG S P V wl]) := by
    rw [cs21_2, kk_2]
    refine ⟨((h 2 1).toNat, N, S, P, V), ?_, ⟨by show h 2 1 = (((h 2 1).toNat : Nat) : Int); omega, by show (h 2 1).toNat ≤ 1000; omega, fun k z => (hS_w k (by have : k < (h 2 1).toNat := z; omega)).2⟩, tok2, tok.gd, fun h' _ => rfl⟩
    have := tok.le
    show N ≤ 1000
    omega
  have ec := (snd_21 (n + 41) _ _ _ _ _ c2 _ _ _ _ e1_w).2 rfl
  have ew : h1' 187 = wl := (funext fun k => q4_w 187 k (by decide)).trans hW
  have e4_w : v2 = [v] := by rw [er, ew, ec]
  subst e4_w
  obtain ⟨-, fr⟩ := fr_all (n + 41) 206 [182] _ _ _ _ _ _ (by decide) rfl (Or.inr rfl) e2_w
  refine ⟨v, h1', h2, e1_w, e2_w, e3_w, ?_, ?_⟩
  · have qt : h2 2 1 = 0 := (fr 2 1 (fun z => absurd z (by decide)) (by decide)).trans q3_w
    rw [qt]
    exact smB_0
  · rw [← hW]
    exact funext fun k => (fr 187 k (fun z => absurd z (by decide)) (by decide)).trans (q4_w 187 k (by decide))
theorem work_i3 (hK2 : 20000000000 ≤ K) (hn : n + 41 < 99999) (hI : Inv3 h) : ∃ (v1_w v2 : List Int) (h1 h2 : XH), evF xs L g_ck K g_cW g_M (n + 41) 4 [0] ((a_g3, c, d), h) = some (1, v1_w, ((a_g3, c, d), h1)) ∧ evF xs L g_ck K g_cW g_M (n + 41) 214 [182] ((a_g3, c, d), h1) = some (1, v2, ((a_g3, c, d), h2)) ∧ Inv3 h2 := by
  obtain ⟨v1_w, v2, h1, h2, e1_w, e2_w, e3_w⟩ := work_inv (xs := xs) (L := L) (K := K) (c := c) (d := d) (n := n) hK2 hn hI.1
  obtain ⟨hI0, hS_w, hW⟩ := hI
  obtain ⟨v, h1', q1_w, q2_w, q3_w, q4_w⟩ := work_ok (xs := xs) (L := L) (K := K) (c := c) (d := d) (n := n + 40) (by omega) (by omega) hI0.1.1
  have u : h1' = h1 := by
    have t := q1_w.symm.trans e1_w
    cases t
    rfl
  subst u
  obtain ⟨-, fr⟩ := fr_all (n + 41) 214 [182] _ _ _ _ _ _ (by decide) rfl (Or.inr rfl) e2_w
  refine ⟨v1_w, v2, h1', h2, e1_w, e2_w, e3_w, ?_, ?_⟩
  · have qt : h2 2 1 = 0 := (fr 2 1 (fun z => absurd z (by decide)) (by decide)).trans q3_w
    rw [qt]
    exact smB_0
  · rw [← hW]
    exact funext fun k => (fr 187 k (fun z => absurd z (by decide)) (by decide)).trans (q4_w 187 k (by decide))
theorem i_wl : (List.range 24).all (fun k => decide (i0 187 k = wl k)) = true := by decide +kernel
theorem i_wl2 : (a_h3.getD 187 []).all (fun p => decide (p.1 < 24)) = true := by decide +kernel
theorem i_wl3 : i0 187 = wl := funext fun k => by
  by_cases z : k < 24
  · exact of_decide_eq_true (List.all_eq_true.mp i_wl k (List.mem_range.mpr z))
  · have e : wl k = 0 := by
      unfold wl
      rw [List.getD_eq_getElem?_getD, List.getElem?_eq_none (by show 24 ≤ k; omega)]
      rfl
    rw [e]
    unfold i0
    rw [lookH_row]
    rcases lookR_in (a_h3.getD 187 []) k with y | y
    · rw [y]
      rfl
    · exact absurd (of_decide_eq_true (List.all_eq_true.mp i_wl2 _ y)) z
theorem inv3_i0 : Inv3 i0 := by
  refine ⟨inv_i0, ?_, i_wl3⟩
  obtain ⟨q1_w, q2_w, q3_w, q4_w, q5_w, q6_w, q7_w⟩ := i_188
  rw [q6_w]
  exact smB_0
end INV3
end

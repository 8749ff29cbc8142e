/-! ===== contracts: what the class's plan holds_w ===== -/
/-- a profile's sum_w up to a place_w -/
def upT (l : List Int) : Nat → Int
  | 0 => 0
  | k + 1 => upT l k + l.getD (k % l.length) 0
/-- a step_w of the class's law_w for_w a code of the reference's -/
def cst (c : Int) : Int := if c % 16 = 1 then c / 16 else if c % 16 = 2 then -1 - c / 16 else if c = 3 then -5 else if c = 4 then -10 else if c = 5 then -11 else if c = 6 then -12 else if c = 7 then -8 else if c = 8 then -9 else if c = 9 then -6 else -7
/-- how many_w meters are in a class -/
def mbs (l : List (Int × Int × Int × Int)) (c : Int) : Int := ((l.filter (fun x => decide (x.2.2.1 = c))).length : Int)
def LCD (p : Nat) (l : Option (List Int)) (h : XH) : Prop := h (p + 16) 3 = ((l.getD [2]).length : Int) ∧ (∀ k v, (l.getD [2])[k]? = some v → h (p + 18) k = cst v) ∧ (l.getD [2]).length ≤ 1000
def CLD (p : Nat) (l : List (Int × Int × List Int)) (h : XH) : Prop := ∀ c x, l[c]? = some x → h (p + 5) c = x.2.1 ∧ 1 ≤ x.2.2.length ∧ x.2.2.length ≤ 12 ∧ ∀ k, k < 13 → h (p + 9) (13 * c + k) = upT x.2.2 k
def CMD (p : Nat) (l : List (Int × Int × Int × Int)) (h : XH) : Prop := (∀ m x, l[m]? = some x → h (p + 11) m = x.2.1 ∧ h (p + 13) m = x.2.2.1 ∧ h (p + 15) m = x.2.2.2) ∧ ∀ c : Nat, c < 4 → h (p + 7) c = mbs l (c : Int)
def CD (p : Nat) (D : DD) (h : XH) : Prop := CN p D h ∧ (h p 9 = D.1 ∧ 0 ≤ D.1 ∧ D.1 ≤ 12) ∧ (∀ s, s < 12 → h (p + 3) s = (D.2.1.getD []).getD s 0) ∧ CLD p D.2.2.1 h ∧ CMD p D.2.2.2.2.1 h ∧ LCD p D.2.2.2.2.2 h
/-- only the draft is_w changed -/
def FP (h h' : XH) : Prop := ∀ o k : Nat, ¬ ((o = 29 ∧ 9 ≤ k) ∨ (30 ≤ o ∧ o ≤ 51)) → h' o k = h o k
def k96 : KT := fun av h Q => match av with
  | [p] => p = 29 ∧ ∀ h', FP h h' → CD 29 DD0 h' → Q 1 [] h'
  | _ => False
def k99c : KT := fun av h Q => match av with
  | [p, w] => p = 29 ∧ ∃ (D : DD) (u : Int), CD 29 D h ∧ D.2.2.2.1.length < 4 ∧ w = c5 9 u ∧ IsW u ∧ ¬ u ∈ tolds D ∧ ∀ h', FP h h' → CD 29 (D.1, D.2.1, D.2.2.1, D.2.2.2.1 ++ [u], D.2.2.2.2) h' → Q 1 [] h'
  | _ => False
section KKC5
variable {h h1 h2 h' : XH} {Q : Nat → List Int → XH → Prop} {p w : Int}
theorem kk_96 : k96 [29] h Q = ∀ h', FP h h' → CD 29 DD0 h' → Q 1 [] h' := propext ⟨fun a => a.2, fun a => ⟨rfl, a⟩⟩
theorem kk_99 : k99c [29, w] h Q = ∃ (D : DD) (u : Int), CD 29 D h ∧ D.2.2.2.1.length < 4 ∧ w = c5 9 u ∧ IsW u ∧ ¬ u ∈ tolds D ∧ ∀ h', FP h h' → CD 29 (D.1, D.2.1, D.2.2.1, D.2.2.2.1 ++ [u], D.2.2.2.2) h' → Q 1 [] h' := propext ⟨fun a => a.2, fun a => ⟨rfl, a⟩⟩
theorem FP.rf : FP h h := fun _ _ _ => rfl
theorem FP.tr (a : FP h h1) (b : FP h1 h2) : FP h h2 := fun o k z => (b o k z).trans (a o k z)
theorem FP.up {o k : Nat} {v : Int} (z : (o = 29 ∧ 9 ≤ k) ∨ (30 ≤ o ∧ o ≤ 51)) : FP h (j_up h o k v) := fun a b y => up_ne (fun e => y (by rw [e.1, e.2]; exact z))
theorem FP.tca {T : TA} {i : Nat} (f : FP h h') (t : TCA T i h) : TCA T i h' := TC.ft t (fun o k z => f o k (by omega))
theorem nd_ins {a c : List Int} {u : Int} (nd : (a ++ c).Nodup) (nw : ¬ u ∈ a ++ c) : (a ++ u :: c).Nodup := (List.perm_middle.nodup_iff).mpr (List.nodup_cons.mpr ⟨nw, nd⟩)
theorem CD.l {D : DD} (c : CD 29 D h) : LCD 29 D.2.2.2.2.2 h := c.2.2.2.2.2
theorem LCD.fr {l : Option (List Int)} (c : LCD 29 l h) (f3_w : h' 45 3 = h 45 3) (f : ∀ k, h' 47 k = h 47 k) : LCD 29 l h' := ⟨f3_w.trans c.1, fun k v z => (f k).trans (c.2.1 k v z), c.2.2⟩
theorem CLD.fr {l : List (Int × Int × List Int)} (c : CLD 29 l h) (f3_w : ∀ k, h' 34 k = h 34 k) (f : ∀ k, h' 38 k = h 38 k) : CLD 29 l h' := fun n x z => ⟨(f3_w n).trans (c n x z).1, (c n x z).2.1, (c n x z).2.2.1, fun k y => (f _).trans ((c n x z).2.2.2 k y)⟩
theorem CMD.fr {l : List (Int × Int × Int × Int)} (c : CMD 29 l h) (f1_w : ∀ k, h' 40 k = h 40 k) (f2_w : ∀ k, h' 42 k = h 42 k) (f3_w : ∀ k, h' 44 k = h 44 k) (f4_w : ∀ k, h' 36 k = h 36 k) : CMD 29 l h' := ⟨fun n x z => ⟨(f1_w n).trans (c.1 n x z).1, (f2_w n).trans (c.1 n x z).2.1, (f3_w n).trans (c.1 n x z).2.2⟩, fun n z => (f4_w n).trans (c.2 n z)⟩
end KKC5
def CS13 : CSt := fun f => match f with
  | 96 => k96
  | 99 => k99c
  | _ => CS12 f
theorem cs13_54 {av : List Int} {h : XH} {Q : Nat → List Int → XH → Prop} : CS13 54 av h Q = k54 av h Q := id rfl
theorem cs13_55 {av : List Int} {h : XH} {Q : Nat → List Int → XH → Prop} : CS13 55 av h Q = k55 av h Q := id rfl
theorem cs13_68 {av : List Int} {h : XH} {Q : Nat → List Int → XH → Prop} : CS13 68 av h Q = k68 av h Q := id rfl
theorem cs13_69 {av : List Int} {h : XH} {Q : Nat → List Int → XH → Prop} : CS13 69 av h Q = k69 av h Q := id rfl
theorem cs13_70 {av : List Int} {h : XH} {Q : Nat → List Int → XH → Prop} : CS13 70 av h Q = k70 av h Q := id rfl
theorem cs13_71 {av : List Int} {h : XH} {Q : Nat → List Int → XH → Prop} : CS13 71 av h Q = k71 av h Q := id rfl
theorem cs13_72 {av : List Int} {h : XH} {Q : Nat → List Int → XH → Prop} : CS13 72 av h Q = k72 av h Q := id rfl
theorem cs13_73 {av : List Int} {h : XH} {Q : Nat → List Int → XH → Prop} : CS13 73 av h Q = k73 av h Q := id rfl
theorem cs13_74 {av : List Int} {h : XH} {Q : Nat → List Int → XH → Prop} : CS13 74 av h Q = k74 av h Q := id rfl
theorem cs13_75 {av : List Int} {h : XH} {Q : Nat → List Int → XH → Prop} : CS13 75 av h Q = k75 av h Q := id rfl
theorem cs13_186 {av : List Int} {h : XH} {Q : Nat → List Int → XH → Prop} : CS13 186 av h Q = k186 av h Q := id rfl
theorem cs13_187 {av : List Int} {h : XH} {Q : Nat → List Int → XH → Prop} : CS13 187 av h Q = k187 av h Q := id rfl
theorem cs13_188 {av : List Int} {h : XH} {Q : Nat → List Int → XH → Prop} : CS13 188 av h Q = k188 av h Q := id rfl
theorem cs13_189 {av : List Int} {h : XH} {Q : Nat → List Int → XH → Prop} : CS13 189 av h Q = k189 av h Q := id rfl
theorem cs13_191 {av : List Int} {h : XH} {Q : Nat → List Int → XH → Prop} : CS13 191 av h Q = k191 av h Q := id rfl
theorem cs13_192 {av : List Int} {h : XH} {Q : Nat → List Int → XH → Prop} : CS13 192 av h Q = k192 av h Q := id rfl
theorem cs13_193 {av : List Int} {h : XH} {Q : Nat → List Int → XH → Prop} : CS13 193 av h Q = k193 av h Q := id rfl
theorem cs13_198 {av : List Int} {h : XH} {Q : Nat → List Int → XH → Prop} : CS13 198 av h Q = k198 av h Q := id rfl
theorem cs13_207 {av : List Int} {h : XH} {Q : Nat → List Int → XH → Prop} : CS13 207 av h Q = k207 av h Q := id rfl
theorem cs13_195 {av : List Int} {h : XH} {Q : Nat → List Int → XH → Prop} : CS13 195 av h Q = k195 av h Q := id rfl
theorem cs13_196 {av : List Int} {h : XH} {Q : Nat → List Int → XH → Prop} : CS13 196 av h Q = k196 av h Q := id rfl
theorem cs13_201 {av : List Int} {h : XH} {Q : Nat → List Int → XH → Prop} : CS13 201 av h Q = k201 av h Q := id rfl
theorem cs13_203 {av : List Int} {h : XH} {Q : Nat → List Int → XH → Prop} : CS13 203 av h Q = k203 av h Q := id rfl
theorem cs13_204 {av : List Int} {h : XH} {Q : Nat → List Int → XH → Prop} : CS13 204 av h Q = k204 av h Q := id rfl
theorem cs13_194 {av : List Int} {h : XH} {Q : Nat → List Int → XH → Prop} : CS13 194 av h Q = k194 av h Q := id rfl
theorem cs13_197 {av : List Int} {h : XH} {Q : Nat → List Int → XH → Prop} : CS13 197 av h Q = k197 av h Q := id rfl
theorem cs13_200 {av : List Int} {h : XH} {Q : Nat → List Int → XH → Prop} : CS13 200 av h Q = k200 av h Q := id rfl
theorem cs13_202 {av : List Int} {h : XH} {Q : Nat → List Int → XH → Prop} : CS13 202 av h Q = k202 av h Q := id rfl
theorem cs13_205 {av : List Int} {h : XH} {Q : Nat → List Int → XH → Prop} : CS13 205 av h Q = k205 av h Q := id rfl
theorem cs13_208 {av : List Int} {h : XH} {Q : Nat → List Int → XH → Prop} : CS13 208 av h Q = k208 av h Q := id rfl
theorem cs13_209 {av : List Int} {h : XH} {Q : Nat → List Int → XH → Prop} : CS13 209 av h Q = k209 av h Q := id rfl
theorem cs13_211 {av : List Int} {h : XH} {Q : Nat → List Int → XH → Prop} : CS13 211 av h Q = k211 av h Q := id rfl
theorem cs13_216 {av : List Int} {h : XH} {Q : Nat → List Int → XH → Prop} : CS13 216 av h Q = k216 av h Q := id rfl
theorem cs13_217 {av : List Int} {h : XH} {Q : Nat → List Int → XH → Prop} : CS13 217 av h Q = k217 av h Q := id rfl
theorem cs13_218 {av : List Int} {h : XH} {Q : Nat → List Int → XH → Prop} : CS13 218 av h Q = k218 av h Q := id rfl
theorem cs13_219 {av : List Int} {h : XH} {Q : Nat → List Int → XH → Prop} : CS13 219 av h Q = k219 av h Q := id rfl
theorem cs13_220 {av : List Int} {h : XH} {Q : Nat → List Int → XH → Prop} : CS13 220 av h Q = k220 av h Q := id rfl
theorem cs13_221 {av : List Int} {h : XH} {Q : Nat → List Int → XH → Prop} : CS13 221 av h Q = k221 av h Q := id rfl
theorem cs13_210 {av : List Int} {h : XH} {Q : Nat → List Int → XH → Prop} : CS13 210 av h Q = k210 av h Q := id rfl
theorem cs13_212 {av : List Int} {h : XH} {Q : Nat → List Int → XH → Prop} : CS13 212 av h Q = k212 av h Q := id rfl
theorem cs13_213 {av : List Int} {h : XH} {Q : Nat → List Int → XH → Prop} : CS13 213 av h Q = k213 av h Q := id rfl
theorem cs13_190 {av : List Int} {h : XH} {Q : Nat → List Int → XH → Prop} : CS13 190 av h Q = k190 av h Q := id rfl
theorem cs13_199 {av : List Int} {h : XH} {Q : Nat → List Int → XH → Prop} : CS13 199 av h Q = k199 av h Q := id rfl
theorem cs13_225 {av : List Int} {h : XH} {Q : Nat → List Int → XH → Prop} : CS13 225 av h Q = k225 av h Q := id rfl
theorem cs13_226 {av : List Int} {h : XH} {Q : Nat → List Int → XH → Prop} : CS13 226 av h Q = k226 av h Q := id rfl
theorem cs13_227 {av : List Int} {h : XH} {Q : Nat → List Int → XH → Prop} : CS13 227 av h Q = k227 av h Q := id rfl
theorem cs13_228 {av : List Int} {h : XH} {Q : Nat → List Int → XH → Prop} : CS13 228 av h Q = k228 av h Q := id rfl
theorem cs13_240 {av : List Int} {h : XH} {Q : Nat → List Int → XH → Prop} : CS13 240 av h Q = k240 av h Q := id rfl
theorem cs13_241 {av : List Int} {h : XH} {Q : Nat → List Int → XH → Prop} : CS13 241 av h Q = k241 av h Q := id rfl
theorem cs13_206 {av : List Int} {h : XH} {Q : Nat → List Int → XH → Prop} : CS13 206 av h Q = k206 av h Q := id rfl
theorem cs13_333 {av : List Int} {h : XH} {Q : Nat → List Int → XH → Prop} : CS13 333 av h Q = k333 av h Q := id rfl
theorem cs13_67 {av : List Int} {h : XH} {Q : Nat → List Int → XH → Prop} : CS13 67 av h Q = k67 av h Q := id rfl
theorem cs13_65 {av : List Int} {h : XH} {Q : Nat → List Int → XH → Prop} : CS13 65 av h Q = k65 av h Q := id rfl
theorem cs13_66 {av : List Int} {h : XH} {Q : Nat → List Int → XH → Prop} : CS13 66 av h Q = k66 av h Q := id rfl
theorem cs13_64 {av : List Int} {h : XH} {Q : Nat → List Int → XH → Prop} : CS13 64 av h Q = k64 av h Q := id rfl
theorem cs13_63 {av : List Int} {h : XH} {Q : Nat → List Int → XH → Prop} : CS13 63 av h Q = k63 av h Q := id rfl
theorem cs13_77 {av : List Int} {h : XH} {Q : Nat → List Int → XH → Prop} : CS13 77 av h Q = k77 av h Q := id rfl
theorem cs13_76 {av : List Int} {h : XH} {Q : Nat → List Int → XH → Prop} : CS13 76 av h Q = k76 av h Q := id rfl
theorem cs13_133 {av : List Int} {h : XH} {Q : Nat → List Int → XH → Prop} : CS13 133 av h Q = k133 av h Q := id rfl
theorem cs13_134 {av : List Int} {h : XH} {Q : Nat → List Int → XH → Prop} : CS13 134 av h Q = k134 av h Q := id rfl
theorem cs13_135 {av : List Int} {h : XH} {Q : Nat → List Int → XH → Prop} : CS13 135 av h Q = k135 av h Q := id rfl
theorem cs13_136 {av : List Int} {h : XH} {Q : Nat → List Int → XH → Prop} : CS13 136 av h Q = k136 av h Q := id rfl
theorem cs13_138 {av : List Int} {h : XH} {Q : Nat → List Int → XH → Prop} : CS13 138 av h Q = k138 av h Q := id rfl
theorem cs13_139 {av : List Int} {h : XH} {Q : Nat → List Int → XH → Prop} : CS13 139 av h Q = k139 av h Q := id rfl
theorem cs13_105 {av : List Int} {h : XH} {Q : Nat → List Int → XH → Prop} : CS13 105 av h Q = k105 av h Q := id rfl
theorem cs13_102 {av : List Int} {h : XH} {Q : Nat → List Int → XH → Prop} : CS13 102 av h Q = k102 av h Q := id rfl
theorem cs13_103 {av : List Int} {h : XH} {Q : Nat → List Int → XH → Prop} : CS13 103 av h Q = k103 av h Q := id rfl
theorem cs13_104 {av : List Int} {h : XH} {Q : Nat → List Int → XH → Prop} : CS13 104 av h Q = k104 av h Q := id rfl
theorem cs13_106 {av : List Int} {h : XH} {Q : Nat → List Int → XH → Prop} : CS13 106 av h Q = k106 av h Q := id rfl
theorem cs13_140 {av : List Int} {h : XH} {Q : Nat → List Int → XH → Prop} : CS13 140 av h Q = k140 av h Q := id rfl
theorem cs13_137 {av : List Int} {h : XH} {Q : Nat → List Int → XH → Prop} : CS13 137 av h Q = k137 av h Q := id rfl
theorem cs13_127 {av : List Int} {h : XH} {Q : Nat → List Int → XH → Prop} : CS13 127 av h Q = k127 av h Q := id rfl
theorem cs13_56 {av : List Int} {h : XH} {Q : Nat → List Int → XH → Prop} : CS13 56 av h Q = k56 av h Q := id rfl
theorem cs13_57 {av : List Int} {h : XH} {Q : Nat → List Int → XH → Prop} : CS13 57 av h Q = k57 av h Q := id rfl
theorem cs13_79 {av : List Int} {h : XH} {Q : Nat → List Int → XH → Prop} : CS13 79 av h Q = k79 av h Q := id rfl
theorem cs13_101 {av : List Int} {h : XH} {Q : Nat → List Int → XH → Prop} : CS13 101 av h Q = k101 av h Q := id rfl
theorem cs13_96 {av : List Int} {h : XH} {Q : Nat → List Int → XH → Prop} : CS13 96 av h Q = k96 av h Q := id rfl
theorem cs13_99 {av : List Int} {h : XH} {Q : Nat → List Int → XH → Prop} : CS13 99 av h Q = k99c av h Q := id rfl
theorem m_96 : BodyOK CS13 CS13 96 := fun av h Q hQ => by
  rw [cs13_96] at hQ
  unfold k96 at hQ
  split at hQ
  · rename_i p
    obtain ⟨rfl, hQ⟩ := hQ
    show pS CS13 bb_96 [29] h _
    unfold bb_96
    simp only [qe_1, qe_3, qe_4, qe_5, qe_7, qe_72, qe_10, qe_102, qe_13, qe_14, qe_15, qe_16, qe_17, qe_18, qe_20, qe_22, qe_23, qe_21, qe_24, qe_25, qe_26, qe_27, qe_28, qe_30, qe_31, qe_32, qc_20, qc_22, qc_23, qc_21, qc_24, qc_25, qc_26, qc_27, qc_1, qc_3, qc_4, qc_7, qc_13, qc_28, qc_32, qs_1, qs_2, qs_3, qs_4, qs_5, qs_6, qs_9, qs_10, qs_11, qs_14, qs_15, qs_16, qs_27, qs_17, qs_18, qs_19, qs_20, qs_22, qs_23, qs_28, qs_25, qs_26, qs_7, qs_8, kc_1, kn_1, kc_2, kn_2, kc_3, kn_3, kc_4, kn_4, kc_5, kn_5, kc_6, kn_6, kc_7, kn_7, kc_8, kn_8, kc_9, kn_9, kc_10, kn_10, kc_11, kn_11, kc_12, kn_12, kc_13, kn_13, kc_14, kn_14, kc_15, kn_15, kc_16, kc_17, kc_18, kc_19, kc_20, kc_21, kc_22, kc_23, kc_30, kc_32, kc_40, kc_43, kc_45, kc_48, kc_52, kc_56, kc_57, kc_59, kc_60, kc_61, kc_63, kc_64, kc_72, kc_78, kc_97, kc_99, kc_122, kc_126, kc_128, kc_192, kc_200, kc_255, kc_999, kc_1000, kc_9999, kn_9999, kc_10000, kc_12345, kc_65536, kc_252645135, kc_858993459, kc_1103515245, kc_1431655765, kc_2147483647, kc_0, kc_24, kc_28, kc_37, kc_41, kc_42, kc_73, kc_91, kc_95, kc_96, kc_98, kc_100, kc_112, kc_125, kc_150, kc_162, kc_163, kc_168, kc_186, kc_190, kc_250, kc_355, kc_356, kc_404, kc_405, kc_429, kc_573, kc_1002, kc_1100, kc_1891, kc_2200, kc_4719, kc_4869, kc_4881, kc_5148, kc_19741, kc_25433, kc_320403, kc_628412, kc_629093, kc_660401, kc_679843, kc_918640, kc_979410, kc_1178088, kc_6232410, kc_24644941, kc_36238189, kc_38270444, kc_392531318, kc_425693491, kc_1342154595, kc_2147483648, kc_42328242873, kc_891704255789, kc_1722105685577, kc_1858726030364, ct_0, ct_1, ct_2, ct_3, ct_4, ct_5, cf_0, cf_1, cf_2, cf_3, cf_4, cf_5, w_ty6, w_ty7, m_sv, m_z0, m_hd, m_g0, m_gs, m_s0, m_ss, m_ap, m_an, forall_const, true_and, and_true, ne_eq, not_true_eq_false, not_false_eq_true, false_implies, true_implies, implies_true, eq_self, reduceCtorEq, Nat.reduceDiv, Nat.reduceMod, Int.reduceToNat, or_true, true_or, or_false, false_or, or_self, m_it, m_if, m_c1, m_01, m_02, m_03, m_04, m_10, m_12, m_13, m_14, m_20, m_21, m_23, m_24, m_30, m_31, m_32, m_34, m_40, m_41, m_42, m_43, Int.reduceLE, Int.reduceLT, Int.reduceGE, Int.reduceGT, Int.reduceNeg, Int.reduceAdd, Int.reduceSub, Int.reduceMul, Int.reduceEq, Int.reduceNe, Nat.reduceAdd, jun2, ro_0_0, ro_0_1, ro_0_2, ro_0_3, ro_0_4, ro_0_5, ro_0_6, ro_0_7, ro_0_8, ro_0_9, ro_0_10, ro_0_11, ro_0_12, ro_1_0, ro_1_1, ro_2_0, ro_4_0, ro_6_0, ro_6_1, ro_6_2, ro_6_3, ro_6_4, ro_6_5, ro_6_6, ro_6_7, ro_6_8, ro_8_0, ro_10_0, ro_12_0, ro_14_0, ro_16_0, ro_18_0, ro_20_0, ro_22_0, ro_22_1, ro_22_2, ro_23_0, ro_25_0, ro_27_0, ro_29_0, ro_29_1, ro_29_2, ro_29_3, ro_29_4, ro_29_5, ro_29_6, ro_29_7, ro_29_8, ro_31_0, ro_33_0, ro_35_0, ro_37_0, ro_39_0, ro_41_0, ro_43_0, ro_45_0, ro_45_1, ro_45_2, ro_46_0, ro_48_0, ro_50_0, ro_52_0, ro_52_1, ro_52_2, ro_52_3, ro_53_0, ro_55_0, ro_57_0, ro_59_0, ro_61_0, ro_61_1, ro_61_2, ro_61_3, ro_62_0, ro_64_0, ro_66_0, ro_68_0, ro_70_0, ro_70_1, ro_70_2, ro_70_3, ro_70_4, ro_70_5, ro_70_6, ro_70_7, ro_70_8, ro_70_9, ro_71_0, ro_73_0, ro_75_0, ro_77_0, ro_79_0, ro_81_0, ro_83_0, ro_85_0, ro_87_0, ro_89_0, ro_91_0, ro_91_1, ro_91_2, ro_91_3, ro_91_4, ro_91_5, ro_91_6, ro_91_7, ro_91_8, ro_91_9, ro_92_0, ro_94_0, ro_96_0, ro_98_0, ro_100_0, ro_102_0, ro_104_0, ro_106_0, ro_108_0, ro_110_0, ro_112_0, ro_112_1, ro_112_2, ro_112_3, ro_112_4, ro_112_5, ro_112_6, ro_112_7, ro_112_8, ro_112_9, ro_113_0, ro_115_0, ro_117_0, ro_119_0, ro_121_0, ro_123_0, ro_125_0, ro_127_0, ro_129_0, ro_131_0, ro_133_0, ro_133_1, ro_133_2, ro_133_3, ro_133_4, ro_133_5, ro_133_6, ro_133_7, ro_133_8, ro_133_9, ro_134_0, ro_136_0, ro_138_0, ro_140_0, ro_142_0, ro_144_0, ro_146_0, ro_148_0, ro_150_0, ro_152_0, ro_154_0, ro_155_0, ro_157_0, ro_157_1, ro_157_2, ro_157_3, ro_157_4, ro_157_5, ro_157_6, ro_157_7, ro_157_8, ro_157_9, ro_158_0, ro_160_0, ro_162_0, ro_164_0, ro_166_0, ro_168_0, ro_170_0, ro_172_0, ro_174_0, ro_176_0, ro_178_0, ro_180_0, ro_182_1, ro_182_4, ro_182_5, ro_182_6, ro_182_9, ro_182_10, ro_182_11, ro_182_13, ro_182_14, ro_182_15, ro_182_16, ro_182_17, ro_182_20, ro_182_21, ro_182_22, ro_182_23, ro_182_24, ro_182_26, ro_182_27, ro_182_28, lo_3, lo_5, lo_7, lo_9, lo_11, lo_13, lo_15, lo_17, lo_19, lo_21, lo_24, lo_26, lo_28, lo_30, lo_32, lo_34, lo_36, lo_38, lo_40, lo_42, lo_44, lo_47, lo_49, lo_51, lo_54, lo_56, lo_58, lo_60, lo_63, lo_65, lo_67, lo_69, lo_72, lo_74, lo_76, lo_78, lo_80, lo_82, lo_84, lo_86, lo_88, lo_90, lo_93, lo_95, lo_97, lo_99, lo_101, lo_103, lo_105, lo_107, lo_109, lo_111, lo_114, lo_116, lo_118, lo_120, lo_122, lo_124, lo_126, lo_128, lo_130, lo_132, lo_135, lo_137, lo_139, lo_141, lo_143, lo_145, lo_147, lo_149, lo_151, lo_153, lo_156, lo_159, lo_161, lo_163, lo_165, lo_167, lo_169, lo_171, lo_173, lo_175, lo_177, lo_179, lo_181, lo_183, lo_184, lo_185, lo_186, lo_187, lo_188, lo_189, lo_190, lo_191, lo_192, lo_193, lo_194, lo_195, lo_196, lo_197, lo_198, lo_199, lo_200, lo_201, lo_202, lo_203, jp_nn, jp_eq, jp_e1, Classical.not_not, ji0, ji1, ji2, cs13_54, kk_54, cs13_55, kk_55, cs13_68, kk_68, cs13_69, kk_69, cs13_70, kk_70, cs13_71, kk_71, cs13_72, kk_72, cs13_73, kk_73, cs13_74, kk_74, cs13_75, kk_75, cs13_186, kk_186, cs13_187, kk_187, cs13_188, kk_188, cs13_189, kk_189, cs13_191, kk_191, cs13_192, kk_192, cs13_193, kk_193, cs13_198, kk_198, cs13_207, kk_207, cs13_195, kk_195, cs13_196, kk_196, cs13_201, kk_201, cs13_203, kk_203, cs13_204, kk_204, cs13_194, kk_194, cs13_197, kk_197, cs13_200, kk_200, cs13_202, kk_202, cs13_205, kk_205, cs13_208, kk_208, cs13_209, kk_209, cs13_211, kk_211, cs13_216, kk_216, cs13_217, kk_217, cs13_218, kk_218, cs13_219, kk_219, cs13_220, kk_220, cs13_221, kk_221, cs13_210, kk_210, cs13_212, kk_212, cs13_213, kk_213, cs13_190, kk_190, cs13_199, kk_199, cs13_225, kk_225, cs13_226, kk_226, cs13_227, kk_227, cs13_228, kk_228, cs13_240, kk_240, cs13_241, kk_241, cs13_206, kk_206, cs13_333, kk_333, cs13_67, kk_67, cs13_65, kk_65, cs13_66, kk_66, cs13_64, kk_64, cs13_63, kk_63, cs13_77, kk_77, cs13_76, kk_76, cs13_133, kk_133, cs13_134, kk_134, cs13_135, kk_135, cs13_136, kk_136, cs13_138, kk_138, cs13_139, kk_139, cs13_105, kk_105, cs13_102, kk_102, cs13_103, kk_103, cs13_104, kk_104, cs13_106, kk_106, cs13_140, kk_140, cs13_137, kk_137, cs13_127, kk_127, cs13_56, kk_56, cs13_57, kk_57, cs13_79, kk_79, cs13_101, kk_101, cs13_96, kk_96, cs13_99, kk_99, jl_0, jl_1, jl_2, jl_3, jl_4, jl_5, jl_6, jl_7, jl_8, jl_9, jl_10, jl_11, jl_12, jl_13, jl_14, jl_15, jl_16, jl_17, jl_18, jl_19, jl_20, jl_21, jl_22, jl_23, jl_24, jl_25, jl_26, jl_27, jl_28, jl_29, jl_30, jl_31, jl_32, jl_33, jl_34, jl_35, jl_36, jl_37, jl_38, jl_39, jl_40, jl_95, jl_96, jl_97, jl_98, jl_99, jl_100, jl_101, jl_102, jl_103, jl_104, jl_105, jl_106, jl_107, jl_108, jl_109, jl_110, jl_111, jl_112, jl_113, jl_114, jl_186, jl_1100, jr, ju, jpT, jpF, tnc, Nat.reduceEqDiff, reduceIte, and_false, false_and, not_true_eq_false, not_false_eq_true, or_false, gt_iff_lt, ge_iff_le, Int.lt_irrefl, Int.le_refl]
    refine ⟨32, 12, rfl, lo_32, by decide, fun h1 f1_w g1 => ⟨36, 4, rfl, lo_36, by decide, fun h2 f2_w g2 => hQ _ ?_ ?_⟩⟩
    · have a1_w : FP h h1 := fun o k z => f1_w o k (by omega)
      have a2 : FP h1 h2 := fun o k z => f2_w o k (by omega)
      exact a1_w.tr (a2.tr ((FP.up (by omega)).tr ((FP.up (by omega)).tr ((FP.up (by omega)).tr ((FP.up (by omega)).tr ((FP.up (by omega)).tr (FP.up (by omega))))))))
    · refine ⟨⟨⟨rfl, rfl, rfl, by decide, by decide, by decide⟩, fun k v z => (by cases z), fun k v z => (by cases z), fun k v z => (by cases z), List.nodup_nil⟩, ⟨rfl, by decide, by decide⟩, fun q z => ?_, fun c x z => (by cases z), ⟨fun c x z => (by cases z), fun c z => ?_⟩, rfl, fun k v z => ?_, by decide⟩
      · show h2 32 q = _
        rw [f2_w 32 q (by decide), g1 q z]
        rfl
      · show h2 36 c = _
        rw [g2 c z]
        rfl
      · cases k with
        | zero =>
          cases z
          rfl
        | succ k => cases z
  · exact hQ.elim
theorem m_99 : BodyOK CS13 CS13 99 := fun av h Q hQ => by
  rw [cs13_99] at hQ
  unfold k99c at hQ
  split at hQ
  · rename_i p w
    obtain ⟨rfl, D, u, cd, ln, rfl, hu, nw, hQ⟩ := hQ
    obtain ⟨⟨⟨c1_w, c2, c3, l1, l2, l3⟩, r1_w, r2, r3, nd⟩, d1_w, d2_w, d3_w, d4_w, d5⟩ := id cd
    have ek : j32 ((D.2.2.2.1.length : Int) + 1) = ((D.2.2.2.1.length + 1 : Nat) : Int) := by
      rw [j32_id (by omega) (by omega)]
      omega
    have ef : j32 (4 + (D.2.2.2.1.length : Int)) = ((4 + D.2.2.2.1.length : Nat) : Int) := by
      rw [j32_id (by omega) (by omega)]
      omega
    show pS CS13 bb_99 [29, c5 9 u, 0] h _
    unfold bb_99
    simp only [qe_1, qe_3, qe_4, qe_5, qe_7, qe_72, qe_10, qe_102, qe_13, qe_14, qe_15, qe_16, qe_17, qe_18, qe_20, qe_22, qe_23, qe_21, qe_24, qe_25, qe_26, qe_27, qe_28, qe_30, qe_31, qe_32, qc_20, qc_22, qc_23, qc_21, qc_24, qc_25, qc_26, qc_27, qc_1, qc_3, qc_4, qc_7, qc_13, qc_28, qc_32, qs_1, qs_2, qs_3, qs_4, qs_5, qs_6, qs_9, qs_10, qs_11, qs_14, qs_15, qs_16, qs_27, qs_17, qs_18, qs_19, qs_20, qs_22, qs_23, qs_28, qs_25, qs_26, qs_7, qs_8, kc_1, kn_1, kc_2, kn_2, kc_3, kn_3, kc_4, kn_4, kc_5, kn_5, kc_6, kn_6, kc_7, kn_7, kc_8, kn_8, kc_9, kn_9, kc_10, kn_10, kc_11, kn_11, kc_12, kn_12, kc_13, kn_13, kc_14, kn_14, kc_15, kn_15, kc_16, kc_17, kc_18, kc_19, kc_20, kc_21, kc_22, kc_23, kc_30, kc_32, kc_40, kc_43, kc_45, kc_48, kc_52, kc_56, kc_57, kc_59, kc_60, kc_61, kc_63, kc_64, kc_72, kc_78, kc_97, kc_99, kc_122, kc_126, kc_128, kc_192, kc_200, kc_255, kc_999, kc_1000, kc_9999, kn_9999, kc_10000, kc_12345, kc_65536, kc_252645135, kc_858993459, kc_1103515245, kc_1431655765, kc_2147483647, kc_0, kc_24, kc_28, kc_37, kc_41, kc_42, kc_73, kc_91, kc_95, kc_96, kc_98, kc_100, kc_112, kc_125, kc_150, kc_162, kc_163, kc_168, kc_186, kc_190, kc_250, kc_355, kc_356, kc_404, kc_405, kc_429, kc_573, kc_1002, kc_1100, kc_1891, kc_2200, kc_4719, kc_4869, kc_4881, kc_5148, kc_19741, kc_25433, kc_320403, kc_628412, kc_629093, kc_660401, kc_679843, kc_918640, kc_979410, kc_1178088, kc_6232410, kc_24644941, kc_36238189, kc_38270444, kc_392531318, kc_425693491, kc_1342154595, kc_2147483648, kc_42328242873, kc_891704255789, kc_1722105685577, kc_1858726030364, ct_0, ct_1, ct_2, ct_3, ct_4, ct_5, cf_0, cf_1, cf_2, cf_3, cf_4, cf_5, w_ty6, w_ty7, m_sv, m_z0, m_hd, m_g0, m_gs, m_s0, m_ss, m_ap, m_an, forall_const, true_and, and_true, ne_eq, not_true_eq_false, not_false_eq_true, false_implies, true_implies, implies_true, eq_self, reduceCtorEq, Nat.reduceDiv, Nat.reduceMod, Int.reduceToNat, or_true, true_or, or_false, false_or, or_self, m_it, m_if, m_c1, m_01, m_02, m_03, m_04, m_10, m_12, m_13, m_14, m_20, m_21, m_23, m_24, m_30, m_31, m_32, m_34, m_40, m_41, m_42, m_43, Int.reduceLE, Int.reduceLT, Int.reduceGE, Int.reduceGT, Int.reduceNeg, Int.reduceAdd, Int.reduceSub, Int.reduceMul, Int.reduceEq, Int.reduceNe, Nat.reduceAdd, jun2, ro_0_0, ro_0_1, ro_0_2, ro_0_3, ro_0_4, ro_0_5, ro_0_6, ro_0_7, ro_0_8, ro_0_9, ro_0_10, ro_0_11, ro_0_12, ro_1_0, ro_1_1, ro_2_0, ro_4_0, ro_6_0, ro_6_1, ro_6_2, ro_6_3, ro_6_4, ro_6_5, ro_6_6, ro_6_7, ro_6_8, ro_8_0, ro_10_0, ro_12_0, ro_14_0, ro_16_0, ro_18_0, ro_20_0, ro_22_0, ro_22_1, ro_22_2, ro_23_0, ro_25_0, ro_27_0, ro_29_0, ro_29_1, ro_29_2, ro_29_3, ro_29_4, ro_29_5, ro_29_6, ro_29_7, ro_29_8, ro_31_0, ro_33_0, ro_35_0, ro_37_0, ro_39_0, ro_41_0, ro_43_0, ro_45_0, ro_45_1, ro_45_2, ro_46_0, ro_48_0, ro_50_0, ro_52_0, ro_52_1, ro_52_2, ro_52_3, ro_53_0, ro_55_0, ro_57_0, ro_59_0, ro_61_0, ro_61_1, ro_61_2, ro_61_3, ro_62_0, ro_64_0, ro_66_0, ro_68_0, ro_70_0, ro_70_1, ro_70_2, ro_70_3, ro_70_4, ro_70_5, ro_70_6, ro_70_7, ro_70_8, ro_70_9, ro_71_0, ro_73_0, ro_75_0, ro_77_0, ro_79_0, ro_81_0, ro_83_0, ro_85_0, ro_87_0, ro_89_0, ro_91_0, ro_91_1, ro_91_2, ro_91_3, ro_91_4, ro_91_5, ro_91_6, ro_91_7, ro_91_8, ro_91_9, ro_92_0, ro_94_0, ro_96_0, ro_98_0, ro_100_0, ro_102_0, ro_104_0, ro_106_0, ro_108_0, ro_110_0, ro_112_0, ro_112_1, ro_112_2, ro_112_3, ro_112_4, ro_112_5, ro_112_6, ro_112_7, ro_112_8, ro_112_9, ro_113_0, ro_115_0, ro_117_0, ro_119_0, ro_121_0, ro_123_0, ro_125_0, ro_127_0, ro_129_0, ro_131_0, ro_133_0, ro_133_1, ro_133_2, ro_133_3, ro_133_4, ro_133_5, ro_133_6, ro_133_7, ro_133_8, ro_133_9, ro_134_0, ro_136_0, ro_138_0, ro_140_0, ro_142_0, ro_144_0, ro_146_0, ro_148_0, ro_150_0, ro_152_0, ro_154_0, ro_155_0, ro_157_0, ro_157_1, ro_157_2, ro_157_3, ro_157_4, ro_157_5, ro_157_6, ro_157_7, ro_157_8, ro_157_9, ro_158_0, ro_160_0, ro_162_0, ro_164_0, ro_166_0, ro_168_0, ro_170_0, ro_172_0, ro_174_0, ro_176_0, ro_178_0, ro_180_0, ro_182_1, ro_182_4, ro_182_5, ro_182_6, ro_182_9, ro_182_10, ro_182_11, ro_182_13, ro_182_14, ro_182_15, ro_182_16, ro_182_17, ro_182_20, ro_182_21, ro_182_22, ro_182_23, ro_182_24, ro_182_26, ro_182_27, ro_182_28, lo_3, lo_5, lo_7, lo_9, lo_11, lo_13, lo_15, lo_17, lo_19, lo_21, lo_24, lo_26, lo_28, lo_30, lo_32, lo_34, lo_36, lo_38, lo_40, lo_42, lo_44, lo_47, lo_49, lo_51, lo_54, lo_56, lo_58, lo_60, lo_63, lo_65, lo_67, lo_69, lo_72, lo_74, lo_76, lo_78, lo_80, lo_82, lo_84, lo_86, lo_88, lo_90, lo_93, lo_95, lo_97, lo_99, lo_101, lo_103, lo_105, lo_107, lo_109, lo_111, lo_114, lo_116, lo_118, lo_120, lo_122, lo_124, lo_126, lo_128, lo_130, lo_132, lo_135, lo_137, lo_139, lo_141, lo_143, lo_145, lo_147, lo_149, lo_151, lo_153, lo_156, lo_159, lo_161, lo_163, lo_165, lo_167, lo_169, lo_171, lo_173, lo_175, lo_177, lo_179, lo_181, lo_183, lo_184, lo_185, lo_186, lo_187, lo_188, lo_189, lo_190, lo_191, lo_192, lo_193, lo_194, lo_195, lo_196, lo_197, lo_198, lo_199, lo_200, lo_201, lo_202, lo_203, jp_nn, jp_eq, jp_e1, Classical.not_not, ji0, ji1, ji2, cs13_54, kk_54, cs13_55, kk_55, cs13_68, kk_68, cs13_69, kk_69, cs13_70, kk_70, cs13_71, kk_71, cs13_72, kk_72, cs13_73, kk_73, cs13_74, kk_74, cs13_75, kk_75, cs13_186, kk_186, cs13_187, kk_187, cs13_188, kk_188, cs13_189, kk_189, cs13_191, kk_191, cs13_192, kk_192, cs13_193, kk_193, cs13_198, kk_198, cs13_207, kk_207, cs13_195, kk_195, cs13_196, kk_196, cs13_201, kk_201, cs13_203, kk_203, cs13_204, kk_204, cs13_194, kk_194, cs13_197, kk_197, cs13_200, kk_200, cs13_202, kk_202, cs13_205, kk_205, cs13_208, kk_208, cs13_209, kk_209, cs13_211, kk_211, cs13_216, kk_216, cs13_217, kk_217, cs13_218, kk_218, cs13_219, kk_219, cs13_220, kk_220, cs13_221, kk_221, cs13_210, kk_210, cs13_212, kk_212, cs13_213, kk_213, cs13_190, kk_190, cs13_199, kk_199, cs13_225, kk_225, cs13_226, kk_226, cs13_227, kk_227, cs13_228, kk_228, cs13_240, kk_240, cs13_241, kk_241, cs13_206, kk_206, cs13_333, kk_333, cs13_67, kk_67, cs13_65, kk_65, cs13_66, kk_66, cs13_64, kk_64, cs13_63, kk_63, cs13_77, kk_77, cs13_76, kk_76, cs13_133, kk_133, cs13_134, kk_134, cs13_135, kk_135, cs13_136, kk_136, cs13_138, kk_138, cs13_139, kk_139, cs13_105, kk_105, cs13_102, kk_102, cs13_103, kk_103, cs13_104, kk_104, cs13_106, kk_106, cs13_140, kk_140, cs13_137, kk_137, cs13_127, kk_127, cs13_56, kk_56, cs13_57, kk_57, cs13_79, kk_79, cs13_101, kk_101, cs13_96, kk_96, cs13_99, kk_99, jl_0, jl_1, jl_2, jl_3, jl_4, jl_5, jl_6, jl_7, jl_8, jl_9, jl_10, jl_11, jl_12, jl_13, jl_14, jl_15, jl_16, jl_17, jl_18, jl_19, jl_20, jl_21, jl_22, jl_23, jl_24, jl_25, jl_26, jl_27, jl_28, jl_29, jl_30, jl_31, jl_32, jl_33, jl_34, jl_35, jl_36, jl_37, jl_38, jl_39, jl_40, jl_95, jl_96, jl_97, jl_98, jl_99, jl_100, jl_101, jl_102, jl_103, jl_104, jl_105, jl_106, jl_107, jl_108, jl_109, jl_110, jl_111, jl_112, jl_113, jl_114, jl_186, jl_1100, jr, ju, jpT, jpF, tnc, Nat.reduceEqDiff, reduceIte, and_false, false_and, not_true_eq_false, not_false_eq_true, or_false, gt_iff_lt, ge_iff_le, Int.lt_irrefl, Int.le_refl, c2, ek, ef]
    refine ⟨Or.inr rfl, 4 + D.2.2.2.1.length, rfl, by omega, hQ _ ((FP.up (by omega)).tr (FP.up (by omega))) ?_⟩
    have e0 : ∀ o k : Nat, ¬ (o = 30 ∧ k = 4 + D.2.2.2.1.length) → ¬ (o = 29 ∧ k = 11) → j_up (j_up h 30 (4 + D.2.2.2.1.length) (c5 9 u)) 29 11 ((D.2.2.2.1.length + 1 : Nat) : Int) o k = h o k := fun o k a b => by rw [up_ne b, up_ne a]
    have el : (D.2.2.2.1 ++ [u]).length = D.2.2.2.1.length + 1 := by simp
    refine ⟨⟨⟨(e0 _ _ (by omega) (by omega)).trans c1_w, ?_, (e0 _ _ (by omega) (by omega)).trans c3, l1, ?_, l3⟩, fun k v z => ?_, fun k v z => ?_, fun k v z => ?_, ?_⟩, ⟨(e0 _ _ (by omega) (by omega)).trans d1_w.1, d1_w.2⟩, fun q z => (e0 _ _ (by omega) (by omega)).trans (d2_w q z), d3_w.fr (fun k => e0 _ _ (by omega) (by omega)) (fun k => e0 _ _ (by omega) (by omega)), d4_w.fr (fun k => e0 _ _ (by omega) (by omega)) (fun k => e0 _ _ (by omega) (by omega)) (fun k => e0 _ _ (by omega) (by omega)) (fun k => e0 _ _ (by omega) (by omega)), d5.fr (e0 _ _ (by omega) (by omega)) (fun k => e0 _ _ (by omega) (by omega))⟩
    · show j_up _ 29 11 _ 29 11 = (((D.2.2.2.1 ++ [u]).length : Nat) : Int)
      rw [up_eq, el]
    · show (D.2.2.2.1 ++ [u]).length ≤ 4
      rw [el]
      omega
    · have hk : k < D.2.2.1.length := by
        have := lt_of_some z
        rw [lenM.1] at this
        exact this
      exact ⟨(e0 _ _ (by omega) (by omega)).trans (r1_w k v z).1, (r1_w k v z).2⟩
    · have hk := lt_of_some z
      rw [el] at hk
      by_cases yk : k = D.2.2.2.1.length
      · subst yk
        have z' : u = v := by simpa using z
        subst z'
        refine ⟨?_, hu⟩
        show j_up (j_up h 30 (4 + D.2.2.2.1.length) (c5 9 u)) 29 11 _ 30 (4 + D.2.2.2.1.length) = _
        rw [up_ne (fun z => absurd z.1 (by decide)), up_eq]
      · rw [List.getElem?_append_left (by omega)] at z
        exact ⟨(e0 _ _ (by omega) (by omega)).trans (r2 k v z).1, (r2 k v z).2⟩
    · exact ⟨(e0 _ _ (by omega) (by omega)).trans (r3 k v z).1, (r3 k v z).2⟩
    · show (D.2.2.1.map (·.1) ++ ((D.2.2.2.1 ++ [u]) ++ D.2.2.2.2.1.map (·.1))).Nodup
      unfold tolds at nw nd
      rw [← List.append_assoc] at nw nd
      rw [List.append_assoc, ← List.append_assoc]
      exact nd_ins nd nw
  · exact hQ.elim
theorem snd_13 {xs : Nat → Int} {L K : Nat} : ∀ n, SndC CS13 (evF xs L g_ck K g_cW g_M n) := snd_all snd_12 (fun f av h Q hQ => by
  unfold CS13 at hQ
  split at hQ
  · exact Or.inr m_96
  · exact Or.inr m_99
  · exact Or.inl hQ)

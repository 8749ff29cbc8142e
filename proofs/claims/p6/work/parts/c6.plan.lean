/-! ===== contracts: the class's plan takes_w a meter, a class ===== -/
def k100 : KT := fun av h Q => match av with
  | [p, w, kd, g, sp_w] => p = 29 ∧ ∃ (D : DD) (u : Int) (gn : Nat), CD 29 D h ∧ D.2.2.2.2.1.length < 6 ∧ w = c5 9 u ∧ IsW u ∧ ¬ u ∈ tolds D ∧ g = (gn : Int) ∧ gn < 4 ∧ ∀ h', FP h h' → CD 29 (D.1, D.2.1, D.2.2.1, D.2.2.2.1, D.2.2.2.2.1 ++ [(u, kd, g, sp_w)], D.2.2.2.2.2) h' → Q 1 [] h'
  | _ => False
def k98 : KT := fun av h Q => match av with
  | [p, w, ls, r, n] => p = 29 ∧ r = 4 ∧ ∃ (D : DD) (u : Int) (l : List Int), CD 29 D h ∧ D.2.2.1.length < 4 ∧ w = c5 9 u ∧ IsW u ∧ ¬ u ∈ tolds D ∧ n = (l.length : Int) ∧ 1 ≤ l.length ∧ l.length ≤ 12 ∧ (∀ k v, l[k]? = some v → h 5 k = v ∧ 0 ≤ v ∧ v ≤ 99) ∧ ∀ h', FP h h' → CD 29 (D.1, D.2.1, D.2.2.1 ++ [(u, ls, l)], D.2.2.2) h' → Q 1 [] h'
  | _ => False
section KKC6
variable {h h1 h2 h' : XH} {Q : Nat → List Int → XH → Prop} {p w kd g sp_w ls n : Int}
theorem kk_100 : k100 [29, w, kd, g, sp_w] h Q = ∃ (D : DD) (u : Int) (gn : Nat), CD 29 D h ∧ D.2.2.2.2.1.length < 6 ∧ w = c5 9 u ∧ IsW u ∧ ¬ u ∈ tolds D ∧ g = (gn : Int) ∧ gn < 4 ∧ ∀ h', FP h h' → CD 29 (D.1, D.2.1, D.2.2.1, D.2.2.2.1, D.2.2.2.2.1 ++ [(u, kd, g, sp_w)], D.2.2.2.2.2) h' → Q 1 [] h' := propext ⟨fun a => a.2, fun a => ⟨rfl, a⟩⟩
theorem kk_98 : k98 [29, w, ls, 4, n] h Q = ∃ (D : DD) (u : Int) (l : List Int), CD 29 D h ∧ D.2.2.1.length < 4 ∧ w = c5 9 u ∧ IsW u ∧ ¬ u ∈ tolds D ∧ n = (l.length : Int) ∧ 1 ≤ l.length ∧ l.length ≤ 12 ∧ (∀ k v, l[k]? = some v → h 5 k = v ∧ 0 ≤ v ∧ v ≤ 99) ∧ ∀ h', FP h h' → CD 29 (D.1, D.2.1, D.2.2.1 ++ [(u, ls, l)], D.2.2.2) h' → Q 1 [] h' := propext ⟨fun a => a.2.2, fun a => ⟨rfl, rfl, a⟩⟩
theorem rs_in {o c n : Nat} {k : Nat} {v : Int} (e1_w : rfO (o : Int) 0 = (c : Int)) (e2_w : lnO (c : Int) = (n : Int)) (hk : k < n) : rs h (o : Int) (k : Int) v = j_up h c k v := by
  unfold rs
  rw [e1_w, e2_w, if_pos (by omega)]
  rfl
theorem rg_in {o c n : Nat} {k : Nat} (e1_w : rfO (o : Int) 0 = (c : Int)) (e2_w : lnO (c : Int) = (n : Int)) (hk : k < n) : rg h (o : Int) (k : Int) = h c k := by
  unfold rg
  rw [e1_w, e2_w, if_pos (by omega)]
  rfl
theorem jd1 {a b : Nat} : j_div 1 (a : Int) (b : Int) = ((a % b : Nat) : Int) := rfl
theorem mbs_app {l : List (Int × Int × Int × Int)} {x : Int × Int × Int × Int} {c : Int} : mbs (l ++ [x]) c = if x.2.2.1 = c then mbs l c + 1 else mbs l c := by
  unfold mbs
  rw [List.filter_append]
  by_cases y : x.2.2.1 = c
  · rw [if_pos y, List.filter_cons_of_pos (by exact decide_eq_true y)]
    simp
  · rw [if_neg y, List.filter_cons_of_neg (by rw [decide_eq_false y]; decide)]
    simp
theorem mbs_le {l : List (Int × Int × Int × Int)} {c : Int} : 0 ≤ mbs l c ∧ mbs l c ≤ (l.length : Int) := by
  unfold mbs
  have := List.length_filter_le (fun x : Int × Int × Int × Int => decide (x.2.2.1 = c)) l
  omega
theorem upT_le {l : List Int} (hl : ∀ (k : Nat) (v : Int), l[k]? = some v → 0 ≤ v ∧ v ≤ 99) : ∀ k, 0 ≤ upT l k ∧ upT l k ≤ 99 * (k : Int)
  | 0 => ⟨Int.le_refl _, Int.le_refl _⟩
  | k + 1 => by
    have a := upT_le hl k
    rw [upT]
    have b : 0 ≤ l.getD (k % l.length) 0 ∧ l.getD (k % l.length) 0 ≤ 99 := by
      rw [List.getD_eq_getElem?_getD]
      cases e : l[k % l.length]? with
      | none => decide
      | some v => exact hl _ v e
    omega
end KKC6
def CS14 : CSt := fun f => match f with
  | 100 => k100
  | 98 => k98
  | _ => CS13 f
theorem cs14_54 {av : List Int} {h : XH} {Q : Nat → List Int → XH → Prop} : CS14 54 av h Q = k54 av h Q := id rfl
theorem cs14_55 {av : List Int} {h : XH} {Q : Nat → List Int → XH → Prop} : CS14 55 av h Q = k55 av h Q := id rfl
theorem cs14_68 {av : List Int} {h : XH} {Q : Nat → List Int → XH → Prop} : CS14 68 av h Q = k68 av h Q := id rfl
theorem cs14_69 {av : List Int} {h : XH} {Q : Nat → List Int → XH → Prop} : CS14 69 av h Q = k69 av h Q := id rfl
theorem cs14_70 {av : List Int} {h : XH} {Q : Nat → List Int → XH → Prop} : CS14 70 av h Q = k70 av h Q := id rfl
theorem cs14_71 {av : List Int} {h : XH} {Q : Nat → List Int → XH → Prop} : CS14 71 av h Q = k71 av h Q := id rfl
theorem cs14_72 {av : List Int} {h : XH} {Q : Nat → List Int → XH → Prop} : CS14 72 av h Q = k72 av h Q := id rfl
theorem cs14_73 {av : List Int} {h : XH} {Q : Nat → List Int → XH → Prop} : CS14 73 av h Q = k73 av h Q := id rfl
theorem cs14_74 {av : List Int} {h : XH} {Q : Nat → List Int → XH → Prop} : CS14 74 av h Q = k74 av h Q := id rfl
theorem cs14_75 {av : List Int} {h : XH} {Q : Nat → List Int → XH → Prop} : CS14 75 av h Q = k75 av h Q := id rfl
theorem cs14_186 {av : List Int} {h : XH} {Q : Nat → List Int → XH → Prop} : CS14 186 av h Q = k186 av h Q := id rfl
theorem cs14_187 {av : List Int} {h : XH} {Q : Nat → List Int → XH → Prop} : CS14 187 av h Q = k187 av h Q := id rfl
theorem cs14_188 {av : List Int} {h : XH} {Q : Nat → List Int → XH → Prop} : CS14 188 av h Q = k188 av h Q := id rfl
theorem cs14_189 {av : List Int} {h : XH} {Q : Nat → List Int → XH → Prop} : CS14 189 av h Q = k189 av h Q := id rfl
theorem cs14_191 {av : List Int} {h : XH} {Q : Nat → List Int → XH → Prop} : CS14 191 av h Q = k191 av h Q := id rfl
theorem cs14_192 {av : List Int} {h : XH} {Q : Nat → List Int → XH → Prop} : CS14 192 av h Q = k192 av h Q := id rfl
theorem cs14_193 {av : List Int} {h : XH} {Q : Nat → List Int → XH → Prop} : CS14 193 av h Q = k193 av h Q := id rfl
theorem cs14_198 {av : List Int} {h : XH} {Q : Nat → List Int → XH → Prop} : CS14 198 av h Q = k198 av h Q := id rfl
theorem cs14_207 {av : List Int} {h : XH} {Q : Nat → List Int → XH → Prop} : CS14 207 av h Q = k207 av h Q := id rfl
theorem cs14_195 {av : List Int} {h : XH} {Q : Nat → List Int → XH → Prop} : CS14 195 av h Q = k195 av h Q := id rfl
theorem cs14_196 {av : List Int} {h : XH} {Q : Nat → List Int → XH → Prop} : CS14 196 av h Q = k196 av h Q := id rfl
theorem cs14_201 {av : List Int} {h : XH} {Q : Nat → List Int → XH → Prop} : CS14 201 av h Q = k201 av h Q := id rfl
theorem cs14_203 {av : List Int} {h : XH} {Q : Nat → List Int → XH → Prop} : CS14 203 av h Q = k203 av h Q := id rfl
theorem cs14_204 {av : List Int} {h : XH} {Q : Nat → List Int → XH → Prop} : CS14 204 av h Q = k204 av h Q := id rfl
theorem cs14_194 {av : List Int} {h : XH} {Q : Nat → List Int → XH → Prop} : CS14 194 av h Q = k194 av h Q := id rfl
theorem cs14_197 {av : List Int} {h : XH} {Q : Nat → List Int → XH → Prop} : CS14 197 av h Q = k197 av h Q := id rfl
theorem cs14_200 {av : List Int} {h : XH} {Q : Nat → List Int → XH → Prop} : CS14 200 av h Q = k200 av h Q := id rfl
theorem cs14_202 {av : List Int} {h : XH} {Q : Nat → List Int → XH → Prop} : CS14 202 av h Q = k202 av h Q := id rfl
theorem cs14_205 {av : List Int} {h : XH} {Q : Nat → List Int → XH → Prop} : CS14 205 av h Q = k205 av h Q := id rfl
theorem cs14_208 {av : List Int} {h : XH} {Q : Nat → List Int → XH → Prop} : CS14 208 av h Q = k208 av h Q := id rfl
theorem cs14_209 {av : List Int} {h : XH} {Q : Nat → List Int → XH → Prop} : CS14 209 av h Q = k209 av h Q := id rfl
theorem cs14_211 {av : List Int} {h : XH} {Q : Nat → List Int → XH → Prop} : CS14 211 av h Q = k211 av h Q := id rfl
theorem cs14_216 {av : List Int} {h : XH} {Q : Nat → List Int → XH → Prop} : CS14 216 av h Q = k216 av h Q := id rfl
theorem cs14_217 {av : List Int} {h : XH} {Q : Nat → List Int → XH → Prop} : CS14 217 av h Q = k217 av h Q := id rfl
theorem cs14_218 {av : List Int} {h : XH} {Q : Nat → List Int → XH → Prop} : CS14 218 av h Q = k218 av h Q := id rfl
theorem cs14_219 {av : List Int} {h : XH} {Q : Nat → List Int → XH → Prop} : CS14 219 av h Q = k219 av h Q := id rfl
theorem cs14_220 {av : List Int} {h : XH} {Q : Nat → List Int → XH → Prop} : CS14 220 av h Q = k220 av h Q := id rfl
theorem cs14_221 {av : List Int} {h : XH} {Q : Nat → List Int → XH → Prop} : CS14 221 av h Q = k221 av h Q := id rfl
theorem cs14_210 {av : List Int} {h : XH} {Q : Nat → List Int → XH → Prop} : CS14 210 av h Q = k210 av h Q := id rfl
theorem cs14_212 {av : List Int} {h : XH} {Q : Nat → List Int → XH → Prop} : CS14 212 av h Q = k212 av h Q := id rfl
theorem cs14_213 {av : List Int} {h : XH} {Q : Nat → List Int → XH → Prop} : CS14 213 av h Q = k213 av h Q := id rfl
theorem cs14_190 {av : List Int} {h : XH} {Q : Nat → List Int → XH → Prop} : CS14 190 av h Q = k190 av h Q := id rfl
theorem cs14_199 {av : List Int} {h : XH} {Q : Nat → List Int → XH → Prop} : CS14 199 av h Q = k199 av h Q := id rfl
theorem cs14_225 {av : List Int} {h : XH} {Q : Nat → List Int → XH → Prop} : CS14 225 av h Q = k225 av h Q := id rfl
theorem cs14_226 {av : List Int} {h : XH} {Q : Nat → List Int → XH → Prop} : CS14 226 av h Q = k226 av h Q := id rfl
theorem cs14_227 {av : List Int} {h : XH} {Q : Nat → List Int → XH → Prop} : CS14 227 av h Q = k227 av h Q := id rfl
theorem cs14_228 {av : List Int} {h : XH} {Q : Nat → List Int → XH → Prop} : CS14 228 av h Q = k228 av h Q := id rfl
theorem cs14_240 {av : List Int} {h : XH} {Q : Nat → List Int → XH → Prop} : CS14 240 av h Q = k240 av h Q := id rfl
theorem cs14_241 {av : List Int} {h : XH} {Q : Nat → List Int → XH → Prop} : CS14 241 av h Q = k241 av h Q := id rfl
theorem cs14_206 {av : List Int} {h : XH} {Q : Nat → List Int → XH → Prop} : CS14 206 av h Q = k206 av h Q := id rfl
theorem cs14_333 {av : List Int} {h : XH} {Q : Nat → List Int → XH → Prop} : CS14 333 av h Q = k333 av h Q := id rfl
theorem cs14_67 {av : List Int} {h : XH} {Q : Nat → List Int → XH → Prop} : CS14 67 av h Q = k67 av h Q := id rfl
theorem cs14_65 {av : List Int} {h : XH} {Q : Nat → List Int → XH → Prop} : CS14 65 av h Q = k65 av h Q := id rfl
theorem cs14_66 {av : List Int} {h : XH} {Q : Nat → List Int → XH → Prop} : CS14 66 av h Q = k66 av h Q := id rfl
theorem cs14_64 {av : List Int} {h : XH} {Q : Nat → List Int → XH → Prop} : CS14 64 av h Q = k64 av h Q := id rfl
theorem cs14_63 {av : List Int} {h : XH} {Q : Nat → List Int → XH → Prop} : CS14 63 av h Q = k63 av h Q := id rfl
theorem cs14_77 {av : List Int} {h : XH} {Q : Nat → List Int → XH → Prop} : CS14 77 av h Q = k77 av h Q := id rfl
theorem cs14_76 {av : List Int} {h : XH} {Q : Nat → List Int → XH → Prop} : CS14 76 av h Q = k76 av h Q := id rfl
theorem cs14_133 {av : List Int} {h : XH} {Q : Nat → List Int → XH → Prop} : CS14 133 av h Q = k133 av h Q := id rfl
theorem cs14_134 {av : List Int} {h : XH} {Q : Nat → List Int → XH → Prop} : CS14 134 av h Q = k134 av h Q := id rfl
theorem cs14_135 {av : List Int} {h : XH} {Q : Nat → List Int → XH → Prop} : CS14 135 av h Q = k135 av h Q := id rfl
theorem cs14_136 {av : List Int} {h : XH} {Q : Nat → List Int → XH → Prop} : CS14 136 av h Q = k136 av h Q := id rfl
theorem cs14_138 {av : List Int} {h : XH} {Q : Nat → List Int → XH → Prop} : CS14 138 av h Q = k138 av h Q := id rfl
theorem cs14_139 {av : List Int} {h : XH} {Q : Nat → List Int → XH → Prop} : CS14 139 av h Q = k139 av h Q := id rfl
theorem cs14_105 {av : List Int} {h : XH} {Q : Nat → List Int → XH → Prop} : CS14 105 av h Q = k105 av h Q := id rfl
theorem cs14_102 {av : List Int} {h : XH} {Q : Nat → List Int → XH → Prop} : CS14 102 av h Q = k102 av h Q := id rfl
theorem cs14_103 {av : List Int} {h : XH} {Q : Nat → List Int → XH → Prop} : CS14 103 av h Q = k103 av h Q := id rfl
theorem cs14_104 {av : List Int} {h : XH} {Q : Nat → List Int → XH → Prop} : CS14 104 av h Q = k104 av h Q := id rfl
theorem cs14_106 {av : List Int} {h : XH} {Q : Nat → List Int → XH → Prop} : CS14 106 av h Q = k106 av h Q := id rfl
theorem cs14_140 {av : List Int} {h : XH} {Q : Nat → List Int → XH → Prop} : CS14 140 av h Q = k140 av h Q := id rfl
theorem cs14_137 {av : List Int} {h : XH} {Q : Nat → List Int → XH → Prop} : CS14 137 av h Q = k137 av h Q := id rfl
theorem cs14_127 {av : List Int} {h : XH} {Q : Nat → List Int → XH → Prop} : CS14 127 av h Q = k127 av h Q := id rfl
theorem cs14_56 {av : List Int} {h : XH} {Q : Nat → List Int → XH → Prop} : CS14 56 av h Q = k56 av h Q := id rfl
theorem cs14_57 {av : List Int} {h : XH} {Q : Nat → List Int → XH → Prop} : CS14 57 av h Q = k57 av h Q := id rfl
theorem cs14_79 {av : List Int} {h : XH} {Q : Nat → List Int → XH → Prop} : CS14 79 av h Q = k79 av h Q := id rfl
theorem cs14_101 {av : List Int} {h : XH} {Q : Nat → List Int → XH → Prop} : CS14 101 av h Q = k101 av h Q := id rfl
theorem cs14_96 {av : List Int} {h : XH} {Q : Nat → List Int → XH → Prop} : CS14 96 av h Q = k96 av h Q := id rfl
theorem cs14_99 {av : List Int} {h : XH} {Q : Nat → List Int → XH → Prop} : CS14 99 av h Q = k99c av h Q := id rfl
theorem cs14_100 {av : List Int} {h : XH} {Q : Nat → List Int → XH → Prop} : CS14 100 av h Q = k100 av h Q := id rfl
theorem cs14_98 {av : List Int} {h : XH} {Q : Nat → List Int → XH → Prop} : CS14 98 av h Q = k98 av h Q := id rfl
theorem m_100 : BodyOK CS14 CS14 100 := fun av h Q hQ => by
  rw [cs14_100] at hQ
  unfold k100 at hQ
  split at hQ
  · rename_i p w kd g sp_w
    obtain ⟨rfl, D, u, gn, cd, ln, rfl, hu, nw, rfl, hg, hQ⟩ := hQ
    obtain ⟨⟨⟨c1_w, c2, c3, l1, l2, l3⟩, r1_w, r2, r3, nd⟩, d1_w, d2_w, d3_w, d4_w, d5⟩ := id cd
    have ek : j32 ((D.2.2.2.2.1.length : Int) + 1) = ((D.2.2.2.2.1.length + 1 : Nat) : Int) := by
      rw [j32_id (by omega) (by omega)]
      omega
    have ef : j32 (8 + (D.2.2.2.2.1.length : Int)) = ((8 + D.2.2.2.2.1.length : Nat) : Int) := by
      rw [j32_id (by omega) (by omega)]
      omega
    have s1_w : ∀ {h : XH} {v : Int}, rs h 39 (D.2.2.2.2.1.length : Int) v = j_up h 40 D.2.2.2.2.1.length v := fun {h v} => rs_in (o := 39) ro_39_0 lo_40 ln
    have s2_w : ∀ {h : XH} {v : Int}, rs h 41 (D.2.2.2.2.1.length : Int) v = j_up h 42 D.2.2.2.2.1.length v := fun {h v} => rs_in (o := 41) ro_41_0 lo_42 ln
    have s3_w : ∀ {h : XH} {v : Int}, rs h 43 (D.2.2.2.2.1.length : Int) v = j_up h 44 D.2.2.2.2.1.length v := fun {h v} => rs_in (o := 43) ro_43_0 lo_44 ln
    have y4 : (0 : Int) ≤ (gn : Int) ∧ (gn : Int) < 4 := by omega
    show pS CS14 bb_100 [29, c5 9 u, 0, kd, (gn : Int), sp_w] h _
    unfold bb_100
    simp only [qe_1, qe_3, qe_4, qe_5, qe_7, qe_72, qe_10, qe_102, qe_13, qe_14, qe_15, qe_16, qe_17, qe_18, qe_20, qe_22, qe_23, qe_21, qe_24, qe_25, qe_26, qe_27, qe_28, qe_30, qe_31, qe_32, qc_20, qc_22, qc_23, qc_21, qc_24, qc_25, qc_26, qc_27, qc_1, qc_3, qc_4, qc_7, qc_13, qc_28, qc_32, qs_1, qs_2, qs_3, qs_4, qs_5, qs_6, qs_9, qs_10, qs_11, qs_14, qs_15, qs_16, qs_27, qs_17, qs_18, qs_19, qs_20, qs_22, qs_23, qs_28, qs_25, qs_26, qs_7, qs_8, kc_1, kn_1, kc_2, kn_2, kc_3, kn_3, kc_4, kn_4, kc_5, kn_5, kc_6, kn_6, kc_7, kn_7, kc_8, kn_8, kc_9, kn_9, kc_10, kn_10, kc_11, kn_11, kc_12, kn_12, kc_13, kn_13, kc_14, kn_14, kc_15, kn_15, kc_16, kc_17, kc_18, kc_19, kc_20, kc_21, kc_22, kc_23, kc_30, kc_32, kc_40, kc_43, kc_45, kc_48, kc_52, kc_56, kc_57, kc_59, kc_60, kc_61, kc_63, kc_64, kc_72, kc_78, kc_97, kc_99, kc_122, kc_126, kc_128, kc_192, kc_200, kc_255, kc_999, kc_1000, kc_9999, kn_9999, kc_10000, kc_12345, kc_65536, kc_252645135, kc_858993459, kc_1103515245, kc_1431655765, kc_2147483647, kc_0, kc_24, kc_28, kc_37, kc_41, kc_42, kc_73, kc_91, kc_95, kc_96, kc_98, kc_100, kc_112, kc_125, kc_150, kc_162, kc_163, kc_168, kc_186, kc_190, kc_250, kc_355, kc_356, kc_404, kc_405, kc_429, kc_573, kc_1002, kc_1100, kc_1891, kc_2200, kc_4719, kc_4869, kc_4881, kc_5148, kc_19741, kc_25433, kc_320403, kc_628412, kc_629093, kc_660401, kc_679843, kc_918640, kc_979410, kc_1178088, kc_6232410, kc_24644941, kc_36238189, kc_38270444, kc_392531318, kc_425693491, kc_1342154595, kc_2147483648, kc_42328242873, kc_891704255789, kc_1722105685577, kc_1858726030364, ct_0, ct_1, ct_2, ct_3, ct_4, ct_5, cf_0, cf_1, cf_2, cf_3, cf_4, cf_5, w_ty6, w_ty7, m_sv, m_z0, m_hd, m_g0, m_gs, m_s0, m_ss, m_ap, m_an, forall_const, true_and, and_true, ne_eq, not_true_eq_false, not_false_eq_true, false_implies, true_implies, implies_true, eq_self, reduceCtorEq, Nat.reduceDiv, Nat.reduceMod, Int.reduceToNat, or_true, true_or, or_false, false_or, or_self, m_it, m_if, m_c1, m_01, m_02, m_03, m_04, m_10, m_12, m_13, m_14, m_20, m_21, m_23, m_24, m_30, m_31, m_32, m_34, m_40, m_41, m_42, m_43, Int.reduceLE, Int.reduceLT, Int.reduceGE, Int.reduceGT, Int.reduceNeg, Int.reduceAdd, Int.reduceSub, Int.reduceMul, Int.reduceEq, Int.reduceNe, Nat.reduceAdd, jun2, ro_0_0, ro_0_1, ro_0_2, ro_0_3, ro_0_4, ro_0_5, ro_0_6, ro_0_7, ro_0_8, ro_0_9, ro_0_10, ro_0_11, ro_0_12, ro_1_0, ro_1_1, ro_2_0, ro_4_0, ro_6_0, ro_6_1, ro_6_2, ro_6_3, ro_6_4, ro_6_5, ro_6_6, ro_6_7, ro_6_8, ro_8_0, ro_10_0, ro_12_0, ro_14_0, ro_16_0, ro_18_0, ro_20_0, ro_22_0, ro_22_1, ro_22_2, ro_23_0, ro_25_0, ro_27_0, ro_29_0, ro_29_1, ro_29_2, ro_29_3, ro_29_4, ro_29_5, ro_29_6, ro_29_7, ro_29_8, ro_31_0, ro_33_0, ro_35_0, ro_37_0, ro_39_0, ro_41_0, ro_43_0, ro_45_0, ro_45_1, ro_45_2, ro_46_0, ro_48_0, ro_50_0, ro_52_0, ro_52_1, ro_52_2, ro_52_3, ro_53_0, ro_55_0, ro_57_0, ro_59_0, ro_61_0, ro_61_1, ro_61_2, ro_61_3, ro_62_0, ro_64_0, ro_66_0, ro_68_0, ro_70_0, ro_70_1, ro_70_2, ro_70_3, ro_70_4, ro_70_5, ro_70_6, ro_70_7, ro_70_8, ro_70_9, ro_71_0, ro_73_0, ro_75_0, ro_77_0, ro_79_0, ro_81_0, ro_83_0, ro_85_0, ro_87_0, ro_89_0, ro_91_0, ro_91_1, ro_91_2, ro_91_3, ro_91_4, ro_91_5, ro_91_6, ro_91_7, ro_91_8, ro_91_9, ro_92_0, ro_94_0, ro_96_0, ro_98_0, ro_100_0, ro_102_0, ro_104_0, ro_106_0, ro_108_0, ro_110_0, ro_112_0, ro_112_1, ro_112_2, ro_112_3, ro_112_4, ro_112_5, ro_112_6, ro_112_7, ro_112_8, ro_112_9, ro_113_0, ro_115_0, ro_117_0, ro_119_0, ro_121_0, ro_123_0, ro_125_0, ro_127_0, ro_129_0, ro_131_0, ro_133_0, ro_133_1, ro_133_2, ro_133_3, ro_133_4, ro_133_5, ro_133_6, ro_133_7, ro_133_8, ro_133_9, ro_134_0, ro_136_0, ro_138_0, ro_140_0, ro_142_0, ro_144_0, ro_146_0, ro_148_0, ro_150_0, ro_152_0, ro_154_0, ro_155_0, ro_157_0, ro_157_1, ro_157_2, ro_157_3, ro_157_4, ro_157_5, ro_157_6, ro_157_7, ro_157_8, ro_157_9, ro_158_0, ro_160_0, ro_162_0, ro_164_0, ro_166_0, ro_168_0, ro_170_0, ro_172_0, ro_174_0, ro_176_0, ro_178_0, ro_180_0, ro_182_1, ro_182_4, ro_182_5, ro_182_6, ro_182_9, ro_182_10, ro_182_11, ro_182_13, ro_182_14, ro_182_15, ro_182_16, ro_182_17, ro_182_20, ro_182_21, ro_182_22, ro_182_23, ro_182_24, ro_182_26, ro_182_27, ro_182_28, lo_3, lo_5, lo_7, lo_9, lo_11, lo_13, lo_15, lo_17, lo_19, lo_21, lo_24, lo_26, lo_28, lo_30, lo_32, lo_34, lo_36, lo_38, lo_40, lo_42, lo_44, lo_47, lo_49, lo_51, lo_54, lo_56, lo_58, lo_60, lo_63, lo_65, lo_67, lo_69, lo_72, lo_74, lo_76, lo_78, lo_80, lo_82, lo_84, lo_86, lo_88, lo_90, lo_93, lo_95, lo_97, lo_99, lo_101, lo_103, lo_105, lo_107, lo_109, lo_111, lo_114, lo_116, lo_118, lo_120, lo_122, lo_124, lo_126, lo_128, lo_130, lo_132, lo_135, lo_137, lo_139, lo_141, lo_143, lo_145, lo_147, lo_149, lo_151, lo_153, lo_156, lo_159, lo_161, lo_163, lo_165, lo_167, lo_169, lo_171, lo_173, lo_175, lo_177, lo_179, lo_181, lo_183, lo_184, lo_185, lo_186, lo_187, lo_188, lo_189, lo_190, lo_191, lo_192, lo_193, lo_194, lo_195, lo_196, lo_197, lo_198, lo_199, lo_200, lo_201, lo_202, lo_203, jp_nn, jp_eq, jp_e1, Classical.not_not, ji0, ji1, ji2, cs14_54, kk_54, cs14_55, kk_55, cs14_68, kk_68, cs14_69, kk_69, cs14_70, kk_70, cs14_71, kk_71, cs14_72, kk_72, cs14_73, kk_73, cs14_74, kk_74, cs14_75, kk_75, cs14_186, kk_186, cs14_187, kk_187, cs14_188, kk_188, cs14_189, kk_189, cs14_191, kk_191, cs14_192, kk_192, cs14_193, kk_193, cs14_198, kk_198, cs14_207, kk_207, cs14_195, kk_195, cs14_196, kk_196, cs14_201, kk_201, cs14_203, kk_203, cs14_204, kk_204, cs14_194, kk_194, cs14_197, kk_197, cs14_200, kk_200, cs14_202, kk_202, cs14_205, kk_205, cs14_208, kk_208, cs14_209, kk_209, cs14_211, kk_211, cs14_216, kk_216, cs14_217, kk_217, cs14_218, kk_218, cs14_219, kk_219, cs14_220, kk_220, cs14_221, kk_221, cs14_210, kk_210, cs14_212, kk_212, cs14_213, kk_213, cs14_190, kk_190, cs14_199, kk_199, cs14_225, kk_225, cs14_226, kk_226, cs14_227, kk_227, cs14_228, kk_228, cs14_240, kk_240, cs14_241, kk_241, cs14_206, kk_206, cs14_333, kk_333, cs14_67, kk_67, cs14_65, kk_65, cs14_66, kk_66, cs14_64, kk_64, cs14_63, kk_63, cs14_77, kk_77, cs14_76, kk_76, cs14_133, kk_133, cs14_134, kk_134, cs14_135, kk_135, cs14_136, kk_136, cs14_138, kk_138, cs14_139, kk_139, cs14_105, kk_105, cs14_102, kk_102, cs14_103, kk_103, cs14_104, kk_104, cs14_106, kk_106, cs14_140, kk_140, cs14_137, kk_137, cs14_127, kk_127, cs14_56, kk_56, cs14_57, kk_57, cs14_79, kk_79, cs14_101, kk_101, cs14_96, kk_96, cs14_99, kk_99, cs14_100, kk_100, cs14_98, kk_98, jl_0, jl_1, jl_2, jl_3, jl_4, jl_5, jl_6, jl_7, jl_8, jl_9, jl_10, jl_11, jl_12, jl_13, jl_14, jl_15, jl_16, jl_17, jl_18, jl_19, jl_20, jl_21, jl_22, jl_23, jl_24, jl_25, jl_26, jl_27, jl_28, jl_29, jl_30, jl_31, jl_32, jl_33, jl_34, jl_35, jl_36, jl_37, jl_38, jl_39, jl_40, jl_95, jl_96, jl_97, jl_98, jl_99, jl_100, jl_101, jl_102, jl_103, jl_104, jl_105, jl_106, jl_107, jl_108, jl_109, jl_110, jl_111, jl_112, jl_113, jl_114, jl_186, jl_1100, jr, ju, jpT, jpF, tnc, Nat.reduceEqDiff, reduceIte, and_false, false_and, not_true_eq_false, not_false_eq_true, or_false, gt_iff_lt, ge_iff_le, Int.lt_irrefl, Int.le_refl, c3, ek, ef, s1_w, s2_w, s3_w, y4]
    refine ⟨Or.inr rfl, 8 + D.2.2.2.2.1.length, rfl, by omega, ?_⟩
    have mb : h 36 gn = mbs D.2.2.2.2.1 (gn : Int) := d4_w.2 gn hg
    have em : j32 (h 36 gn + 1) = mbs D.2.2.2.2.1 (gn : Int) + 1 := by
      have := mbs_le (l := D.2.2.2.2.1) (c := (gn : Int))
      rw [mb, j32_id (by omega) (by omega)]
    rw [em]
    generalize hnn_w : D.2.2.2.2.1.length = nn at ln l3 ⊢
    obtain ⟨H, eH⟩ : ∃ H, H = j_up (j_up (j_up (j_up (j_up (j_up h 30 (8 + nn) (c5 9 u)) 40 nn kd) 42 nn (gn : Int)) 44 nn sp_w) 36 gn (mbs D.2.2.2.2.1 (gn : Int) + 1)) 29 12 ((nn + 1 : Nat) : Int) := ⟨_, rfl⟩
    rw [← eH]
    have e0 : ∀ o k : Nat, ¬ (o = 30 ∧ k = 8 + nn) → ¬ (o = 40 ∧ k = nn) → ¬ (o = 42 ∧ k = nn) → ¬ (o = 44 ∧ k = nn) → ¬ (o = 36 ∧ k = gn) → ¬ (o = 29 ∧ k = 12) → H o k = h o k := fun o k a1_w a2 a3 a4 a5 a6 => by rw [eH, up_ne a6, up_ne a5, up_ne a4, up_ne a3, up_ne a2, up_ne a1_w]
    have v30 : H 30 (8 + nn) = c5 9 u := by rw [eH, up_ne (by omega), up_ne (by omega), up_ne (by omega), up_ne (by omega), up_ne (by omega), up_eq]
    have v40 : H 40 nn = kd := by rw [eH, up_ne (by omega), up_ne (by omega), up_ne (by omega), up_ne (by omega), up_eq]
    have v42 : H 42 nn = (gn : Int) := by rw [eH, up_ne (by omega), up_ne (by omega), up_ne (by omega), up_eq]
    have v44 : H 44 nn = sp_w := by rw [eH, up_ne (by omega), up_ne (by omega), up_eq]
    have v36 : H 36 gn = mbs D.2.2.2.2.1 (gn : Int) + 1 := by rw [eH, up_ne (by omega), up_eq]
    have v29 : H 29 12 = ((nn + 1 : Nat) : Int) := by rw [eH, up_eq]
    have el : (D.2.2.2.2.1 ++ [(u, kd, (gn : Int), sp_w)]).length = nn + 1 := by rw [← hnn_w]; simp
    refine hQ H (fun o k z => e0 o k (by omega) (by omega) (by omega) (by omega) (by omega) (by omega)) ?_
    clear hQ eH
    refine ⟨⟨⟨(e0 _ _ (by omega) (by omega) (by omega) (by omega) (by omega) (by omega)).trans c1_w, (e0 _ _ (by omega) (by omega) (by omega) (by omega) (by omega) (by omega)).trans c2, ?_, l1, l2, ?_⟩, fun k v z => ?_, fun k v z => ?_, fun k v z => ?_, ?_⟩, ⟨(e0 _ _ (by omega) (by omega) (by omega) (by omega) (by omega) (by omega)).trans d1_w.1, d1_w.2⟩, fun q z => (e0 _ _ (by omega) (by omega) (by omega) (by omega) (by omega) (by omega)).trans (d2_w q z), d3_w.fr (fun k => e0 _ _ (by omega) (by omega) (by omega) (by omega) (by omega) (by omega)) (fun k => e0 _ _ (by omega) (by omega) (by omega) (by omega) (by omega) (by omega)), ⟨fun m x z => ?_, fun c z => ?_⟩, d5.fr (e0 _ _ (by omega) (by omega) (by omega) (by omega) (by omega) (by omega)) (fun k => e0 _ _ (by omega) (by omega) (by omega) (by omega) (by omega) (by omega))⟩
    · show H 29 12 = (((D.2.2.2.2.1 ++ [(u, kd, (gn : Int), sp_w)]).length : Nat) : Int)
      rw [v29, el]
    · show (D.2.2.2.2.1 ++ [(u, kd, (gn : Int), sp_w)]).length ≤ 6
      rw [el]
      omega
    · have hk : k < D.2.2.1.length := by
        have := lt_of_some z
        rw [lenM.1] at this
        exact this
      exact ⟨(e0 _ _ (by omega) (by omega) (by omega) (by omega) (by omega) (by omega)).trans (r1_w k v z).1, (r1_w k v z).2⟩
    · have hk : k < D.2.2.2.1.length := lt_of_some z
      exact ⟨(e0 _ _ (by omega) (by omega) (by omega) (by omega) (by omega) (by omega)).trans (r2 k v z).1, (r2 k v z).2⟩
    · have z' : (D.2.2.2.2.1.map (·.1) ++ [u])[k]? = some v := by
        have e : (D.2.2.2.2.1 ++ [(u, kd, (gn : Int), sp_w)]).map (·.1) = D.2.2.2.2.1.map (·.1) ++ [u] := by simp
        rw [← e]
        exact z
      have hk := lt_of_some z'
      have lm : (D.2.2.2.2.1.map (·.1)).length = nn := lenM.2.trans hnn_w
      rw [List.length_append, lm] at hk
      simp at hk
      by_cases yk : k = nn
      · subst yk
        rw [List.getElem?_append_right (by omega), lm, Nat.sub_self] at z'
        have z2 : u = v := by simpa using z'
        subst z2
        exact ⟨v30, hu⟩
      · rw [List.getElem?_append_left (by omega)] at z'
        exact ⟨(e0 _ _ (by omega) (by omega) (by omega) (by omega) (by omega) (by omega)).trans (r3 k v z').1, (r3 k v z').2⟩
    · show (D.2.2.1.map (·.1) ++ (D.2.2.2.1 ++ (D.2.2.2.2.1 ++ [(u, kd, (gn : Int), sp_w)]).map (·.1))).Nodup
      unfold tolds at nw nd
      have e : D.2.2.1.map (·.1) ++ (D.2.2.2.1 ++ (D.2.2.2.2.1 ++ [(u, kd, (gn : Int), sp_w)]).map (·.1)) = (D.2.2.1.map (·.1) ++ (D.2.2.2.1 ++ D.2.2.2.2.1.map (·.1))) ++ u :: [] := by simp
      rw [e]
      refine nd_ins (by rw [List.append_nil]; exact nd) (by rw [List.append_nil]; exact nw)
    · have z' : (D.2.2.2.2.1 ++ [(u, kd, (gn : Int), sp_w)])[m]? = some x := z
      have hk := lt_of_some z'
      rw [el] at hk
      by_cases yk : m = nn
      · subst yk
        rw [List.getElem?_append_right (by omega), hnn_w, Nat.sub_self] at z'
        have z2 : (u, kd, (gn : Int), sp_w) = x := by simpa using z'
        subst z2
        exact ⟨v40, v42, v44⟩
      · rw [List.getElem?_append_left (by omega)] at z'
        have := d4_w.1 m x z'
        exact ⟨(e0 _ _ (by omega) (by omega) (by omega) (by omega) (by omega) (by omega)).trans this.1, (e0 _ _ (by omega) (by omega) (by omega) (by omega) (by omega) (by omega)).trans this.2.1, (e0 _ _ (by omega) (by omega) (by omega) (by omega) (by omega) (by omega)).trans this.2.2⟩
    · show H 36 c = mbs (D.2.2.2.2.1 ++ [(u, kd, (gn : Int), sp_w)]) (c : Int)
      rw [mbs_app]
      by_cases yc : c = gn
      · subst yc
        rw [if_pos rfl]
        exact v36
      · rw [if_neg (fun e => yc (by have : (gn : Int) = (c : Int) := e; omega))]
        exact (e0 _ _ (by omega) (by omega) (by omega) (by omega) (by omega) (by omega)).trans (d4_w.2 c z)
  · exact hQ.elim
theorem m_98 : BodyOK CS14 CS14 98 := fun av h Q hQ => by
  rw [cs14_98] at hQ
  unfold k98 at hQ
  split at hQ
  · rename_i p w ls r n
    obtain ⟨rfl, rfl, D, u, l, cd, ln, rfl, hu, nw, rfl, n1_w, n12, hl, hQ⟩ := hQ
    obtain ⟨⟨⟨c1_w, c2, c3, l1, l2, l3⟩, r1_w, r2, r3, nd⟩, d1_w, d2_w, d3_w, d4_w, d5⟩ := id cd
    have ek : j32 ((D.2.2.1.length : Int) + 1) = ((D.2.2.1.length + 1 : Nat) : Int) := by
      rw [j32_id (by omega) (by omega)]
      omega
    have ef : j32 (0 + (D.2.2.1.length : Int)) = ((D.2.2.1.length : Nat) : Int) := by
      rw [j32_id (by omega) (by omega)]
      omega
    have s1_w : ∀ {h : XH} {v : Int}, rs h 33 (D.2.2.1.length : Int) v = j_up h 34 D.2.2.1.length v := fun {h v} => rs_in (o := 33) ro_33_0 lo_34 ln
    show pS CS14 bb_98 [29, c5 9 u, 0, ls, 4, (l.length : Int), 0, 0] h _
    unfold bb_98
    simp only [qe_1, qe_3, qe_4, qe_5, qe_7, qe_72, qe_10, qe_102, qe_13, qe_14, qe_15, qe_16, qe_17, qe_18, qe_20, qe_22, qe_23, qe_21, qe_24, qe_25, qe_26, qe_27, qe_28, qe_30, qe_31, qe_32, qc_20, qc_22, qc_23, qc_21, qc_24, qc_25, qc_26, qc_27, qc_1, qc_3, qc_4, qc_7, qc_13, qc_28, qc_32, qs_1, qs_2, qs_3, qs_4, qs_5, qs_6, qs_9, qs_10, qs_11, qs_14, qs_15, qs_16, qs_27, qs_17, qs_18, qs_19, qs_20, qs_22, qs_23, qs_28, qs_25, qs_26, qs_7, qs_8, kc_1, kn_1, kc_2, kn_2, kc_3, kn_3, kc_4, kn_4, kc_5, kn_5, kc_6, kn_6, kc_7, kn_7, kc_8, kn_8, kc_9, kn_9, kc_10, kn_10, kc_11, kn_11, kc_12, kn_12, kc_13, kn_13, kc_14, kn_14, kc_15, kn_15, kc_16, kc_17, kc_18, kc_19, kc_20, kc_21, kc_22, kc_23, kc_30, kc_32, kc_40, kc_43, kc_45, kc_48, kc_52, kc_56, kc_57, kc_59, kc_60, kc_61, kc_63, kc_64, kc_72, kc_78, kc_97, kc_99, kc_122, kc_126, kc_128, kc_192, kc_200, kc_255, kc_999, kc_1000, kc_9999, kn_9999, kc_10000, kc_12345, kc_65536, kc_252645135, kc_858993459, kc_1103515245, kc_1431655765, kc_2147483647, kc_0, kc_24, kc_28, kc_37, kc_41, kc_42, kc_73, kc_91, kc_95, kc_96, kc_98, kc_100, kc_112, kc_125, kc_150, kc_162, kc_163, kc_168, kc_186, kc_190, kc_250, kc_355, kc_356, kc_404, kc_405, kc_429, kc_573, kc_1002, kc_1100, kc_1891, kc_2200, kc_4719, kc_4869, kc_4881, kc_5148, kc_19741, kc_25433, kc_320403, kc_628412, kc_629093, kc_660401, kc_679843, kc_918640, kc_979410, kc_1178088, kc_6232410, kc_24644941, kc_36238189, kc_38270444, kc_392531318, kc_425693491, kc_1342154595, kc_2147483648, kc_42328242873, kc_891704255789, kc_1722105685577, kc_1858726030364, ct_0, ct_1, ct_2, ct_3, ct_4, ct_5, cf_0, cf_1, cf_2, cf_3, cf_4, cf_5, w_ty6, w_ty7, m_sv, m_z0, m_hd, m_g0, m_gs, m_s0, m_ss, m_ap, m_an, forall_const, true_and, and_true, ne_eq, not_true_eq_false, not_false_eq_true, false_implies, true_implies, implies_true, eq_self, reduceCtorEq, Nat.reduceDiv, Nat.reduceMod, Int.reduceToNat, or_true, true_or, or_false, false_or, or_self, m_it, m_if, m_c1, m_01, m_02, m_03, m_04, m_10, m_12, m_13, m_14, m_20, m_21, m_23, m_24, m_30, m_31, m_32, m_34, m_40, m_41, m_42, m_43, Int.reduceLE, Int.reduceLT, Int.reduceGE, Int.reduceGT, Int.reduceNeg, Int.reduceAdd, Int.reduceSub, Int.reduceMul, Int.reduceEq, Int.reduceNe, Nat.reduceAdd, jun2, ro_0_0, ro_0_1, ro_0_2, ro_0_3, ro_0_4, ro_0_5, ro_0_6, ro_0_7, ro_0_8, ro_0_9, ro_0_10, ro_0_11, ro_0_12, ro_1_0, ro_1_1, ro_2_0, ro_4_0, ro_6_0, ro_6_1, ro_6_2, ro_6_3, ro_6_4, ro_6_5, ro_6_6, ro_6_7, ro_6_8, ro_8_0, ro_10_0, ro_12_0, ro_14_0, ro_16_0, ro_18_0, ro_20_0, ro_22_0, ro_22_1, ro_22_2, ro_23_0, ro_25_0, ro_27_0, ro_29_0, ro_29_1, ro_29_2, ro_29_3, ro_29_4, ro_29_5, ro_29_6, ro_29_7, ro_29_8, ro_31_0, ro_33_0, ro_35_0, ro_37_0, ro_39_0, ro_41_0, ro_43_0, ro_45_0, ro_45_1, ro_45_2, ro_46_0, ro_48_0, ro_50_0, ro_52_0, ro_52_1, ro_52_2, ro_52_3, ro_53_0, ro_55_0, ro_57_0, ro_59_0, ro_61_0, ro_61_1, ro_61_2, ro_61_3, ro_62_0, ro_64_0, ro_66_0, ro_68_0, ro_70_0, ro_70_1, ro_70_2, ro_70_3, ro_70_4, ro_70_5, ro_70_6, ro_70_7, ro_70_8, ro_70_9, ro_71_0, ro_73_0, ro_75_0, ro_77_0, ro_79_0, ro_81_0, ro_83_0, ro_85_0, ro_87_0, ro_89_0, ro_91_0, ro_91_1, ro_91_2, ro_91_3, ro_91_4, ro_91_5, ro_91_6, ro_91_7, ro_91_8, ro_91_9, ro_92_0, ro_94_0, ro_96_0, ro_98_0, ro_100_0, ro_102_0, ro_104_0, ro_106_0, ro_108_0, ro_110_0, ro_112_0, ro_112_1, ro_112_2, ro_112_3, ro_112_4, ro_112_5, ro_112_6, ro_112_7, ro_112_8, ro_112_9, ro_113_0, ro_115_0, ro_117_0, ro_119_0, ro_121_0, ro_123_0, ro_125_0, ro_127_0, ro_129_0, ro_131_0, ro_133_0, ro_133_1, ro_133_2, ro_133_3, ro_133_4, ro_133_5, ro_133_6, ro_133_7, ro_133_8, ro_133_9, ro_134_0, ro_136_0, ro_138_0, ro_140_0, ro_142_0, ro_144_0, ro_146_0, ro_148_0, ro_150_0, ro_152_0, ro_154_0, ro_155_0, ro_157_0, ro_157_1, ro_157_2, ro_157_3, ro_157_4, ro_157_5, ro_157_6, ro_157_7, ro_157_8, ro_157_9, ro_158_0, ro_160_0, ro_162_0, ro_164_0, ro_166_0, ro_168_0, ro_170_0, ro_172_0, ro_174_0, ro_176_0, ro_178_0, ro_180_0, ro_182_1, ro_182_4, ro_182_5, ro_182_6, ro_182_9, ro_182_10, ro_182_11, ro_182_13, ro_182_14, ro_182_15, ro_182_16, ro_182_17, ro_182_20, ro_182_21, ro_182_22, ro_182_23, ro_182_24, ro_182_26, ro_182_27, ro_182_28, lo_3, lo_5, lo_7, lo_9, lo_11, lo_13, lo_15, lo_17, lo_19, lo_21, lo_24, lo_26, lo_28, lo_30, lo_32, lo_34, lo_36, lo_38, lo_40, lo_42, lo_44, lo_47, lo_49, lo_51, lo_54, lo_56, lo_58, lo_60, lo_63, lo_65, lo_67, lo_69, lo_72, lo_74, lo_76, lo_78, lo_80, lo_82, lo_84, lo_86, lo_88, lo_90, lo_93, lo_95, lo_97, lo_99, lo_101, lo_103, lo_105, lo_107, lo_109, lo_111, lo_114, lo_116, lo_118, lo_120, lo_122, lo_124, lo_126, lo_128, lo_130, lo_132, lo_135, lo_137, lo_139, lo_141, lo_143, lo_145, lo_147, lo_149, lo_151, lo_153, lo_156, lo_159, lo_161, lo_163, lo_165, lo_167, lo_169, lo_171, lo_173, lo_175, lo_177, lo_179, lo_181, lo_183, lo_184, lo_185, lo_186, lo_187, lo_188, lo_189, lo_190, lo_191, lo_192, lo_193, lo_194, lo_195, lo_196, lo_197, lo_198, lo_199, lo_200, lo_201, lo_202, lo_203, jp_nn, jp_eq, jp_e1, Classical.not_not, ji0, ji1, ji2, cs14_54, kk_54, cs14_55, kk_55, cs14_68, kk_68, cs14_69, kk_69, cs14_70, kk_70, cs14_71, kk_71, cs14_72, kk_72, cs14_73, kk_73, cs14_74, kk_74, cs14_75, kk_75, cs14_186, kk_186, cs14_187, kk_187, cs14_188, kk_188, cs14_189, kk_189, cs14_191, kk_191, cs14_192, kk_192, cs14_193, kk_193, cs14_198, kk_198, cs14_207, kk_207, cs14_195, kk_195, cs14_196, kk_196, cs14_201, kk_201, cs14_203, kk_203, cs14_204, kk_204, cs14_194, kk_194, cs14_197, kk_197, cs14_200, kk_200, cs14_202, kk_202, cs14_205, kk_205, cs14_208, kk_208, cs14_209, kk_209, cs14_211, kk_211, cs14_216, kk_216, cs14_217, kk_217, cs14_218, kk_218, cs14_219, kk_219, cs14_220, kk_220, cs14_221, kk_221, cs14_210, kk_210, cs14_212, kk_212, cs14_213, kk_213, cs14_190, kk_190, cs14_199, kk_199, cs14_225, kk_225, cs14_226, kk_226, cs14_227, kk_227, cs14_228, kk_228, cs14_240, kk_240, cs14_241, kk_241, cs14_206, kk_206, cs14_333, kk_333, cs14_67, kk_67, cs14_65, kk_65, cs14_66, kk_66, cs14_64, kk_64, cs14_63, kk_63, cs14_77, kk_77, cs14_76, kk_76, cs14_133, kk_133, cs14_134, kk_134, cs14_135, kk_135, cs14_136, kk_136, cs14_138, kk_138, cs14_139, kk_139, cs14_105, kk_105, cs14_102, kk_102, cs14_103, kk_103, cs14_104, kk_104, cs14_106, kk_106, cs14_140, kk_140, cs14_137, kk_137, cs14_127, kk_127, cs14_56, kk_56, cs14_57, kk_57, cs14_79, kk_79, cs14_101, kk_101, cs14_96, kk_96, cs14_99, kk_99, cs14_100, kk_100, cs14_98, kk_98, jl_0, jl_1, jl_2, jl_3, jl_4, jl_5, jl_6, jl_7, jl_8, jl_9, jl_10, jl_11, jl_12, jl_13, jl_14, jl_15, jl_16, jl_17, jl_18, jl_19, jl_20, jl_21, jl_22, jl_23, jl_24, jl_25, jl_26, jl_27, jl_28, jl_29, jl_30, jl_31, jl_32, jl_33, jl_34, jl_35, jl_36, jl_37, jl_38, jl_39, jl_40, jl_95, jl_96, jl_97, jl_98, jl_99, jl_100, jl_101, jl_102, jl_103, jl_104, jl_105, jl_106, jl_107, jl_108, jl_109, jl_110, jl_111, jl_112, jl_113, jl_114, jl_186, jl_1100, jr, ju, jpT, jpF, tnc, Nat.reduceEqDiff, reduceIte, and_false, false_and, not_true_eq_false, not_false_eq_true, or_false, gt_iff_lt, ge_iff_le, Int.lt_irrefl, Int.le_refl, c1_w, ek, ef, s1_w]
    refine ⟨Or.inr rfl, D.2.2.1.length, rfl, by omega, ?_⟩
    obtain ⟨cn, hcn⟩ : ∃ cn, D.2.2.1.length = cn := ⟨_, rfl⟩
    rw [hcn] at ln l1 c1_w ek ef s1_w ⊢
    obtain ⟨H, eH⟩ : ∃ H, H = j_up (j_up h 30 cn (c5 9 u)) 34 cn ls := ⟨_, rfl⟩
    rw [← eH]
    have hl' : ∀ (k : Nat) (v : Int), l[k]? = some v → 0 ≤ v ∧ v ≤ 99 := fun k v z => (hl k v z).2
    refine qp_lp (fun en h' => ∃ k : Nat, en = [29, c5 9 u, 0, ls, 4, (l.length : Int), upT l k, (k : Int)] ∧ k ≤ 13 ∧ (∀ o q : Nat, o ≠ 38 → h' o q = H o q) ∧ (∀ q : Nat, q < 13 * cn → h' 38 q = h 38 q) ∧ ∀ q : Nat, q < k → h' 38 (13 * cn + q) = upT l q) ⟨0, rfl, by decide, fun _ _ _ => rfl, fun q _ => by rw [eH, up_ne (by omega), up_ne (by omega)], fun q z => by omega⟩ ?_
    intro en h1 ⟨k, e3_w, z1, z2, z3, z4⟩
    subst e3_w
    have b1 : h1 29 10 = (cn : Int) := by rw [z2 29 10 (by decide), eH, up_ne (by omega), up_ne (by omega), c1_w]
    have yn : (0 : Int) < (l.length : Int) := by omega
    have yn2 : ¬ (l.length : Int) ≤ 0 := by omega
    by_cases y : (k : Int) < 13
    · have y2 : ¬ (13 : Int) ≤ (k : Int) := by omega
      have ek2 : j32 ((k : Int) + 1) = ((k + 1 : Nat) : Int) := by
        rw [j32_id (by omega) (by omega)]
        omega
      have ei : j32 (j32 ((cn : Int) * 13) + (k : Int)) = ((13 * cn + k : Nat) : Int) := by
        rw [j32_id (x := (cn : Int) * 13) (by omega) (by omega), j32_id (by omega) (by omega)]
        omega
      have s2_w : ∀ {h : XH} {v : Int}, rs h 37 ((13 * cn + k : Nat) : Int) v = j_up h 38 (13 * cn + k) v := fun {h v} => rs_in (o := 37) (c := 38) (n := 52) ro_37_0 lo_38 (by omega)
      simp only [qe_1, qe_3, qe_4, qe_5, qe_7, qe_72, qe_10, qe_102, qe_13, qe_14, qe_15, qe_16, qe_17, qe_18, qe_20, qe_22, qe_23, qe_21, qe_24, qe_25, qe_26, qe_27, qe_28, qe_30, qe_31, qe_32, qc_20, qc_22, qc_23, qc_21, qc_24, qc_25, qc_26, qc_27, qc_1, qc_3, qc_4, qc_7, qc_13, qc_28, qc_32, qs_1, qs_2, qs_3, qs_4, qs_5, qs_6, qs_9, qs_10, qs_11, qs_14, qs_15, qs_16, qs_27, qs_17, qs_18, qs_19, qs_20, qs_22, qs_23, qs_28, qs_25, qs_26, qs_7, qs_8, kc_1, kn_1, kc_2, kn_2, kc_3, kn_3, kc_4, kn_4, kc_5, kn_5, kc_6, kn_6, kc_7, kn_7, kc_8, kn_8, kc_9, kn_9, kc_10, kn_10, kc_11, kn_11, kc_12, kn_12, kc_13, kn_13, kc_14, kn_14, kc_15, kn_15, kc_16, kc_17, kc_18, kc_19, kc_20, kc_21, kc_22, kc_23, kc_30, kc_32, kc_40, kc_43, kc_45, kc_48, kc_52, kc_56, kc_57, kc_59, kc_60, kc_61, kc_63, kc_64, kc_72, kc_78, kc_97, kc_99, kc_122, kc_126, kc_128, kc_192, kc_200, kc_255, kc_999, kc_1000, kc_9999, kn_9999, kc_10000, kc_12345, kc_65536, kc_252645135, kc_858993459, kc_1103515245, kc_1431655765, kc_2147483647, kc_0, kc_24, kc_28, kc_37, kc_41, kc_42, kc_73, kc_91, kc_95, kc_96, kc_98, kc_100, kc_112, kc_125, kc_150, kc_162, kc_163, kc_168, kc_186, kc_190, kc_250, kc_355, kc_356, kc_404, kc_405, kc_429, kc_573, kc_1002, kc_1100, kc_1891, kc_2200, kc_4719, kc_4869, kc_4881, kc_5148, kc_19741, kc_25433, kc_320403, kc_628412, kc_629093, kc_660401, kc_679843, kc_918640, kc_979410, kc_1178088, kc_6232410, kc_24644941, kc_36238189, kc_38270444, kc_392531318, kc_425693491, kc_1342154595, kc_2147483648, kc_42328242873, kc_891704255789, kc_1722105685577, kc_1858726030364, ct_0, ct_1, ct_2, ct_3, ct_4, ct_5, cf_0, cf_1, cf_2, cf_3, cf_4, cf_5, w_ty6, w_ty7, m_sv, m_z0, m_hd, m_g0, m_gs, m_s0, m_ss, m_ap, m_an, forall_const, true_and, and_true, ne_eq, not_true_eq_false, not_false_eq_true, false_implies, true_implies, implies_true, eq_self, reduceCtorEq, Nat.reduceDiv, Nat.reduceMod, Int.reduceToNat, or_true, true_or, or_false, false_or, or_self, m_it, m_if, m_c1, m_01, m_02, m_03, m_04, m_10, m_12, m_13, m_14, m_20, m_21, m_23, m_24, m_30, m_31, m_32, m_34, m_40, m_41, m_42, m_43, Int.reduceLE, Int.reduceLT, Int.reduceGE, Int.reduceGT, Int.reduceNeg, Int.reduceAdd, Int.reduceSub, Int.reduceMul, Int.reduceEq, Int.reduceNe, Nat.reduceAdd, jun2, ro_0_0, ro_0_1, ro_0_2, ro_0_3, ro_0_4, ro_0_5, ro_0_6, ro_0_7, ro_0_8, ro_0_9, ro_0_10, ro_0_11, ro_0_12, ro_1_0, ro_1_1, ro_2_0, ro_4_0, ro_6_0, ro_6_1, ro_6_2, ro_6_3, ro_6_4, ro_6_5, ro_6_6, ro_6_7, ro_6_8, ro_8_0, ro_10_0, ro_12_0, ro_14_0, ro_16_0, ro_18_0, ro_20_0, ro_22_0, ro_22_1, ro_22_2, ro_23_0, ro_25_0, ro_27_0, ro_29_0, ro_29_1, ro_29_2, ro_29_3, ro_29_4, ro_29_5, ro_29_6, ro_29_7, ro_29_8, ro_31_0, ro_33_0, ro_35_0, ro_37_0, ro_39_0, ro_41_0, ro_43_0, ro_45_0, ro_45_1, ro_45_2, ro_46_0, ro_48_0, ro_50_0, ro_52_0, ro_52_1, ro_52_2, ro_52_3, ro_53_0, ro_55_0, ro_57_0, ro_59_0, ro_61_0, ro_61_1, ro_61_2, ro_61_3, ro_62_0, ro_64_0, ro_66_0, ro_68_0, ro_70_0, ro_70_1, ro_70_2, ro_70_3, ro_70_4, ro_70_5, ro_70_6, ro_70_7, ro_70_8, ro_70_9, ro_71_0, ro_73_0, ro_75_0, ro_77_0, ro_79_0, ro_81_0, ro_83_0, ro_85_0, ro_87_0, ro_89_0, ro_91_0, ro_91_1, ro_91_2, ro_91_3, ro_91_4, ro_91_5, ro_91_6, ro_91_7, ro_91_8, ro_91_9, ro_92_0, ro_94_0, ro_96_0, ro_98_0, ro_100_0, ro_102_0, ro_104_0, ro_106_0, ro_108_0, ro_110_0, ro_112_0, ro_112_1, ro_112_2, ro_112_3, ro_112_4, ro_112_5, ro_112_6, ro_112_7, ro_112_8, ro_112_9, ro_113_0, ro_115_0, ro_117_0, ro_119_0, ro_121_0, ro_123_0, ro_125_0, ro_127_0, ro_129_0, ro_131_0, ro_133_0, ro_133_1, ro_133_2, ro_133_3, ro_133_4, ro_133_5, ro_133_6, ro_133_7, ro_133_8, ro_133_9, ro_134_0, ro_136_0, ro_138_0, ro_140_0, ro_142_0, ro_144_0, ro_146_0, ro_148_0, ro_150_0, ro_152_0, ro_154_0, ro_155_0, ro_157_0, ro_157_1, ro_157_2, ro_157_3, ro_157_4, ro_157_5, ro_157_6, ro_157_7, ro_157_8, ro_157_9, ro_158_0, ro_160_0, ro_162_0, ro_164_0, ro_166_0, ro_168_0, ro_170_0, ro_172_0, ro_174_0, ro_176_0, ro_178_0, ro_180_0, ro_182_1, ro_182_4, ro_182_5, ro_182_6, ro_182_9, ro_182_10, ro_182_11, ro_182_13, ro_182_14, ro_182_15, ro_182_16, ro_182_17, ro_182_20, ro_182_21, ro_182_22, ro_182_23, ro_182_24, ro_182_26, ro_182_27, ro_182_28, lo_3, lo_5, lo_7, lo_9, lo_11, lo_13, lo_15, lo_17, lo_19, lo_21, lo_24, lo_26, lo_28, lo_30, lo_32, lo_34, lo_36, lo_38, lo_40, lo_42, lo_44, lo_47, lo_49, lo_51, lo_54, lo_56, lo_58, lo_60, lo_63, lo_65, lo_67, lo_69, lo_72, lo_74, lo_76, lo_78, lo_80, lo_82, lo_84, lo_86, lo_88, lo_90, lo_93, lo_95, lo_97, lo_99, lo_101, lo_103, lo_105, lo_107, lo_109, lo_111, lo_114, lo_116, lo_118, lo_120, lo_122, lo_124, lo_126, lo_128, lo_130, lo_132, lo_135, lo_137, lo_139, lo_141, lo_143, lo_145, lo_147, lo_149, lo_151, lo_153, lo_156, lo_159, lo_161, lo_163, lo_165, lo_167, lo_169, lo_171, lo_173, lo_175, lo_177, lo_179, lo_181, lo_183, lo_184, lo_185, lo_186, lo_187, lo_188, lo_189, lo_190, lo_191, lo_192, lo_193, lo_194, lo_195, lo_196, lo_197, lo_198, lo_199, lo_200, lo_201, lo_202, lo_203, jp_nn, jp_eq, jp_e1, Classical.not_not, ji0, ji1, ji2, cs14_54, kk_54, cs14_55, kk_55, cs14_68, kk_68, cs14_69, kk_69, cs14_70, kk_70, cs14_71, kk_71, cs14_72, kk_72, cs14_73, kk_73, cs14_74, kk_74, cs14_75, kk_75, cs14_186, kk_186, cs14_187, kk_187, cs14_188, kk_188, cs14_189, kk_189, cs14_191, kk_191, cs14_192, kk_192, cs14_193, kk_193, cs14_198, kk_198, cs14_207, kk_207, cs14_195, kk_195, cs14_196, kk_196, cs14_201, kk_201, cs14_203, kk_203, cs14_204, kk_204, cs14_194, kk_194, cs14_197, kk_197, cs14_200, kk_200, cs14_202, kk_202, cs14_205, kk_205, cs14_208, kk_208, cs14_209, kk_209, cs14_211, kk_211, cs14_216, kk_216, cs14_217, kk_217, cs14_218, kk_218, cs14_219, kk_219, cs14_220, kk_220, cs14_221, kk_221, cs14_210, kk_210, cs14_212, kk_212, cs14_213, kk_213, cs14_190, kk_190, cs14_199, kk_199, cs14_225, kk_225, cs14_226, kk_226, cs14_227, kk_227, cs14_228, kk_228, cs14_240, kk_240, cs14_241, kk_241, cs14_206, kk_206, cs14_333, kk_333, cs14_67, kk_67, cs14_65, kk_65, cs14_66, kk_66, cs14_64, kk_64, cs14_63, kk_63, cs14_77, kk_77, cs14_76, kk_76, cs14_133, kk_133, cs14_134, kk_134, cs14_135, kk_135, cs14_136, kk_136, cs14_138, kk_138, cs14_139, kk_139, cs14_105, kk_105, cs14_102, kk_102, cs14_103, kk_103, cs14_104, kk_104, cs14_106, kk_106, cs14_140, kk_140, cs14_137, kk_137, cs14_127, kk_127, cs14_56, kk_56, cs14_57, kk_57, cs14_79, kk_79, cs14_101, kk_101, cs14_96, kk_96, cs14_99, kk_99, cs14_100, kk_100, cs14_98, kk_98, jl_0, jl_1, jl_2, jl_3, jl_4, jl_5, jl_6, jl_7, jl_8, jl_9, jl_10, jl_11, jl_12, jl_13, jl_14, jl_15, jl_16, jl_17, jl_18, jl_19, jl_20, jl_21, jl_22, jl_23, jl_24, jl_25, jl_26, jl_27, jl_28, jl_29, jl_30, jl_31, jl_32, jl_33, jl_34, jl_35, jl_36, jl_37, jl_38, jl_39, jl_40, jl_95, jl_96, jl_97, jl_98, jl_99, jl_100, jl_101, jl_102, jl_103, jl_104, jl_105, jl_106, jl_107, jl_108, jl_109, jl_110, jl_111, jl_112, jl_113, jl_114, jl_186, jl_1100, jr, ju, jpT, jpF, tnc, Nat.reduceEqDiff, reduceIte, and_false, false_and, not_true_eq_false, not_false_eq_true, or_false, gt_iff_lt, ge_iff_le, Int.lt_irrefl, Int.le_refl, y, y2, b1, yn, yn2, ek2, ei, s2_w]
      obtain ⟨v, hv⟩ : ∃ v, l[k % l.length]? = some v := ⟨_, List.getElem?_eq_getElem (Nat.mod_lt _ n1_w)⟩
      have ml_w : k % l.length < 12 := by have := Nat.mod_lt k n1_w; omega
      have ev_w : rg (j_up h1 38 (13 * cn + k) (upT l k)) 4 ((k % l.length : Nat) : Int) = v := by
        refine (rg_in (o := 4) (c := 5) (n := 12) ro_4_0 lo_5 ml_w).trans ?_
        rw [up_ne (by omega), z2 5 _ (by decide), eH, up_ne (by omega), up_ne (by omega)]
        exact (hl _ _ hv).1
      have eu : upT l (k + 1) = upT l k + v := by
        rw [upT, List.getD_eq_getElem?_getD, hv]
        rfl
      have ew : j32 (upT l k + v) = upT l (k + 1) := by
        have := upT_le hl' (k + 1)
        rw [← eu, j32_id (by omega) (by omega)]
      intro _
      rw [jd1, ev_w, ew]
      refine ⟨k + 1, rfl, by omega, fun o q z => ?_, fun q z => ?_, fun q z => ?_⟩
      · rw [if_neg (fun y => z y.1)]
        exact z2 o q z
      · rw [if_neg (by omega)]
        exact z3 q z
      · by_cases yq : q = k
        · subst yq
          rw [if_pos rfl]
        · rw [if_neg (by omega)]
          exact z4 q (by omega)
    · have y2 : (13 : Int) ≤ (k : Int) := by omega
      simp only [qe_1, qe_3, qe_4, qe_5, qe_7, qe_72, qe_10, qe_102, qe_13, qe_14, qe_15, qe_16, qe_17, qe_18, qe_20, qe_22, qe_23, qe_21, qe_24, qe_25, qe_26, qe_27, qe_28, qe_30, qe_31, qe_32, qc_20, qc_22, qc_23, qc_21, qc_24, qc_25, qc_26, qc_27, qc_1, qc_3, qc_4, qc_7, qc_13, qc_28, qc_32, qs_1, qs_2, qs_3, qs_4, qs_5, qs_6, qs_9, qs_10, qs_11, qs_14, qs_15, qs_16, qs_27, qs_17, qs_18, qs_19, qs_20, qs_22, qs_23, qs_28, qs_25, qs_26, qs_7, qs_8, kc_1, kn_1, kc_2, kn_2, kc_3, kn_3, kc_4, kn_4, kc_5, kn_5, kc_6, kn_6, kc_7, kn_7, kc_8, kn_8, kc_9, kn_9, kc_10, kn_10, kc_11, kn_11, kc_12, kn_12, kc_13, kn_13, kc_14, kn_14, kc_15, kn_15, kc_16, kc_17, kc_18, kc_19, kc_20, kc_21, kc_22, kc_23, kc_30, kc_32, kc_40, kc_43, kc_45, kc_48, kc_52, kc_56, kc_57, kc_59, kc_60, kc_61, kc_63, kc_64, kc_72, kc_78, kc_97, kc_99, kc_122, kc_126, kc_128, kc_192, kc_200, kc_255, kc_999, kc_1000, kc_9999, kn_9999, kc_10000, kc_12345, kc_65536, kc_252645135, kc_858993459, kc_1103515245, kc_1431655765, kc_2147483647, kc_0, kc_24, kc_28, kc_37, kc_41, kc_42, kc_73, kc_91, kc_95, kc_96, kc_98, kc_100, kc_112, kc_125, kc_150, kc_162, kc_163, kc_168, kc_186, kc_190, kc_250, kc_355, kc_356, kc_404, kc_405, kc_429, kc_573, kc_1002, kc_1100, kc_1891, kc_2200, kc_4719, kc_4869, kc_4881, kc_5148, kc_19741, kc_25433, kc_320403, kc_628412, kc_629093, kc_660401, kc_679843, kc_918640, kc_979410, kc_1178088, kc_6232410, kc_24644941, kc_36238189, kc_38270444, kc_392531318, kc_425693491, kc_1342154595, kc_2147483648, kc_42328242873, kc_891704255789, kc_1722105685577, kc_1858726030364, ct_0, ct_1, ct_2, ct_3, ct_4, ct_5, cf_0, cf_1, cf_2, cf_3, cf_4, cf_5, w_ty6, w_ty7, m_sv, m_z0, m_hd, m_g0, m_gs, m_s0, m_ss, m_ap, m_an, forall_const, true_and, and_true, ne_eq, not_true_eq_false, not_false_eq_true, false_implies, true_implies, implies_true, eq_self, reduceCtorEq, Nat.reduceDiv, Nat.reduceMod, Int.reduceToNat, or_true, true_or, or_false, false_or, or_self, m_it, m_if, m_c1, m_01, m_02, m_03, m_04, m_10, m_12, m_13, m_14, m_20, m_21, m_23, m_24, m_30, m_31, m_32, m_34, m_40, m_41, m_42, m_43, Int.reduceLE, Int.reduceLT, Int.reduceGE, Int.reduceGT, Int.reduceNeg, Int.reduceAdd, Int.reduceSub, Int.reduceMul, Int.reduceEq, Int.reduceNe, Nat.reduceAdd, jun2, ro_0_0, ro_0_1, ro_0_2, ro_0_3, ro_0_4, ro_0_5, ro_0_6, ro_0_7, ro_0_8, ro_0_9, ro_0_10, ro_0_11, ro_0_12, ro_1_0, ro_1_1, ro_2_0, ro_4_0, ro_6_0, ro_6_1, ro_6_2, ro_6_3, ro_6_4, ro_6_5, ro_6_6, ro_6_7, ro_6_8, ro_8_0, ro_10_0, ro_12_0, ro_14_0, ro_16_0, ro_18_0, ro_20_0, ro_22_0, ro_22_1, ro_22_2, ro_23_0, ro_25_0, ro_27_0, ro_29_0, ro_29_1, ro_29_2, ro_29_3, ro_29_4, ro_29_5, ro_29_6, ro_29_7, ro_29_8, ro_31_0, ro_33_0, ro_35_0, ro_37_0, ro_39_0, ro_41_0, ro_43_0, ro_45_0, ro_45_1, ro_45_2, ro_46_0, ro_48_0, ro_50_0, ro_52_0, ro_52_1, ro_52_2, ro_52_3, ro_53_0, ro_55_0, ro_57_0, ro_59_0, ro_61_0, ro_61_1, ro_61_2, ro_61_3, ro_62_0, ro_64_0, ro_66_0, ro_68_0, ro_70_0, ro_70_1, ro_70_2, ro_70_3, ro_70_4, ro_70_5, ro_70_6, ro_70_7, ro_70_8, ro_70_9, ro_71_0, ro_73_0, ro_75_0, ro_77_0, ro_79_0, ro_81_0, ro_83_0, ro_85_0, ro_87_0, ro_89_0, ro_91_0, ro_91_1, ro_91_2, ro_91_3, ro_91_4, ro_91_5, ro_91_6, ro_91_7, ro_91_8, ro_91_9, ro_92_0, ro_94_0, ro_96_0, ro_98_0, ro_100_0, ro_102_0, ro_104_0, ro_106_0, ro_108_0, ro_110_0, ro_112_0, ro_112_1, ro_112_2, ro_112_3, ro_112_4, ro_112_5, ro_112_6, ro_112_7, ro_112_8, ro_112_9, ro_113_0, ro_115_0, ro_117_0, ro_119_0, ro_121_0, ro_123_0, ro_125_0, ro_127_0, ro_129_0, ro_131_0, ro_133_0, ro_133_1, ro_133_2, ro_133_3, ro_133_4, ro_133_5, ro_133_6, ro_133_7, ro_133_8, ro_133_9, ro_134_0, ro_136_0, ro_138_0, ro_140_0, ro_142_0, ro_144_0, ro_146_0, ro_148_0, ro_150_0, ro_152_0, ro_154_0, ro_155_0, ro_157_0, ro_157_1, ro_157_2, ro_157_3, ro_157_4, ro_157_5, ro_157_6, ro_157_7, ro_157_8, ro_157_9, ro_158_0, ro_160_0, ro_162_0, ro_164_0, ro_166_0, ro_168_0, ro_170_0, ro_172_0, ro_174_0, ro_176_0, ro_178_0, ro_180_0, ro_182_1, ro_182_4, ro_182_5, ro_182_6, ro_182_9, ro_182_10, ro_182_11, ro_182_13, ro_182_14, ro_182_15, ro_182_16, ro_182_17, ro_182_20, ro_182_21, ro_182_22, ro_182_23, ro_182_24, ro_182_26, ro_182_27, ro_182_28, lo_3, lo_5, lo_7, lo_9, lo_11, lo_13, lo_15, lo_17, lo_19, lo_21, lo_24, lo_26, lo_28, lo_30, lo_32, lo_34, lo_36, lo_38, lo_40, lo_42, lo_44, lo_47, lo_49, lo_51, lo_54, lo_56, lo_58, lo_60, lo_63, lo_65, lo_67, lo_69, lo_72, lo_74, lo_76, lo_78, lo_80, lo_82, lo_84, lo_86, lo_88, lo_90, lo_93, lo_95, lo_97, lo_99, lo_101, lo_103, lo_105, lo_107, lo_109, lo_111, lo_114, lo_116, lo_118, lo_120, lo_122, lo_124, lo_126, lo_128, lo_130, lo_132, lo_135, lo_137, lo_139, lo_141, lo_143, lo_145, lo_147, lo_149, lo_151, lo_153, lo_156, lo_159, lo_161, lo_163, lo_165, lo_167, lo_169, lo_171, lo_173, lo_175, lo_177, lo_179, lo_181, lo_183, lo_184, lo_185, lo_186, lo_187, lo_188, lo_189, lo_190, lo_191, lo_192, lo_193, lo_194, lo_195, lo_196, lo_197, lo_198, lo_199, lo_200, lo_201, lo_202, lo_203, jp_nn, jp_eq, jp_e1, Classical.not_not, ji0, ji1, ji2, cs14_54, kk_54, cs14_55, kk_55, cs14_68, kk_68, cs14_69, kk_69, cs14_70, kk_70, cs14_71, kk_71, cs14_72, kk_72, cs14_73, kk_73, cs14_74, kk_74, cs14_75, kk_75, cs14_186, kk_186, cs14_187, kk_187, cs14_188, kk_188, cs14_189, kk_189, cs14_191, kk_191, cs14_192, kk_192, cs14_193, kk_193, cs14_198, kk_198, cs14_207, kk_207, cs14_195, kk_195, cs14_196, kk_196, cs14_201, kk_201, cs14_203, kk_203, cs14_204, kk_204, cs14_194, kk_194, cs14_197, kk_197, cs14_200, kk_200, cs14_202, kk_202, cs14_205, kk_205, cs14_208, kk_208, cs14_209, kk_209, cs14_211, kk_211, cs14_216, kk_216, cs14_217, kk_217, cs14_218, kk_218, cs14_219, kk_219, cs14_220, kk_220, cs14_221, kk_221, cs14_210, kk_210, cs14_212, kk_212, cs14_213, kk_213, cs14_190, kk_190, cs14_199, kk_199, cs14_225, kk_225, cs14_226, kk_226, cs14_227, kk_227, cs14_228, kk_228, cs14_240, kk_240, cs14_241, kk_241, cs14_206, kk_206, cs14_333, kk_333, cs14_67, kk_67, cs14_65, kk_65, cs14_66, kk_66, cs14_64, kk_64, cs14_63, kk_63, cs14_77, kk_77, cs14_76, kk_76, cs14_133, kk_133, cs14_134, kk_134, cs14_135, kk_135, cs14_136, kk_136, cs14_138, kk_138, cs14_139, kk_139, cs14_105, kk_105, cs14_102, kk_102, cs14_103, kk_103, cs14_104, kk_104, cs14_106, kk_106, cs14_140, kk_140, cs14_137, kk_137, cs14_127, kk_127, cs14_56, kk_56, cs14_57, kk_57, cs14_79, kk_79, cs14_101, kk_101, cs14_96, kk_96, cs14_99, kk_99, cs14_100, kk_100, cs14_98, kk_98, jl_0, jl_1, jl_2, jl_3, jl_4, jl_5, jl_6, jl_7, jl_8, jl_9, jl_10, jl_11, jl_12, jl_13, jl_14, jl_15, jl_16, jl_17, jl_18, jl_19, jl_20, jl_21, jl_22, jl_23, jl_24, jl_25, jl_26, jl_27, jl_28, jl_29, jl_30, jl_31, jl_32, jl_33, jl_34, jl_35, jl_36, jl_37, jl_38, jl_39, jl_40, jl_95, jl_96, jl_97, jl_98, jl_99, jl_100, jl_101, jl_102, jl_103, jl_104, jl_105, jl_106, jl_107, jl_108, jl_109, jl_110, jl_111, jl_112, jl_113, jl_114, jl_186, jl_1100, jr, ju, jpT, jpF, tnc, Nat.reduceEqDiff, reduceIte, and_false, false_and, not_true_eq_false, not_false_eq_true, or_false, gt_iff_lt, ge_iff_le, Int.lt_irrefl, Int.le_refl, y, y2, b1, yn, yn2]
      rw [ek]
      have ek13 : k = 13 := by omega
      subst ek13
      obtain ⟨G, eG⟩ : ∃ G, G = j_up h1 29 10 ((cn + 1 : Nat) : Int) := ⟨_, rfl⟩
      rw [← eG]
      have e0 : ∀ o q : Nat, o ≠ 38 → ¬ (o = 29 ∧ q = 10) → ¬ (o = 30 ∧ q = cn) → ¬ (o = 34 ∧ q = cn) → G o q = h o q := fun o q a1_w a2 a3 a4 => by rw [eG, up_ne a2, z2 o q a1_w, eH, up_ne a4, up_ne a3]
      have v30 : G 30 cn = c5 9 u := by rw [eG, up_ne (by omega), z2 30 _ (by decide), eH, up_ne (by omega), up_eq]
      have v34 : G 34 cn = ls := by rw [eG, up_ne (by omega), z2 34 _ (by decide), eH, up_eq]
      have v29 : G 29 10 = ((cn + 1 : Nat) : Int) := by rw [eG, up_eq]
      have v38 : ∀ q : Nat, q < 13 → G 38 (13 * cn + q) = upT l q := fun q z => by rw [eG, up_ne (by omega), z4 q z]
      have w38 : ∀ q : Nat, q < 13 * cn → G 38 q = h 38 q := fun q z => by rw [eG, up_ne (by omega), z3 q z]
      have el : (D.2.2.1 ++ [(u, ls, l)]).length = cn + 1 := by rw [← hcn]; simp
      have em : (D.2.2.1 ++ [(u, ls, l)]).map (·.1) = D.2.2.1.map (·.1) ++ [u] := by simp
      refine hQ G (fun o q z => ?_) ?_
      · by_cases y38 : o = 38
        · exact absurd (Or.inr ⟨by omega, by omega⟩) z
        · exact e0 o q y38 (by omega) (by omega) (by omega)
      clear hQ eG eH
      refine ⟨⟨⟨?_, (e0 _ _ (by omega) (by omega) (by omega) (by omega)).trans c2, (e0 _ _ (by omega) (by omega) (by omega) (by omega)).trans c3, ?_, l2, l3⟩, fun k v z => ?_, fun k v z => ?_, fun k v z => ?_, ?_⟩, ⟨(e0 _ _ (by omega) (by omega) (by omega) (by omega)).trans d1_w.1, d1_w.2⟩, fun q z => (e0 _ _ (by omega) (by omega) (by omega) (by omega)).trans (d2_w q z), fun c x z => ?_, d4_w.fr (fun k => e0 _ _ (by omega) (by omega) (by omega) (by omega)) (fun k => e0 _ _ (by omega) (by omega) (by omega) (by omega)) (fun k => e0 _ _ (by omega) (by omega) (by omega) (by omega)) (fun k => e0 _ _ (by omega) (by omega) (by omega) (by omega)), d5.fr (e0 _ _ (by omega) (by omega) (by omega) (by omega)) (fun k => e0 _ _ (by omega) (by omega) (by omega) (by omega))⟩
      · show G 29 10 = (((D.2.2.1 ++ [(u, ls, l)]).length : Nat) : Int)
        rw [v29, el]
      · show (D.2.2.1 ++ [(u, ls, l)]).length ≤ 4
        rw [el]
        omega
      · have z' : (D.2.2.1.map (·.1) ++ [u])[k]? = some v := by
          rw [← em]
          exact z
        have hk := lt_of_some z'
        have lm : (D.2.2.1.map (·.1)).length = cn := lenM.1.trans hcn
        rw [List.length_append, lm] at hk
        simp at hk
        by_cases yk : k = cn
        · subst yk
          rw [List.getElem?_append_right (by omega), lm, Nat.sub_self] at z'
          have z2 : u = v := by simpa using z'
          subst z2
          exact ⟨v30, hu⟩
        · rw [List.getElem?_append_left (by omega)] at z'
          exact ⟨(e0 _ _ (by omega) (by omega) (by omega) (by omega)).trans (r1_w k v z').1, (r1_w k v z').2⟩
      · exact ⟨(e0 _ _ (by omega) (by omega) (by omega) (by omega)).trans (r2 k v z).1, (r2 k v z).2⟩
      · exact ⟨(e0 _ _ (by omega) (by omega) (by omega) (by omega)).trans (r3 k v z).1, (r3 k v z).2⟩
      · show ((D.2.2.1 ++ [(u, ls, l)]).map (·.1) ++ (D.2.2.2.1 ++ D.2.2.2.2.1.map (·.1))).Nodup
        unfold tolds at nw nd
        have e : (D.2.2.1 ++ [(u, ls, l)]).map (·.1) ++ (D.2.2.2.1 ++ D.2.2.2.2.1.map (·.1)) = D.2.2.1.map (·.1) ++ u :: (D.2.2.2.1 ++ D.2.2.2.2.1.map (·.1)) := by simp
        rw [e]
        exact nd_ins nd nw
      · have z' : (D.2.2.1 ++ [(u, ls, l)])[c]? = some x := z
        have hk := lt_of_some z'
        rw [el] at hk
        by_cases yk : c = cn
        · subst yk
          rw [List.getElem?_append_right (by omega), hcn, Nat.sub_self] at z'
          have z2 : (u, ls, l) = x := by simpa using z'
          subst z2
          exact ⟨v34, n1_w, n12, v38⟩
        · rw [List.getElem?_append_left (by omega)] at z'
          have := d3_w c x z'
          exact ⟨(e0 _ _ (by omega) (by omega) (by omega) (by omega)).trans this.1, this.2.1, this.2.2.1, fun q y => (w38 _ (by omega)).trans (this.2.2.2 q y)⟩
  · exact hQ.elim
theorem snd_14 {xs : Nat → Int} {L K : Nat} : ∀ n, SndC CS14 (evF xs L g_ck K g_cW g_M n) := snd_all snd_13 (fun f av h Q hQ => by
  unfold CS14 at hQ
  split at hQ
  · exact Or.inr m_100
  · exact Or.inr m_98
  · exact Or.inl hQ)

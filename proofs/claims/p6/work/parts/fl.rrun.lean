/-! ===== contracts: the reference's run ===== -/
def tpL2 : List Nat := [222, 223, 225, 226, 227, 228, 229, 230, 231, 232, 243, 244, 245, 246, 247, 248, 249, 250, 251, 252, 253, 254, 255, 256, 257]
def CTop2 : CSt := fun f _ _ Q => tpL2.contains f = true ∧ ∀ k r h', Q k r h'
theorem tpL2_ok : (tpL2.all fun f => tpS (fun g => tpL2.contains g) (g_M f).2.2.2.2) = true := by decide +kernel
theorem snd_top2 {xs : Nat → Int} {L K : Nat} : ∀ n, SndC CTop2 (evF xs L g_ck K g_cW g_M n) := snd_all snd_none (fun f av h Q hQ => Or.inr (fun av h Q hQ => tpS_ok (F := fun g => tpL2.contains g) (fun g e av h Q hq => ⟨e, hq⟩) _ (List.all_eq_true.mp tpL2_ok f (by
  have := hQ.1
  rw [List.contains_iff_mem] at this
  exact this)) _ _ _ (fun c vs en' h' _ => hQ.2 _ _ _)))
def kFr (f : Nat) : KT := fun av h Q => av.getD 0 0 = 182 ∧ ∀ k r h', Fr (m_W f) h h' → Q k r h'
def k254f : KT := kFr 254
def k257f : KT := kFr 257
/-- accounts: no pair_w twice_w -/
def ACt (h : XH) : Prop := ∃ (n : Nat) (f : Nat → Nat), h 194 355 = (n : Int) ∧ (∀ k : Nat, k < n → f k < 16 ∧ h 194 (356 + 3 * k) = ((f k / 4 : Nat) : Int) ∧ h 194 (356 + 3 * k + 1) = ((f k % 4 : Nat) : Int)) ∧ ∀ i j : Nat, i < n → j < n → f i = f j → i = j
def k269 : KT := fun av h Q => match av with
  | [t, b, s, c, v] => t = 182 ∧ b = 0 ∧ ∃ sn cn : Nat, s = (sn : Int) ∧ sn < 4 ∧ c = (cn : Int) ∧ cn < 4 ∧ ACt h ∧ ∀ h', (∀ x k : Nat, ¬ (x = 194 ∧ 355 ≤ k ∧ k < 404) → h' x k = h x k) → ACt h' → Q 1 [] h'
  | _ => False
section KKFL
variable {h h1 h2 h' : XH} {Q : Nat → List Int → XH → Prop} {t b m p s f o v c : Int} {D : DD} {k : Nat} {av : List Int}
theorem kk_254f : k254f av h Q = (av.getD 0 0 = 182 ∧ ∀ k r h', Fr (m_W 254) h h' → Q k r h') := id rfl
theorem kk_257f : k257f av h Q = (av.getD 0 0 = 182 ∧ ∀ k r h', Fr (m_W 257) h h' → Q k r h') := id rfl
theorem kk_269 : k269 [182, 0, s, c, v] h Q = ∃ sn cn : Nat, s = (sn : Int) ∧ sn < 4 ∧ c = (cn : Int) ∧ cn < 4 ∧ ACt h ∧ ∀ h', (∀ x k : Nat, ¬ (x = 194 ∧ 355 ≤ k ∧ k < 404) → h' x k = h x k) → ACt h' → Q 1 [] h' := propext ⟨fun a => a.2.2, fun a => ⟨rfl, rfl, a⟩⟩
end KKFL
theorem pig : ∀ (m n : Nat) (f : Nat → Nat), (∀ k, k < n → f k < m) → (∀ i j, i < n → j < n → f i = f j → i = j) → n ≤ m
  | 0, n, f, a, _ => by
    by_cases y : n = 0
    · omega
    · exact absurd (a 0 (by omega)) (by omega)
  | m + 1, n, f, a, b => by
    by_cases y : ∃ k, k < n ∧ f k = m
    · obtain ⟨k, hk, ek⟩ := y
      have t := pig m (n - 1) (fun i => if i < k then f i else f (i + 1)) (fun i z => by
        show (if i < k then f i else f (i + 1)) < m
        by_cases y : i < k
        · rw [if_pos y]
          have h1 := a i (by omega)
          have h2 : f i ≠ m := fun e => by
            have := b i k (by omega) hk (e.trans ek.symm)
            omega
          omega
        · rw [if_neg y]
          have h1 := a (i + 1) (by omega)
          have h2 : f (i + 1) ≠ m := fun e => by
            have := b (i + 1) k (by omega) hk (e.trans ek.symm)
            omega
          omega) (fun i j zi zj e => by
        replace e : (if i < k then f i else f (i + 1)) = (if j < k then f j else f (j + 1)) := e
        by_cases yi : i < k
        · by_cases yj : j < k
          · rw [if_pos yi, if_pos yj] at e
            exact b i j (by omega) (by omega) e
          · rw [if_pos yi, if_neg yj] at e
            have := b i (j + 1) (by omega) (by omega) e
            omega
        · by_cases yj : j < k
          · rw [if_neg yi, if_pos yj] at e
            have := b (i + 1) j (by omega) (by omega) e
            omega
          · rw [if_neg yi, if_neg yj] at e
            have := b (i + 1) (j + 1) (by omega) (by omega) e
            omega)
      omega
    · have t := pig m n f (fun k z => by
        have h1 := a k z
        have h2 : f k ≠ m := fun e => y ⟨k, z, e⟩
        omega) b
      omega
def CS38 : CSt := fun f => match f with
  | 254 => k254f
  | 257 => k257f
  | _ => CS37 f
theorem cs38_54 {av : List Int} {h : XH} {Q : Nat → List Int → XH → Prop} : CS38 54 av h Q = k54 av h Q := id rfl
theorem cs38_55 {av : List Int} {h : XH} {Q : Nat → List Int → XH → Prop} : CS38 55 av h Q = k55 av h Q := id rfl
theorem cs38_68 {av : List Int} {h : XH} {Q : Nat → List Int → XH → Prop} : CS38 68 av h Q = k68 av h Q := id rfl
theorem cs38_69 {av : List Int} {h : XH} {Q : Nat → List Int → XH → Prop} : CS38 69 av h Q = k69 av h Q := id rfl
theorem cs38_70 {av : List Int} {h : XH} {Q : Nat → List Int → XH → Prop} : CS38 70 av h Q = k70 av h Q := id rfl
theorem cs38_71 {av : List Int} {h : XH} {Q : Nat → List Int → XH → Prop} : CS38 71 av h Q = k71 av h Q := id rfl
theorem cs38_72 {av : List Int} {h : XH} {Q : Nat → List Int → XH → Prop} : CS38 72 av h Q = k72 av h Q := id rfl
theorem cs38_73 {av : List Int} {h : XH} {Q : Nat → List Int → XH → Prop} : CS38 73 av h Q = k73 av h Q := id rfl
theorem cs38_74 {av : List Int} {h : XH} {Q : Nat → List Int → XH → Prop} : CS38 74 av h Q = k74 av h Q := id rfl
theorem cs38_75 {av : List Int} {h : XH} {Q : Nat → List Int → XH → Prop} : CS38 75 av h Q = k75 av h Q := id rfl
theorem cs38_186 {av : List Int} {h : XH} {Q : Nat → List Int → XH → Prop} : CS38 186 av h Q = k186 av h Q := id rfl
theorem cs38_187 {av : List Int} {h : XH} {Q : Nat → List Int → XH → Prop} : CS38 187 av h Q = k187 av h Q := id rfl
theorem cs38_188 {av : List Int} {h : XH} {Q : Nat → List Int → XH → Prop} : CS38 188 av h Q = k188 av h Q := id rfl
theorem cs38_189 {av : List Int} {h : XH} {Q : Nat → List Int → XH → Prop} : CS38 189 av h Q = k189 av h Q := id rfl
theorem cs38_191 {av : List Int} {h : XH} {Q : Nat → List Int → XH → Prop} : CS38 191 av h Q = k191 av h Q := id rfl
theorem cs38_192 {av : List Int} {h : XH} {Q : Nat → List Int → XH → Prop} : CS38 192 av h Q = k192 av h Q := id rfl
theorem cs38_193 {av : List Int} {h : XH} {Q : Nat → List Int → XH → Prop} : CS38 193 av h Q = k193 av h Q := id rfl
theorem cs38_198 {av : List Int} {h : XH} {Q : Nat → List Int → XH → Prop} : CS38 198 av h Q = k198 av h Q := id rfl
theorem cs38_207 {av : List Int} {h : XH} {Q : Nat → List Int → XH → Prop} : CS38 207 av h Q = k207 av h Q := id rfl
theorem cs38_195 {av : List Int} {h : XH} {Q : Nat → List Int → XH → Prop} : CS38 195 av h Q = k195 av h Q := id rfl
theorem cs38_196 {av : List Int} {h : XH} {Q : Nat → List Int → XH → Prop} : CS38 196 av h Q = k196 av h Q := id rfl
theorem cs38_201 {av : List Int} {h : XH} {Q : Nat → List Int → XH → Prop} : CS38 201 av h Q = k201 av h Q := id rfl
theorem cs38_203 {av : List Int} {h : XH} {Q : Nat → List Int → XH → Prop} : CS38 203 av h Q = k203 av h Q := id rfl
theorem cs38_204 {av : List Int} {h : XH} {Q : Nat → List Int → XH → Prop} : CS38 204 av h Q = k204 av h Q := id rfl
theorem cs38_194 {av : List Int} {h : XH} {Q : Nat → List Int → XH → Prop} : CS38 194 av h Q = k194 av h Q := id rfl
theorem cs38_197 {av : List Int} {h : XH} {Q : Nat → List Int → XH → Prop} : CS38 197 av h Q = k197 av h Q := id rfl
theorem cs38_200 {av : List Int} {h : XH} {Q : Nat → List Int → XH → Prop} : CS38 200 av h Q = k200 av h Q := id rfl
theorem cs38_202 {av : List Int} {h : XH} {Q : Nat → List Int → XH → Prop} : CS38 202 av h Q = k202 av h Q := id rfl
theorem cs38_205 {av : List Int} {h : XH} {Q : Nat → List Int → XH → Prop} : CS38 205 av h Q = k205 av h Q := id rfl
theorem cs38_208 {av : List Int} {h : XH} {Q : Nat → List Int → XH → Prop} : CS38 208 av h Q = k208 av h Q := id rfl
theorem cs38_209 {av : List Int} {h : XH} {Q : Nat → List Int → XH → Prop} : CS38 209 av h Q = k209 av h Q := id rfl
theorem cs38_211 {av : List Int} {h : XH} {Q : Nat → List Int → XH → Prop} : CS38 211 av h Q = k211 av h Q := id rfl
theorem cs38_216 {av : List Int} {h : XH} {Q : Nat → List Int → XH → Prop} : CS38 216 av h Q = k216 av h Q := id rfl
theorem cs38_217 {av : List Int} {h : XH} {Q : Nat → List Int → XH → Prop} : CS38 217 av h Q = k217 av h Q := id rfl
theorem cs38_218 {av : List Int} {h : XH} {Q : Nat → List Int → XH → Prop} : CS38 218 av h Q = k218 av h Q := id rfl
theorem cs38_219 {av : List Int} {h : XH} {Q : Nat → List Int → XH → Prop} : CS38 219 av h Q = k219 av h Q := id rfl
theorem cs38_220 {av : List Int} {h : XH} {Q : Nat → List Int → XH → Prop} : CS38 220 av h Q = k220 av h Q := id rfl
theorem cs38_221 {av : List Int} {h : XH} {Q : Nat → List Int → XH → Prop} : CS38 221 av h Q = k221 av h Q := id rfl
theorem cs38_210 {av : List Int} {h : XH} {Q : Nat → List Int → XH → Prop} : CS38 210 av h Q = k210 av h Q := id rfl
theorem cs38_212 {av : List Int} {h : XH} {Q : Nat → List Int → XH → Prop} : CS38 212 av h Q = k212 av h Q := id rfl
theorem cs38_213 {av : List Int} {h : XH} {Q : Nat → List Int → XH → Prop} : CS38 213 av h Q = k213 av h Q := id rfl
theorem cs38_190 {av : List Int} {h : XH} {Q : Nat → List Int → XH → Prop} : CS38 190 av h Q = k190 av h Q := id rfl
theorem cs38_199 {av : List Int} {h : XH} {Q : Nat → List Int → XH → Prop} : CS38 199 av h Q = k199 av h Q := id rfl
theorem cs38_225 {av : List Int} {h : XH} {Q : Nat → List Int → XH → Prop} : CS38 225 av h Q = k225 av h Q := id rfl
theorem cs38_226 {av : List Int} {h : XH} {Q : Nat → List Int → XH → Prop} : CS38 226 av h Q = k226 av h Q := id rfl
theorem cs38_227 {av : List Int} {h : XH} {Q : Nat → List Int → XH → Prop} : CS38 227 av h Q = k227 av h Q := id rfl
theorem cs38_228 {av : List Int} {h : XH} {Q : Nat → List Int → XH → Prop} : CS38 228 av h Q = k228 av h Q := id rfl
theorem cs38_333 {av : List Int} {h : XH} {Q : Nat → List Int → XH → Prop} : CS38 333 av h Q = k333 av h Q := id rfl
theorem cs38_67 {av : List Int} {h : XH} {Q : Nat → List Int → XH → Prop} : CS38 67 av h Q = k67 av h Q := id rfl
theorem cs38_65 {av : List Int} {h : XH} {Q : Nat → List Int → XH → Prop} : CS38 65 av h Q = k65 av h Q := id rfl
theorem cs38_66 {av : List Int} {h : XH} {Q : Nat → List Int → XH → Prop} : CS38 66 av h Q = k66 av h Q := id rfl
theorem cs38_64 {av : List Int} {h : XH} {Q : Nat → List Int → XH → Prop} : CS38 64 av h Q = k64 av h Q := id rfl
theorem cs38_63 {av : List Int} {h : XH} {Q : Nat → List Int → XH → Prop} : CS38 63 av h Q = k63 av h Q := id rfl
theorem cs38_77 {av : List Int} {h : XH} {Q : Nat → List Int → XH → Prop} : CS38 77 av h Q = k77 av h Q := id rfl
theorem cs38_76 {av : List Int} {h : XH} {Q : Nat → List Int → XH → Prop} : CS38 76 av h Q = k76 av h Q := id rfl
theorem cs38_133 {av : List Int} {h : XH} {Q : Nat → List Int → XH → Prop} : CS38 133 av h Q = k133 av h Q := id rfl
theorem cs38_134 {av : List Int} {h : XH} {Q : Nat → List Int → XH → Prop} : CS38 134 av h Q = k134 av h Q := id rfl
theorem cs38_135 {av : List Int} {h : XH} {Q : Nat → List Int → XH → Prop} : CS38 135 av h Q = k135 av h Q := id rfl
theorem cs38_136 {av : List Int} {h : XH} {Q : Nat → List Int → XH → Prop} : CS38 136 av h Q = k136 av h Q := id rfl
theorem cs38_138 {av : List Int} {h : XH} {Q : Nat → List Int → XH → Prop} : CS38 138 av h Q = k138 av h Q := id rfl
theorem cs38_139 {av : List Int} {h : XH} {Q : Nat → List Int → XH → Prop} : CS38 139 av h Q = k139 av h Q := id rfl
theorem cs38_105 {av : List Int} {h : XH} {Q : Nat → List Int → XH → Prop} : CS38 105 av h Q = k105 av h Q := id rfl
theorem cs38_102 {av : List Int} {h : XH} {Q : Nat → List Int → XH → Prop} : CS38 102 av h Q = k102 av h Q := id rfl
theorem cs38_103 {av : List Int} {h : XH} {Q : Nat → List Int → XH → Prop} : CS38 103 av h Q = k103 av h Q := id rfl
theorem cs38_104 {av : List Int} {h : XH} {Q : Nat → List Int → XH → Prop} : CS38 104 av h Q = k104 av h Q := id rfl
theorem cs38_106 {av : List Int} {h : XH} {Q : Nat → List Int → XH → Prop} : CS38 106 av h Q = k106 av h Q := id rfl
theorem cs38_140 {av : List Int} {h : XH} {Q : Nat → List Int → XH → Prop} : CS38 140 av h Q = k140 av h Q := id rfl
theorem cs38_137 {av : List Int} {h : XH} {Q : Nat → List Int → XH → Prop} : CS38 137 av h Q = k137 av h Q := id rfl
theorem cs38_127 {av : List Int} {h : XH} {Q : Nat → List Int → XH → Prop} : CS38 127 av h Q = k127 av h Q := id rfl
theorem cs38_56 {av : List Int} {h : XH} {Q : Nat → List Int → XH → Prop} : CS38 56 av h Q = k56 av h Q := id rfl
theorem cs38_57 {av : List Int} {h : XH} {Q : Nat → List Int → XH → Prop} : CS38 57 av h Q = k57 av h Q := id rfl
theorem cs38_79 {av : List Int} {h : XH} {Q : Nat → List Int → XH → Prop} : CS38 79 av h Q = k79 av h Q := id rfl
theorem cs38_101 {av : List Int} {h : XH} {Q : Nat → List Int → XH → Prop} : CS38 101 av h Q = k101 av h Q := id rfl
theorem cs38_96 {av : List Int} {h : XH} {Q : Nat → List Int → XH → Prop} : CS38 96 av h Q = k96 av h Q := id rfl
theorem cs38_99 {av : List Int} {h : XH} {Q : Nat → List Int → XH → Prop} : CS38 99 av h Q = k99c av h Q := id rfl
theorem cs38_100 {av : List Int} {h : XH} {Q : Nat → List Int → XH → Prop} : CS38 100 av h Q = k100 av h Q := id rfl
theorem cs38_98 {av : List Int} {h : XH} {Q : Nat → List Int → XH → Prop} : CS38 98 av h Q = k98 av h Q := id rfl
theorem cs38_122 {av : List Int} {h : XH} {Q : Nat → List Int → XH → Prop} : CS38 122 av h Q = k122 av h Q := id rfl
theorem cs38_123 {av : List Int} {h : XH} {Q : Nat → List Int → XH → Prop} : CS38 123 av h Q = k123 av h Q := id rfl
theorem cs38_124 {av : List Int} {h : XH} {Q : Nat → List Int → XH → Prop} : CS38 124 av h Q = k124 av h Q := id rfl
theorem cs38_125 {av : List Int} {h : XH} {Q : Nat → List Int → XH → Prop} : CS38 125 av h Q = k125 av h Q := id rfl
theorem cs38_126 {av : List Int} {h : XH} {Q : Nat → List Int → XH → Prop} : CS38 126 av h Q = k126 av h Q := id rfl
theorem cs38_84 {av : List Int} {h : XH} {Q : Nat → List Int → XH → Prop} : CS38 84 av h Q = k84 av h Q := id rfl
theorem cs38_82 {av : List Int} {h : XH} {Q : Nat → List Int → XH → Prop} : CS38 82 av h Q = k82 av h Q := id rfl
theorem cs38_83 {av : List Int} {h : XH} {Q : Nat → List Int → XH → Prop} : CS38 83 av h Q = k83 av h Q := id rfl
theorem cs38_85 {av : List Int} {h : XH} {Q : Nat → List Int → XH → Prop} : CS38 85 av h Q = k85 av h Q := id rfl
theorem cs38_89 {av : List Int} {h : XH} {Q : Nat → List Int → XH → Prop} : CS38 89 av h Q = k89 av h Q := id rfl
theorem cs38_90 {av : List Int} {h : XH} {Q : Nat → List Int → XH → Prop} : CS38 90 av h Q = k90 av h Q := id rfl
theorem cs38_91 {av : List Int} {h : XH} {Q : Nat → List Int → XH → Prop} : CS38 91 av h Q = k91 av h Q := id rfl
theorem cs38_88 {av : List Int} {h : XH} {Q : Nat → List Int → XH → Prop} : CS38 88 av h Q = k88 av h Q := id rfl
theorem cs38_86 {av : List Int} {h : XH} {Q : Nat → List Int → XH → Prop} : CS38 86 av h Q = k86 av h Q := id rfl
theorem cs38_87 {av : List Int} {h : XH} {Q : Nat → List Int → XH → Prop} : CS38 87 av h Q = k87 av h Q := id rfl
theorem cs38_81 {av : List Int} {h : XH} {Q : Nat → List Int → XH → Prop} : CS38 81 av h Q = k81 av h Q := id rfl
theorem cs38_128 {av : List Int} {h : XH} {Q : Nat → List Int → XH → Prop} : CS38 128 av h Q = k128 av h Q := id rfl
theorem cs38_119 {av : List Int} {h : XH} {Q : Nat → List Int → XH → Prop} : CS38 119 av h Q = k119 av h Q := id rfl
theorem cs38_58 {av : List Int} {h : XH} {Q : Nat → List Int → XH → Prop} : CS38 58 av h Q = k58 av h Q := id rfl
theorem cs38_80 {av : List Int} {h : XH} {Q : Nat → List Int → XH → Prop} : CS38 80 av h Q = k80 av h Q := id rfl
theorem cs38_97 {av : List Int} {h : XH} {Q : Nat → List Int → XH → Prop} : CS38 97 av h Q = k97s av h Q := id rfl
theorem cs38_156 {av : List Int} {h : XH} {Q : Nat → List Int → XH → Prop} : CS38 156 av h Q = k156 av h Q := id rfl
theorem cs38_142 {av : List Int} {h : XH} {Q : Nat → List Int → XH → Prop} : CS38 142 av h Q = k142 av h Q := id rfl
theorem cs38_3 {av : List Int} {h : XH} {Q : Nat → List Int → XH → Prop} : CS38 3 av h Q = k3s av h Q := id rfl
theorem cs38_61 {av : List Int} {h : XH} {Q : Nat → List Int → XH → Prop} : CS38 61 av h Q = k61z av h Q := id rfl
theorem cs38_2 {av : List Int} {h : XH} {Q : Nat → List Int → XH → Prop} : CS38 2 av h Q = k2s av h Q := id rfl
theorem cs38_240 {av : List Int} {h : XH} {Q : Nat → List Int → XH → Prop} : CS38 240 av h Q = k240s av h Q := id rfl
theorem cs38_241 {av : List Int} {h : XH} {Q : Nat → List Int → XH → Prop} : CS38 241 av h Q = k241s av h Q := id rfl
theorem cs38_206 {av : List Int} {h : XH} {Q : Nat → List Int → XH → Prop} : CS38 206 av h Q = k206s av h Q := id rfl
theorem cs38_113 {av : List Int} {h : XH} {Q : Nat → List Int → XH → Prop} : CS38 113 av h Q = k113 av h Q := id rfl
theorem cs38_114 {av : List Int} {h : XH} {Q : Nat → List Int → XH → Prop} : CS38 114 av h Q = k114 av h Q := id rfl
theorem cs38_116 {av : List Int} {h : XH} {Q : Nat → List Int → XH → Prop} : CS38 116 av h Q = k116 av h Q := id rfl
theorem cs38_117 {av : List Int} {h : XH} {Q : Nat → List Int → XH → Prop} : CS38 117 av h Q = k117 av h Q := id rfl
theorem cs38_121 {av : List Int} {h : XH} {Q : Nat → List Int → XH → Prop} : CS38 121 av h Q = k121 av h Q := id rfl
theorem cs38_129 {av : List Int} {h : XH} {Q : Nat → List Int → XH → Prop} : CS38 129 av h Q = k129 av h Q := id rfl
theorem cs38_130 {av : List Int} {h : XH} {Q : Nat → List Int → XH → Prop} : CS38 130 av h Q = k130 av h Q := id rfl
theorem cs38_131 {av : List Int} {h : XH} {Q : Nat → List Int → XH → Prop} : CS38 131 av h Q = k131 av h Q := id rfl
theorem cs38_132 {av : List Int} {h : XH} {Q : Nat → List Int → XH → Prop} : CS38 132 av h Q = k132 av h Q := id rfl
theorem cs38_120 {av : List Int} {h : XH} {Q : Nat → List Int → XH → Prop} : CS38 120 av h Q = k120 av h Q := id rfl
theorem cs38_4 {av : List Int} {h : XH} {Q : Nat → List Int → XH → Prop} : CS38 4 av h Q = k4 av h Q := id rfl
theorem cs38_229 {av : List Int} {h : XH} {Q : Nat → List Int → XH → Prop} : CS38 229 av h Q = k229 av h Q := id rfl
theorem cs38_233 {av : List Int} {h : XH} {Q : Nat → List Int → XH → Prop} : CS38 233 av h Q = k233 av h Q := id rfl
theorem cs38_234 {av : List Int} {h : XH} {Q : Nat → List Int → XH → Prop} : CS38 234 av h Q = k234 av h Q := id rfl
theorem cs38_215 {av : List Int} {h : XH} {Q : Nat → List Int → XH → Prop} : CS38 215 av h Q = k215 av h Q := id rfl
theorem cs38_214 {av : List Int} {h : XH} {Q : Nat → List Int → XH → Prop} : CS38 214 av h Q = k214 av h Q := id rfl
theorem cs38_146 {av : List Int} {h : XH} {Q : Nat → List Int → XH → Prop} : CS38 146 av h Q = k146 av h Q := id rfl
theorem cs38_147 {av : List Int} {h : XH} {Q : Nat → List Int → XH → Prop} : CS38 147 av h Q = k147 av h Q := id rfl
theorem cs38_149 {av : List Int} {h : XH} {Q : Nat → List Int → XH → Prop} : CS38 149 av h Q = k149 av h Q := id rfl
theorem cs38_155 {av : List Int} {h : XH} {Q : Nat → List Int → XH → Prop} : CS38 155 av h Q = k155 av h Q := id rfl
theorem cs38_157 {av : List Int} {h : XH} {Q : Nat → List Int → XH → Prop} : CS38 157 av h Q = k157 av h Q := id rfl
theorem cs38_165 {av : List Int} {h : XH} {Q : Nat → List Int → XH → Prop} : CS38 165 av h Q = k165 av h Q := id rfl
theorem cs38_59 {av : List Int} {h : XH} {Q : Nat → List Int → XH → Prop} : CS38 59 av h Q = k59 av h Q := id rfl
theorem cs38_107 {av : List Int} {h : XH} {Q : Nat → List Int → XH → Prop} : CS38 107 av h Q = k107 av h Q := id rfl
theorem cs38_108 {av : List Int} {h : XH} {Q : Nat → List Int → XH → Prop} : CS38 108 av h Q = k108 av h Q := id rfl
theorem cs38_109 {av : List Int} {h : XH} {Q : Nat → List Int → XH → Prop} : CS38 109 av h Q = k109 av h Q := id rfl
theorem cs38_110 {av : List Int} {h : XH} {Q : Nat → List Int → XH → Prop} : CS38 110 av h Q = k110 av h Q := id rfl
theorem cs38_111 {av : List Int} {h : XH} {Q : Nat → List Int → XH → Prop} : CS38 111 av h Q = k111 av h Q := id rfl
theorem cs38_112 {av : List Int} {h : XH} {Q : Nat → List Int → XH → Prop} : CS38 112 av h Q = k112 av h Q := id rfl
theorem cs38_143 {av : List Int} {h : XH} {Q : Nat → List Int → XH → Prop} : CS38 143 av h Q = k143 av h Q := id rfl
theorem cs38_170 {av : List Int} {h : XH} {Q : Nat → List Int → XH → Prop} : CS38 170 av h Q = k170 av h Q := id rfl
theorem cs38_168 {av : List Int} {h : XH} {Q : Nat → List Int → XH → Prop} : CS38 168 av h Q = k168 av h Q := id rfl
theorem cs38_169 {av : List Int} {h : XH} {Q : Nat → List Int → XH → Prop} : CS38 169 av h Q = k169 av h Q := id rfl
theorem cs38_181 {av : List Int} {h : XH} {Q : Nat → List Int → XH → Prop} : CS38 181 av h Q = k181 av h Q := id rfl
theorem cs38_5 {av : List Int} {h : XH} {Q : Nat → List Int → XH → Prop} : CS38 5 av h Q = k5 av h Q := id rfl
theorem cs38_6 {av : List Int} {h : XH} {Q : Nat → List Int → XH → Prop} : CS38 6 av h Q = k6 av h Q := id rfl
theorem cs38_7 {av : List Int} {h : XH} {Q : Nat → List Int → XH → Prop} : CS38 7 av h Q = k7 av h Q := id rfl
theorem cs38_8 {av : List Int} {h : XH} {Q : Nat → List Int → XH → Prop} : CS38 8 av h Q = k8 av h Q := id rfl
theorem cs38_9 {av : List Int} {h : XH} {Q : Nat → List Int → XH → Prop} : CS38 9 av h Q = k9 av h Q := id rfl
theorem cs38_10 {av : List Int} {h : XH} {Q : Nat → List Int → XH → Prop} : CS38 10 av h Q = k10s av h Q := id rfl
theorem cs38_11 {av : List Int} {h : XH} {Q : Nat → List Int → XH → Prop} : CS38 11 av h Q = k11 av h Q := id rfl
theorem cs38_12 {av : List Int} {h : XH} {Q : Nat → List Int → XH → Prop} : CS38 12 av h Q = k12s av h Q := id rfl
theorem cs38_40 {av : List Int} {h : XH} {Q : Nat → List Int → XH → Prop} : CS38 40 av h Q = k40s av h Q := id rfl
theorem cs38_49 {av : List Int} {h : XH} {Q : Nat → List Int → XH → Prop} : CS38 49 av h Q = k49 av h Q := id rfl
theorem cs38_50 {av : List Int} {h : XH} {Q : Nat → List Int → XH → Prop} : CS38 50 av h Q = k50 av h Q := id rfl
theorem cs38_48 {av : List Int} {h : XH} {Q : Nat → List Int → XH → Prop} : CS38 48 av h Q = k48 av h Q := id rfl
theorem cs38_224 {av : List Int} {h : XH} {Q : Nat → List Int → XH → Prop} : CS38 224 av h Q = k224s av h Q := id rfl
theorem cs38_230 {av : List Int} {h : XH} {Q : Nat → List Int → XH → Prop} : CS38 230 av h Q = k230 av h Q := id rfl
theorem cs38_235 {av : List Int} {h : XH} {Q : Nat → List Int → XH → Prop} : CS38 235 av h Q = k235 av h Q := id rfl
theorem cs38_236 {av : List Int} {h : XH} {Q : Nat → List Int → XH → Prop} : CS38 236 av h Q = k236 av h Q := id rfl
theorem cs38_237 {av : List Int} {h : XH} {Q : Nat → List Int → XH → Prop} : CS38 237 av h Q = k237 av h Q := id rfl
theorem cs38_238 {av : List Int} {h : XH} {Q : Nat → List Int → XH → Prop} : CS38 238 av h Q = k238 av h Q := id rfl
theorem cs38_243 {av : List Int} {h : XH} {Q : Nat → List Int → XH → Prop} : CS38 243 av h Q = k243 av h Q := id rfl
theorem cs38_256 {av : List Int} {h : XH} {Q : Nat → List Int → XH → Prop} : CS38 256 av h Q = k256 av h Q := id rfl
theorem cs38_264 {av : List Int} {h : XH} {Q : Nat → List Int → XH → Prop} : CS38 264 av h Q = k264 av h Q := id rfl
theorem cs38_266 {av : List Int} {h : XH} {Q : Nat → List Int → XH → Prop} : CS38 266 av h Q = k266 av h Q := id rfl
theorem cs38_239 {av : List Int} {h : XH} {Q : Nat → List Int → XH → Prop} : CS38 239 av h Q = k239 av h Q := id rfl
theorem cs38_242 {av : List Int} {h : XH} {Q : Nat → List Int → XH → Prop} : CS38 242 av h Q = k242s av h Q := id rfl
theorem cs38_260 {av : List Int} {h : XH} {Q : Nat → List Int → XH → Prop} : CS38 260 av h Q = k260 av h Q := id rfl
theorem cs38_261 {av : List Int} {h : XH} {Q : Nat → List Int → XH → Prop} : CS38 261 av h Q = k261 av h Q := id rfl
theorem cs38_262 {av : List Int} {h : XH} {Q : Nat → List Int → XH → Prop} : CS38 262 av h Q = k262 av h Q := id rfl
theorem cs38_263 {av : List Int} {h : XH} {Q : Nat → List Int → XH → Prop} : CS38 263 av h Q = k263 av h Q := id rfl
theorem cs38_265 {av : List Int} {h : XH} {Q : Nat → List Int → XH → Prop} : CS38 265 av h Q = k265 av h Q := id rfl
theorem cs38_267 {av : List Int} {h : XH} {Q : Nat → List Int → XH → Prop} : CS38 267 av h Q = k267 av h Q := id rfl
theorem cs38_268 {av : List Int} {h : XH} {Q : Nat → List Int → XH → Prop} : CS38 268 av h Q = k268 av h Q := id rfl
theorem cs38_272 {av : List Int} {h : XH} {Q : Nat → List Int → XH → Prop} : CS38 272 av h Q = k272 av h Q := id rfl
theorem cs38_304 {av : List Int} {h : XH} {Q : Nat → List Int → XH → Prop} : CS38 304 av h Q = k304 av h Q := id rfl
theorem cs38_311 {av : List Int} {h : XH} {Q : Nat → List Int → XH → Prop} : CS38 311 av h Q = k311 av h Q := id rfl
theorem cs38_254 {av : List Int} {h : XH} {Q : Nat → List Int → XH → Prop} : CS38 254 av h Q = k254f av h Q := id rfl
theorem cs38_257 {av : List Int} {h : XH} {Q : Nat → List Int → XH → Prop} : CS38 257 av h Q = k257f av h Q := id rfl
theorem kFr_ok {xs : Nat → Int} {L K n f : Nat} {cd : Nat × Nat} {av : List Int} {h : XH} {Q : Nat → List Int → XH → Prop} (h1 : tpL2.contains f = true) (h2 : m_in f = true) (hQ : kFr f av h Q) {k : Nat} {r : List Int} {g' : XS × Nat × Nat} {h' : XH} (e : evF xs L g_ck K g_cW g_M n f av ((a_g3, cd), h) = some (k, r, (g', h'))) : (k = 1 → g' = (a_g3, cd)) ∧ Q k r h' :=
  ⟨(snd_top2 n cd f av h (fun _ _ _ => True) ⟨h1, fun _ _ _ => trivial⟩ k r g' h' e).1, hQ.2 k r h' (fr_all n f av (a_g3, cd) h k r g' h' h2 rfl (Or.inr hQ.1) e).2⟩
theorem snd_38 {xs : Nat → Int} {L K : Nat} : ∀ n, SndC CS38 (evF xs L g_ck K g_cW g_M n) := fun n cd f av h Q hQ k r g' h' e => by
  unfold CS38 at hQ
  split at hQ
  · exact kFr_ok (by decide) (by decide) hQ e
  · exact kFr_ok (by decide) (by decide) hQ e
  · exact snd_37 n cd _ av h Q hQ k r g' h' e
def CS39 : CSt := fun f => match f with
  | 269 => k269
  | _ => CS38 f
theorem cs39_54 {av : List Int} {h : XH} {Q : Nat → List Int → XH → Prop} : CS39 54 av h Q = k54 av h Q := id rfl
theorem cs39_55 {av : List Int} {h : XH} {Q : Nat → List Int → XH → Prop} : CS39 55 av h Q = k55 av h Q := id rfl
theorem cs39_68 {av : List Int} {h : XH} {Q : Nat → List Int → XH → Prop} : CS39 68 av h Q = k68 av h Q := id rfl
theorem cs39_69 {av : List Int} {h : XH} {Q : Nat → List Int → XH → Prop} : CS39 69 av h Q = k69 av h Q := id rfl
theorem cs39_70 {av : List Int} {h : XH} {Q : Nat → List Int → XH → Prop} : CS39 70 av h Q = k70 av h Q := id rfl
theorem cs39_71 {av : List Int} {h : XH} {Q : Nat → List Int → XH → Prop} : CS39 71 av h Q = k71 av h Q := id rfl
theorem cs39_72 {av : List Int} {h : XH} {Q : Nat → List Int → XH → Prop} : CS39 72 av h Q = k72 av h Q := id rfl
theorem cs39_73 {av : List Int} {h : XH} {Q : Nat → List Int → XH → Prop} : CS39 73 av h Q = k73 av h Q := id rfl
theorem cs39_74 {av : List Int} {h : XH} {Q : Nat → List Int → XH → Prop} : CS39 74 av h Q = k74 av h Q := id rfl
theorem cs39_75 {av : List Int} {h : XH} {Q : Nat → List Int → XH → Prop} : CS39 75 av h Q = k75 av h Q := id rfl
theorem cs39_186 {av : List Int} {h : XH} {Q : Nat → List Int → XH → Prop} : CS39 186 av h Q = k186 av h Q := id rfl
theorem cs39_187 {av : List Int} {h : XH} {Q : Nat → List Int → XH → Prop} : CS39 187 av h Q = k187 av h Q := id rfl
theorem cs39_188 {av : List Int} {h : XH} {Q : Nat → List Int → XH → Prop} : CS39 188 av h Q = k188 av h Q := id rfl
theorem cs39_189 {av : List Int} {h : XH} {Q : Nat → List Int → XH → Prop} : CS39 189 av h Q = k189 av h Q := id rfl
theorem cs39_191 {av : List Int} {h : XH} {Q : Nat → List Int → XH → Prop} : CS39 191 av h Q = k191 av h Q := id rfl
theorem cs39_192 {av : List Int} {h : XH} {Q : Nat → List Int → XH → Prop} : CS39 192 av h Q = k192 av h Q := id rfl
theorem cs39_193 {av : List Int} {h : XH} {Q : Nat → List Int → XH → Prop} : CS39 193 av h Q = k193 av h Q := id rfl
theorem cs39_198 {av : List Int} {h : XH} {Q : Nat → List Int → XH → Prop} : CS39 198 av h Q = k198 av h Q := id rfl
theorem cs39_207 {av : List Int} {h : XH} {Q : Nat → List Int → XH → Prop} : CS39 207 av h Q = k207 av h Q := id rfl
theorem cs39_195 {av : List Int} {h : XH} {Q : Nat → List Int → XH → Prop} : CS39 195 av h Q = k195 av h Q := id rfl
theorem cs39_196 {av : List Int} {h : XH} {Q : Nat → List Int → XH → Prop} : CS39 196 av h Q = k196 av h Q := id rfl
theorem cs39_201 {av : List Int} {h : XH} {Q : Nat → List Int → XH → Prop} : CS39 201 av h Q = k201 av h Q := id rfl
theorem cs39_203 {av : List Int} {h : XH} {Q : Nat → List Int → XH → Prop} : CS39 203 av h Q = k203 av h Q := id rfl
theorem cs39_204 {av : List Int} {h : XH} {Q : Nat → List Int → XH → Prop} : CS39 204 av h Q = k204 av h Q := id rfl
theorem cs39_194 {av : List Int} {h : XH} {Q : Nat → List Int → XH → Prop} : CS39 194 av h Q = k194 av h Q := id rfl
theorem cs39_197 {av : List Int} {h : XH} {Q : Nat → List Int → XH → Prop} : CS39 197 av h Q = k197 av h Q := id rfl
theorem cs39_200 {av : List Int} {h : XH} {Q : Nat → List Int → XH → Prop} : CS39 200 av h Q = k200 av h Q := id rfl
theorem cs39_202 {av : List Int} {h : XH} {Q : Nat → List Int → XH → Prop} : CS39 202 av h Q = k202 av h Q := id rfl
theorem cs39_205 {av : List Int} {h : XH} {Q : Nat → List Int → XH → Prop} : CS39 205 av h Q = k205 av h Q := id rfl
theorem cs39_208 {av : List Int} {h : XH} {Q : Nat → List Int → XH → Prop} : CS39 208 av h Q = k208 av h Q := id rfl
theorem cs39_209 {av : List Int} {h : XH} {Q : Nat → List Int → XH → Prop} : CS39 209 av h Q = k209 av h Q := id rfl
theorem cs39_211 {av : List Int} {h : XH} {Q : Nat → List Int → XH → Prop} : CS39 211 av h Q = k211 av h Q := id rfl
theorem cs39_216 {av : List Int} {h : XH} {Q : Nat → List Int → XH → Prop} : CS39 216 av h Q = k216 av h Q := id rfl
theorem cs39_217 {av : List Int} {h : XH} {Q : Nat → List Int → XH → Prop} : CS39 217 av h Q = k217 av h Q := id rfl
theorem cs39_218 {av : List Int} {h : XH} {Q : Nat → List Int → XH → Prop} : CS39 218 av h Q = k218 av h Q := id rfl
theorem cs39_219 {av : List Int} {h : XH} {Q : Nat → List Int → XH → Prop} : CS39 219 av h Q = k219 av h Q := id rfl
theorem cs39_220 {av : List Int} {h : XH} {Q : Nat → List Int → XH → Prop} : CS39 220 av h Q = k220 av h Q := id rfl
theorem cs39_221 {av : List Int} {h : XH} {Q : Nat → List Int → XH → Prop} : CS39 221 av h Q = k221 av h Q := id rfl
theorem cs39_210 {av : List Int} {h : XH} {Q : Nat → List Int → XH → Prop} : CS39 210 av h Q = k210 av h Q := id rfl
theorem cs39_212 {av : List Int} {h : XH} {Q : Nat → List Int → XH → Prop} : CS39 212 av h Q = k212 av h Q := id rfl
theorem cs39_213 {av : List Int} {h : XH} {Q : Nat → List Int → XH → Prop} : CS39 213 av h Q = k213 av h Q := id rfl
theorem cs39_190 {av : List Int} {h : XH} {Q : Nat → List Int → XH → Prop} : CS39 190 av h Q = k190 av h Q := id rfl
theorem cs39_199 {av : List Int} {h : XH} {Q : Nat → List Int → XH → Prop} : CS39 199 av h Q = k199 av h Q := id rfl
theorem cs39_225 {av : List Int} {h : XH} {Q : Nat → List Int → XH → Prop} : CS39 225 av h Q = k225 av h Q := id rfl
theorem cs39_226 {av : List Int} {h : XH} {Q : Nat → List Int → XH → Prop} : CS39 226 av h Q = k226 av h Q := id rfl
theorem cs39_227 {av : List Int} {h : XH} {Q : Nat → List Int → XH → Prop} : CS39 227 av h Q = k227 av h Q := id rfl
theorem cs39_228 {av : List Int} {h : XH} {Q : Nat → List Int → XH → Prop} : CS39 228 av h Q = k228 av h Q := id rfl
theorem cs39_333 {av : List Int} {h : XH} {Q : Nat → List Int → XH → Prop} : CS39 333 av h Q = k333 av h Q := id rfl
theorem cs39_67 {av : List Int} {h : XH} {Q : Nat → List Int → XH → Prop} : CS39 67 av h Q = k67 av h Q := id rfl
theorem cs39_65 {av : List Int} {h : XH} {Q : Nat → List Int → XH → Prop} : CS39 65 av h Q = k65 av h Q := id rfl
theorem cs39_66 {av : List Int} {h : XH} {Q : Nat → List Int → XH → Prop} : CS39 66 av h Q = k66 av h Q := id rfl
theorem cs39_64 {av : List Int} {h : XH} {Q : Nat → List Int → XH → Prop} : CS39 64 av h Q = k64 av h Q := id rfl
theorem cs39_63 {av : List Int} {h : XH} {Q : Nat → List Int → XH → Prop} : CS39 63 av h Q = k63 av h Q := id rfl
theorem cs39_77 {av : List Int} {h : XH} {Q : Nat → List Int → XH → Prop} : CS39 77 av h Q = k77 av h Q := id rfl
theorem cs39_76 {av : List Int} {h : XH} {Q : Nat → List Int → XH → Prop} : CS39 76 av h Q = k76 av h Q := id rfl
theorem cs39_133 {av : List Int} {h : XH} {Q : Nat → List Int → XH → Prop} : CS39 133 av h Q = k133 av h Q := id rfl
theorem cs39_134 {av : List Int} {h : XH} {Q : Nat → List Int → XH → Prop} : CS39 134 av h Q = k134 av h Q := id rfl
theorem cs39_135 {av : List Int} {h : XH} {Q : Nat → List Int → XH → Prop} : CS39 135 av h Q = k135 av h Q := id rfl
theorem cs39_136 {av : List Int} {h : XH} {Q : Nat → List Int → XH → Prop} : CS39 136 av h Q = k136 av h Q := id rfl
theorem cs39_138 {av : List Int} {h : XH} {Q : Nat → List Int → XH → Prop} : CS39 138 av h Q = k138 av h Q := id rfl
theorem cs39_139 {av : List Int} {h : XH} {Q : Nat → List Int → XH → Prop} : CS39 139 av h Q = k139 av h Q := id rfl
theorem cs39_105 {av : List Int} {h : XH} {Q : Nat → List Int → XH → Prop} : CS39 105 av h Q = k105 av h Q := id rfl
theorem cs39_102 {av : List Int} {h : XH} {Q : Nat → List Int → XH → Prop} : CS39 102 av h Q = k102 av h Q := id rfl
theorem cs39_103 {av : List Int} {h : XH} {Q : Nat → List Int → XH → Prop} : CS39 103 av h Q = k103 av h Q := id rfl
theorem cs39_104 {av : List Int} {h : XH} {Q : Nat → List Int → XH → Prop} : CS39 104 av h Q = k104 av h Q := id rfl
theorem cs39_106 {av : List Int} {h : XH} {Q : Nat → List Int → XH → Prop} : CS39 106 av h Q = k106 av h Q := id rfl
theorem cs39_140 {av : List Int} {h : XH} {Q : Nat → List Int → XH → Prop} : CS39 140 av h Q = k140 av h Q := id rfl
theorem cs39_137 {av : List Int} {h : XH} {Q : Nat → List Int → XH → Prop} : CS39 137 av h Q = k137 av h Q := id rfl
theorem cs39_127 {av : List Int} {h : XH} {Q : Nat → List Int → XH → Prop} : CS39 127 av h Q = k127 av h Q := id rfl
theorem cs39_56 {av : List Int} {h : XH} {Q : Nat → List Int → XH → Prop} : CS39 56 av h Q = k56 av h Q := id rfl
theorem cs39_57 {av : List Int} {h : XH} {Q : Nat → List Int → XH → Prop} : CS39 57 av h Q = k57 av h Q := id rfl
theorem cs39_79 {av : List Int} {h : XH} {Q : Nat → List Int → XH → Prop} : CS39 79 av h Q = k79 av h Q := id rfl
theorem cs39_101 {av : List Int} {h : XH} {Q : Nat → List Int → XH → Prop} : CS39 101 av h Q = k101 av h Q := id rfl
theorem cs39_96 {av : List Int} {h : XH} {Q : Nat → List Int → XH → Prop} : CS39 96 av h Q = k96 av h Q := id rfl
theorem cs39_99 {av : List Int} {h : XH} {Q : Nat → List Int → XH → Prop} : CS39 99 av h Q = k99c av h Q := id rfl
theorem cs39_100 {av : List Int} {h : XH} {Q : Nat → List Int → XH → Prop} : CS39 100 av h Q = k100 av h Q := id rfl
theorem cs39_98 {av : List Int} {h : XH} {Q : Nat → List Int → XH → Prop} : CS39 98 av h Q = k98 av h Q := id rfl
theorem cs39_122 {av : List Int} {h : XH} {Q : Nat → List Int → XH → Prop} : CS39 122 av h Q = k122 av h Q := id rfl
theorem cs39_123 {av : List Int} {h : XH} {Q : Nat → List Int → XH → Prop} : CS39 123 av h Q = k123 av h Q := id rfl
theorem cs39_124 {av : List Int} {h : XH} {Q : Nat → List Int → XH → Prop} : CS39 124 av h Q = k124 av h Q := id rfl
theorem cs39_125 {av : List Int} {h : XH} {Q : Nat → List Int → XH → Prop} : CS39 125 av h Q = k125 av h Q := id rfl
theorem cs39_126 {av : List Int} {h : XH} {Q : Nat → List Int → XH → Prop} : CS39 126 av h Q = k126 av h Q := id rfl
theorem cs39_84 {av : List Int} {h : XH} {Q : Nat → List Int → XH → Prop} : CS39 84 av h Q = k84 av h Q := id rfl
theorem cs39_82 {av : List Int} {h : XH} {Q : Nat → List Int → XH → Prop} : CS39 82 av h Q = k82 av h Q := id rfl
theorem cs39_83 {av : List Int} {h : XH} {Q : Nat → List Int → XH → Prop} : CS39 83 av h Q = k83 av h Q := id rfl
theorem cs39_85 {av : List Int} {h : XH} {Q : Nat → List Int → XH → Prop} : CS39 85 av h Q = k85 av h Q := id rfl
theorem cs39_89 {av : List Int} {h : XH} {Q : Nat → List Int → XH → Prop} : CS39 89 av h Q = k89 av h Q := id rfl
theorem cs39_90 {av : List Int} {h : XH} {Q : Nat → List Int → XH → Prop} : CS39 90 av h Q = k90 av h Q := id rfl
theorem cs39_91 {av : List Int} {h : XH} {Q : Nat → List Int → XH → Prop} : CS39 91 av h Q = k91 av h Q := id rfl
theorem cs39_88 {av : List Int} {h : XH} {Q : Nat → List Int → XH → Prop} : CS39 88 av h Q = k88 av h Q := id rfl
theorem cs39_86 {av : List Int} {h : XH} {Q : Nat → List Int → XH → Prop} : CS39 86 av h Q = k86 av h Q := id rfl
theorem cs39_87 {av : List Int} {h : XH} {Q : Nat → List Int → XH → Prop} : CS39 87 av h Q = k87 av h Q := id rfl
theorem cs39_81 {av : List Int} {h : XH} {Q : Nat → List Int → XH → Prop} : CS39 81 av h Q = k81 av h Q := id rfl
theorem cs39_128 {av : List Int} {h : XH} {Q : Nat → List Int → XH → Prop} : CS39 128 av h Q = k128 av h Q := id rfl
theorem cs39_119 {av : List Int} {h : XH} {Q : Nat → List Int → XH → Prop} : CS39 119 av h Q = k119 av h Q := id rfl
theorem cs39_58 {av : List Int} {h : XH} {Q : Nat → List Int → XH → Prop} : CS39 58 av h Q = k58 av h Q := id rfl
theorem cs39_80 {av : List Int} {h : XH} {Q : Nat → List Int → XH → Prop} : CS39 80 av h Q = k80 av h Q := id rfl
theorem cs39_97 {av : List Int} {h : XH} {Q : Nat → List Int → XH → Prop} : CS39 97 av h Q = k97s av h Q := id rfl
theorem cs39_156 {av : List Int} {h : XH} {Q : Nat → List Int → XH → Prop} : CS39 156 av h Q = k156 av h Q := id rfl
theorem cs39_142 {av : List Int} {h : XH} {Q : Nat → List Int → XH → Prop} : CS39 142 av h Q = k142 av h Q := id rfl
theorem cs39_3 {av : List Int} {h : XH} {Q : Nat → List Int → XH → Prop} : CS39 3 av h Q = k3s av h Q := id rfl
theorem cs39_61 {av : List Int} {h : XH} {Q : Nat → List Int → XH → Prop} : CS39 61 av h Q = k61z av h Q := id rfl
theorem cs39_2 {av : List Int} {h : XH} {Q : Nat → List Int → XH → Prop} : CS39 2 av h Q = k2s av h Q := id rfl
theorem cs39_240 {av : List Int} {h : XH} {Q : Nat → List Int → XH → Prop} : CS39 240 av h Q = k240s av h Q := id rfl
theorem cs39_241 {av : List Int} {h : XH} {Q : Nat → List Int → XH → Prop} : CS39 241 av h Q = k241s av h Q := id rfl
theorem cs39_206 {av : List Int} {h : XH} {Q : Nat → List Int → XH → Prop} : CS39 206 av h Q = k206s av h Q := id rfl
theorem cs39_113 {av : List Int} {h : XH} {Q : Nat → List Int → XH → Prop} : CS39 113 av h Q = k113 av h Q := id rfl
theorem cs39_114 {av : List Int} {h : XH} {Q : Nat → List Int → XH → Prop} : CS39 114 av h Q = k114 av h Q := id rfl
theorem cs39_116 {av : List Int} {h : XH} {Q : Nat → List Int → XH → Prop} : CS39 116 av h Q = k116 av h Q := id rfl
theorem cs39_117 {av : List Int} {h : XH} {Q : Nat → List Int → XH → Prop} : CS39 117 av h Q = k117 av h Q := id rfl
theorem cs39_121 {av : List Int} {h : XH} {Q : Nat → List Int → XH → Prop} : CS39 121 av h Q = k121 av h Q := id rfl
theorem cs39_129 {av : List Int} {h : XH} {Q : Nat → List Int → XH → Prop} : CS39 129 av h Q = k129 av h Q := id rfl
theorem cs39_130 {av : List Int} {h : XH} {Q : Nat → List Int → XH → Prop} : CS39 130 av h Q = k130 av h Q := id rfl
theorem cs39_131 {av : List Int} {h : XH} {Q : Nat → List Int → XH → Prop} : CS39 131 av h Q = k131 av h Q := id rfl
theorem cs39_132 {av : List Int} {h : XH} {Q : Nat → List Int → XH → Prop} : CS39 132 av h Q = k132 av h Q := id rfl
theorem cs39_120 {av : List Int} {h : XH} {Q : Nat → List Int → XH → Prop} : CS39 120 av h Q = k120 av h Q := id rfl
theorem cs39_4 {av : List Int} {h : XH} {Q : Nat → List Int → XH → Prop} : CS39 4 av h Q = k4 av h Q := id rfl
theorem cs39_229 {av : List Int} {h : XH} {Q : Nat → List Int → XH → Prop} : CS39 229 av h Q = k229 av h Q := id rfl
theorem cs39_233 {av : List Int} {h : XH} {Q : Nat → List Int → XH → Prop} : CS39 233 av h Q = k233 av h Q := id rfl
theorem cs39_234 {av : List Int} {h : XH} {Q : Nat → List Int → XH → Prop} : CS39 234 av h Q = k234 av h Q := id rfl
theorem cs39_215 {av : List Int} {h : XH} {Q : Nat → List Int → XH → Prop} : CS39 215 av h Q = k215 av h Q := id rfl
theorem cs39_214 {av : List Int} {h : XH} {Q : Nat → List Int → XH → Prop} : CS39 214 av h Q = k214 av h Q := id rfl
theorem cs39_146 {av : List Int} {h : XH} {Q : Nat → List Int → XH → Prop} : CS39 146 av h Q = k146 av h Q := id rfl
theorem cs39_147 {av : List Int} {h : XH} {Q : Nat → List Int → XH → Prop} : CS39 147 av h Q = k147 av h Q := id rfl
theorem cs39_149 {av : List Int} {h : XH} {Q : Nat → List Int → XH → Prop} : CS39 149 av h Q = k149 av h Q := id rfl
theorem cs39_155 {av : List Int} {h : XH} {Q : Nat → List Int → XH → Prop} : CS39 155 av h Q = k155 av h Q := id rfl
theorem cs39_157 {av : List Int} {h : XH} {Q : Nat → List Int → XH → Prop} : CS39 157 av h Q = k157 av h Q := id rfl
theorem cs39_165 {av : List Int} {h : XH} {Q : Nat → List Int → XH → Prop} : CS39 165 av h Q = k165 av h Q := id rfl
theorem cs39_59 {av : List Int} {h : XH} {Q : Nat → List Int → XH → Prop} : CS39 59 av h Q = k59 av h Q := id rfl
theorem cs39_107 {av : List Int} {h : XH} {Q : Nat → List Int → XH → Prop} : CS39 107 av h Q = k107 av h Q := id rfl
theorem cs39_108 {av : List Int} {h : XH} {Q : Nat → List Int → XH → Prop} : CS39 108 av h Q = k108 av h Q := id rfl
theorem cs39_109 {av : List Int} {h : XH} {Q : Nat → List Int → XH → Prop} : CS39 109 av h Q = k109 av h Q := id rfl
theorem cs39_110 {av : List Int} {h : XH} {Q : Nat → List Int → XH → Prop} : CS39 110 av h Q = k110 av h Q := id rfl
theorem cs39_111 {av : List Int} {h : XH} {Q : Nat → List Int → XH → Prop} : CS39 111 av h Q = k111 av h Q := id rfl
theorem cs39_112 {av : List Int} {h : XH} {Q : Nat → List Int → XH → Prop} : CS39 112 av h Q = k112 av h Q := id rfl
theorem cs39_143 {av : List Int} {h : XH} {Q : Nat → List Int → XH → Prop} : CS39 143 av h Q = k143 av h Q := id rfl
theorem cs39_170 {av : List Int} {h : XH} {Q : Nat → List Int → XH → Prop} : CS39 170 av h Q = k170 av h Q := id rfl
theorem cs39_168 {av : List Int} {h : XH} {Q : Nat → List Int → XH → Prop} : CS39 168 av h Q = k168 av h Q := id rfl
theorem cs39_169 {av : List Int} {h : XH} {Q : Nat → List Int → XH → Prop} : CS39 169 av h Q = k169 av h Q := id rfl
theorem cs39_181 {av : List Int} {h : XH} {Q : Nat → List Int → XH → Prop} : CS39 181 av h Q = k181 av h Q := id rfl
theorem cs39_5 {av : List Int} {h : XH} {Q : Nat → List Int → XH → Prop} : CS39 5 av h Q = k5 av h Q := id rfl
theorem cs39_6 {av : List Int} {h : XH} {Q : Nat → List Int → XH → Prop} : CS39 6 av h Q = k6 av h Q := id rfl
theorem cs39_7 {av : List Int} {h : XH} {Q : Nat → List Int → XH → Prop} : CS39 7 av h Q = k7 av h Q := id rfl
theorem cs39_8 {av : List Int} {h : XH} {Q : Nat → List Int → XH → Prop} : CS39 8 av h Q = k8 av h Q := id rfl
theorem cs39_9 {av : List Int} {h : XH} {Q : Nat → List Int → XH → Prop} : CS39 9 av h Q = k9 av h Q := id rfl
theorem cs39_10 {av : List Int} {h : XH} {Q : Nat → List Int → XH → Prop} : CS39 10 av h Q = k10s av h Q := id rfl
theorem cs39_11 {av : List Int} {h : XH} {Q : Nat → List Int → XH → Prop} : CS39 11 av h Q = k11 av h Q := id rfl
theorem cs39_12 {av : List Int} {h : XH} {Q : Nat → List Int → XH → Prop} : CS39 12 av h Q = k12s av h Q := id rfl
theorem cs39_40 {av : List Int} {h : XH} {Q : Nat → List Int → XH → Prop} : CS39 40 av h Q = k40s av h Q := id rfl
theorem cs39_49 {av : List Int} {h : XH} {Q : Nat → List Int → XH → Prop} : CS39 49 av h Q = k49 av h Q := id rfl
theorem cs39_50 {av : List Int} {h : XH} {Q : Nat → List Int → XH → Prop} : CS39 50 av h Q = k50 av h Q := id rfl
theorem cs39_48 {av : List Int} {h : XH} {Q : Nat → List Int → XH → Prop} : CS39 48 av h Q = k48 av h Q := id rfl
theorem cs39_224 {av : List Int} {h : XH} {Q : Nat → List Int → XH → Prop} : CS39 224 av h Q = k224s av h Q := id rfl
theorem cs39_230 {av : List Int} {h : XH} {Q : Nat → List Int → XH → Prop} : CS39 230 av h Q = k230 av h Q := id rfl
theorem cs39_235 {av : List Int} {h : XH} {Q : Nat → List Int → XH → Prop} : CS39 235 av h Q = k235 av h Q := id rfl
theorem cs39_236 {av : List Int} {h : XH} {Q : Nat → List Int → XH → Prop} : CS39 236 av h Q = k236 av h Q := id rfl
theorem cs39_237 {av : List Int} {h : XH} {Q : Nat → List Int → XH → Prop} : CS39 237 av h Q = k237 av h Q := id rfl
theorem cs39_238 {av : List Int} {h : XH} {Q : Nat → List Int → XH → Prop} : CS39 238 av h Q = k238 av h Q := id rfl
theorem cs39_243 {av : List Int} {h : XH} {Q : Nat → List Int → XH → Prop} : CS39 243 av h Q = k243 av h Q := id rfl
theorem cs39_256 {av : List Int} {h : XH} {Q : Nat → List Int → XH → Prop} : CS39 256 av h Q = k256 av h Q := id rfl
theorem cs39_264 {av : List Int} {h : XH} {Q : Nat → List Int → XH → Prop} : CS39 264 av h Q = k264 av h Q := id rfl
theorem cs39_266 {av : List Int} {h : XH} {Q : Nat → List Int → XH → Prop} : CS39 266 av h Q = k266 av h Q := id rfl
theorem cs39_239 {av : List Int} {h : XH} {Q : Nat → List Int → XH → Prop} : CS39 239 av h Q = k239 av h Q := id rfl
theorem cs39_242 {av : List Int} {h : XH} {Q : Nat → List Int → XH → Prop} : CS39 242 av h Q = k242s av h Q := id rfl
theorem cs39_260 {av : List Int} {h : XH} {Q : Nat → List Int → XH → Prop} : CS39 260 av h Q = k260 av h Q := id rfl
theorem cs39_261 {av : List Int} {h : XH} {Q : Nat → List Int → XH → Prop} : CS39 261 av h Q = k261 av h Q := id rfl
theorem cs39_262 {av : List Int} {h : XH} {Q : Nat → List Int → XH → Prop} : CS39 262 av h Q = k262 av h Q := id rfl
theorem cs39_263 {av : List Int} {h : XH} {Q : Nat → List Int → XH → Prop} : CS39 263 av h Q = k263 av h Q := id rfl
theorem cs39_265 {av : List Int} {h : XH} {Q : Nat → List Int → XH → Prop} : CS39 265 av h Q = k265 av h Q := id rfl
theorem cs39_267 {av : List Int} {h : XH} {Q : Nat → List Int → XH → Prop} : CS39 267 av h Q = k267 av h Q := id rfl
theorem cs39_268 {av : List Int} {h : XH} {Q : Nat → List Int → XH → Prop} : CS39 268 av h Q = k268 av h Q := id rfl
theorem cs39_272 {av : List Int} {h : XH} {Q : Nat → List Int → XH → Prop} : CS39 272 av h Q = k272 av h Q := id rfl
theorem cs39_304 {av : List Int} {h : XH} {Q : Nat → List Int → XH → Prop} : CS39 304 av h Q = k304 av h Q := id rfl
theorem cs39_311 {av : List Int} {h : XH} {Q : Nat → List Int → XH → Prop} : CS39 311 av h Q = k311 av h Q := id rfl
theorem cs39_254 {av : List Int} {h : XH} {Q : Nat → List Int → XH → Prop} : CS39 254 av h Q = k254f av h Q := id rfl
theorem cs39_257 {av : List Int} {h : XH} {Q : Nat → List Int → XH → Prop} : CS39 257 av h Q = k257f av h Q := id rfl
theorem cs39_269 {av : List Int} {h : XH} {Q : Nat → List Int → XH → Prop} : CS39 269 av h Q = k269 av h Q := id rfl
theorem m_269 : BodyOK CS39 CS39 269 := fun av h Q hQ => by
  rw [cs39_269] at hQ
  unfold k269 at hQ
  split at hQ
  · rename_i t b s c v
    obtain ⟨rfl, rfl, sn, cn, rfl, hs, rfl, hc_w, ⟨n, f, hn, hf, hi_w⟩, hQ⟩ := hQ
    have n16 : n ≤ 16 := pig 16 n f (fun k z => (hf k z).1) hi_w
    show pS CS39 bb_269 [182, 0, (sn : Int), (cn : Int), v, 0, 0, 0, 0] h _
    unfold bb_269
    have j355 : j32 355 = 355 := rfl
    have j356 : j32 356 = 356 := rfl
    simp only [qe_1, qe_3, qe_4, qe_5, qe_7, qe_72, qe_10, qe_102, qe_13, qe_14, qe_15, qe_16, qe_17, qe_18, qe_20, qe_22, qe_23, qe_21, qe_24, qe_25, qe_26, qe_27, qe_28, qe_30, qe_31, qe_32, qc_20, qc_22, qc_23, qc_21, qc_24, qc_25, qc_26, qc_27, qc_1, qc_3, qc_4, qc_7, qc_13, qc_28, qc_32, qs_1, qs_2, qs_3, qs_4, qs_5, qs_6, qs_9, qs_10, qs_11, qs_14, qs_15, qs_16, qs_27, qs_17, qs_18, qs_19, qs_20, qs_22, qs_23, qs_28, qs_25, qs_26, qs_7, qs_8, kc_1, kn_1, kc_2, kn_2, kc_3, kn_3, kc_4, kn_4, kc_5, kn_5, kc_6, kn_6, kc_7, kn_7, kc_8, kn_8, kc_9, kn_9, kc_10, kn_10, kc_11, kn_11, kc_12, kn_12, kc_13, kn_13, kc_14, kn_14, kc_15, kn_15, kc_16, kc_17, kc_18, kc_19, kc_20, kc_21, kc_22, kc_23, kc_30, kc_32, kc_40, kc_43, kc_45, kc_48, kc_52, kc_56, kc_57, kc_59, kc_60, kc_61, kc_63, kc_64, kc_72, kc_78, kc_97, kc_99, kc_122, kc_126, kc_128, kc_192, kc_200, kc_255, kc_999, kc_1000, kc_9999, kn_9999, kc_10000, kc_12345, kc_65536, kc_252645135, kc_858993459, kc_1103515245, kc_1431655765, kc_2147483647, kc_0, kc_24, kc_28, kc_37, kc_41, kc_42, kc_73, kc_91, kc_95, kc_96, kc_98, kc_100, kc_112, kc_125, kc_150, kc_162, kc_163, kc_168, kc_186, kc_190, kc_250, kc_355, kc_356, kc_404, kc_405, kc_429, kc_573, kc_1002, kc_1100, kc_1891, kc_2200, kc_4719, kc_4869, kc_4881, kc_5148, kc_19741, kc_25433, kc_320403, kc_628412, kc_629093, kc_660401, kc_679843, kc_918640, kc_979410, kc_1178088, kc_6232410, kc_24644941, kc_36238189, kc_38270444, kc_392531318, kc_425693491, kc_1342154595, kc_2147483648, kc_42328242873, kc_891704255789, kc_1722105685577, kc_1858726030364, ct_0, ct_1, ct_2, ct_3, ct_4, ct_5, cf_0, cf_1, cf_2, cf_3, cf_4, cf_5, w_ty6, w_ty7, m_sv, m_z0, m_hd, m_g0, m_gs, m_s0, m_ss, m_ap, m_an, forall_const, true_and, and_true, ne_eq, not_true_eq_false, not_false_eq_true, false_implies, true_implies, implies_true, eq_self, reduceCtorEq, Nat.reduceDiv, Nat.reduceMod, Int.reduceToNat, or_true, true_or, or_false, false_or, or_self, m_it, m_if, m_c1, m_01, m_02, m_03, m_04, m_10, m_12, m_13, m_14, m_20, m_21, m_23, m_24, m_30, m_31, m_32, m_34, m_40, m_41, m_42, m_43, Int.reduceLE, Int.reduceLT, Int.reduceGE, Int.reduceGT, Int.reduceNeg, Int.reduceAdd, Int.reduceSub, Int.reduceMul, Int.reduceEq, Int.reduceNe, Nat.reduceAdd, jun2, ro_0_0, ro_0_1, ro_0_2, ro_0_3, ro_0_4, ro_0_5, ro_0_6, ro_0_7, ro_0_8, ro_0_9, ro_0_10, ro_0_11, ro_0_12, ro_1_0, ro_1_1, ro_2_0, ro_4_0, ro_6_0, ro_6_1, ro_6_2, ro_6_3, ro_6_4, ro_6_5, ro_6_6, ro_6_7, ro_6_8, ro_8_0, ro_10_0, ro_12_0, ro_14_0, ro_16_0, ro_18_0, ro_20_0, ro_22_0, ro_22_1, ro_22_2, ro_23_0, ro_25_0, ro_27_0, ro_29_0, ro_29_1, ro_29_2, ro_29_3, ro_29_4, ro_29_5, ro_29_6, ro_29_7, ro_29_8, ro_31_0, ro_33_0, ro_35_0, ro_37_0, ro_39_0, ro_41_0, ro_43_0, ro_45_0, ro_45_1, ro_45_2, ro_46_0, ro_48_0, ro_50_0, ro_52_0, ro_52_1, ro_52_2, ro_52_3, ro_53_0, ro_55_0, ro_57_0, ro_59_0, ro_61_0, ro_61_1, ro_61_2, ro_61_3, ro_62_0, ro_64_0, ro_66_0, ro_68_0, ro_70_0, ro_70_1, ro_70_2, ro_70_3, ro_70_4, ro_70_5, ro_70_6, ro_70_7, ro_70_8, ro_70_9, ro_71_0, ro_73_0, ro_75_0, ro_77_0, ro_79_0, ro_81_0, ro_83_0, ro_85_0, ro_87_0, ro_89_0, ro_91_0, ro_91_1, ro_91_2, ro_91_3, ro_91_4, ro_91_5, ro_91_6, ro_91_7, ro_91_8, ro_91_9, ro_92_0, ro_94_0, ro_96_0, ro_98_0, ro_100_0, ro_102_0, ro_104_0, ro_106_0, ro_108_0, ro_110_0, ro_112_0, ro_112_1, ro_112_2, ro_112_3, ro_112_4, ro_112_5, ro_112_6, ro_112_7, ro_112_8, ro_112_9, ro_113_0, ro_115_0, ro_117_0, ro_119_0, ro_121_0, ro_123_0, ro_125_0, ro_127_0, ro_129_0, ro_131_0, ro_133_0, ro_133_1, ro_133_2, ro_133_3, ro_133_4, ro_133_5, ro_133_6, ro_133_7, ro_133_8, ro_133_9, ro_134_0, ro_136_0, ro_138_0, ro_140_0, ro_142_0, ro_144_0, ro_146_0, ro_148_0, ro_150_0, ro_152_0, ro_154_0, ro_155_0, ro_157_0, ro_157_1, ro_157_2, ro_157_3, ro_157_4, ro_157_5, ro_157_6, ro_157_7, ro_157_8, ro_157_9, ro_158_0, ro_160_0, ro_162_0, ro_164_0, ro_166_0, ro_168_0, ro_170_0, ro_172_0, ro_174_0, ro_176_0, ro_178_0, ro_180_0, ro_182_1, ro_182_4, ro_182_5, ro_182_6, ro_182_9, ro_182_10, ro_182_11, ro_182_13, ro_182_14, ro_182_15, ro_182_16, ro_182_17, ro_182_20, ro_182_21, ro_182_22, ro_182_23, ro_182_24, ro_182_26, ro_182_27, ro_182_28, lo_3, lo_5, lo_7, lo_9, lo_11, lo_13, lo_15, lo_17, lo_19, lo_21, lo_24, lo_26, lo_28, lo_30, lo_32, lo_34, lo_36, lo_38, lo_40, lo_42, lo_44, lo_47, lo_49, lo_51, lo_54, lo_56, lo_58, lo_60, lo_63, lo_65, lo_67, lo_69, lo_72, lo_74, lo_76, lo_78, lo_80, lo_82, lo_84, lo_86, lo_88, lo_90, lo_93, lo_95, lo_97, lo_99, lo_101, lo_103, lo_105, lo_107, lo_109, lo_111, lo_114, lo_116, lo_118, lo_120, lo_122, lo_124, lo_126, lo_128, lo_130, lo_132, lo_135, lo_137, lo_139, lo_141, lo_143, lo_145, lo_147, lo_149, lo_151, lo_153, lo_156, lo_159, lo_161, lo_163, lo_165, lo_167, lo_169, lo_171, lo_173, lo_175, lo_177, lo_179, lo_181, lo_183, lo_184, lo_185, lo_186, lo_187, lo_188, lo_189, lo_190, lo_191, lo_192, lo_193, lo_194, lo_195, lo_196, lo_197, lo_198, lo_199, lo_200, lo_201, lo_202, lo_203, jp_nn, jp_eq, jp_e1, Classical.not_not, ji0, ji1, ji2, cs39_54, kk_54, cs39_55, kk_55, cs39_68, kk_68, cs39_69, kk_69, cs39_70, kk_70, cs39_71, kk_71, cs39_72, kk_72, cs39_73, kk_73, cs39_74, kk_74, cs39_75, kk_75, cs39_186, kk_186, cs39_187, kk_187, cs39_188, kk_188, cs39_189, kk_189, cs39_191, kk_191, cs39_192, kk_192, cs39_193, kk_193, cs39_198, kk_198, cs39_207, kk_207, cs39_195, kk_195, cs39_196, kk_196, cs39_201, kk_201, cs39_203, kk_203, cs39_204, kk_204, cs39_194, kk_194, cs39_197, kk_197, cs39_200, kk_200, cs39_202, kk_202, cs39_205, kk_205, cs39_208, kk_208, cs39_209, kk_209, cs39_211, kk_211, cs39_216, kk_216, cs39_217, kk_217, cs39_218, kk_218, cs39_219, kk_219, cs39_220, kk_220, cs39_221, kk_221, cs39_210, kk_210, cs39_212, kk_212, cs39_213, kk_213, cs39_190, kk_190, cs39_199, kk_199, cs39_225, kk_225, cs39_226, kk_226, cs39_227, kk_227, cs39_228, kk_228, cs39_333, kk_333, cs39_67, kk_67, cs39_65, kk_65, cs39_66, kk_66, cs39_64, kk_64, cs39_63, kk_63, cs39_77, kk_77, cs39_76, kk_76, cs39_133, kk_133, cs39_134, kk_134, cs39_135, kk_135, cs39_136, kk_136, cs39_138, kk_138, cs39_139, kk_139, cs39_105, kk_105, cs39_102, kk_102, cs39_103, kk_103, cs39_104, kk_104, cs39_106, kk_106, cs39_140, kk_140, cs39_137, kk_137, cs39_127, kk_127, cs39_56, kk_56, cs39_57, kk_57, cs39_79, kk_79, cs39_101, kk_101, cs39_96, kk_96, cs39_99, kk_99, cs39_100, kk_100, cs39_98, kk_98, cs39_122, kk_122, cs39_123, kk_123, cs39_124, kk_124, cs39_125, kk_125, cs39_126, kk_126, cs39_84, kk_84, cs39_82, kk_82, cs39_83, kk_83, cs39_85, kk_85, cs39_89, kk_89, cs39_90, kk_90, cs39_91, kk_91, cs39_88, kk_88, cs39_86, kk_86, cs39_87, kk_87, cs39_81, kk_81, cs39_128, kk_128, cs39_119, kk_119, cs39_58, kk_58, cs39_80, kk_80, cs39_97, kk_97s, cs39_156, kk_156, cs39_142, kk_142, cs39_3, kk_3s, cs39_61, kk_61z, cs39_2, kk_2s, cs39_240, kk_240s, cs39_241, kk_241s, cs39_206, kk_206s, cs39_113, kk_113, cs39_114, kk_114, cs39_116, kk_116, cs39_117, kk_117, cs39_121, kk_121, cs39_129, kk_129, cs39_130, kk_130, cs39_131, kk_131, cs39_132, kk_132, cs39_120, kk_120, cs39_4, kk_4, cs39_229, kk_229, cs39_233, kk_233, cs39_234, kk_234, cs39_215, kk_215, cs39_214, kk_214, cs39_146, kk_146, cs39_147, kk_147, cs39_149, kk_149, cs39_155, kk_155, cs39_157, kk_157, cs39_165, kk_165, cs39_59, kk_59, cs39_107, kk_107, cs39_108, kk_108, cs39_109, kk_109, cs39_110, kk_110, cs39_111, kk_111, cs39_112, kk_112, cs39_143, kk_143, cs39_170, kk_170, cs39_168, kk_168, cs39_169, kk_169, cs39_181, kk_181, cs39_5, kk_5, cs39_6, kk_6, cs39_7, kk_7, cs39_8, kk_8, cs39_9, kk_9, cs39_10, kk_10s, cs39_11, kk_11, cs39_12, kk_12s, cs39_40, kk_40s, cs39_49, kk_49, cs39_50, kk_50, cs39_48, kk_48, cs39_224, kk_224s, cs39_230, kk_230, cs39_235, kk_235, cs39_236, kk_236, cs39_237, kk_237, cs39_238, kk_238, cs39_243, kk_243, cs39_256, kk_256, cs39_264, kk_264, cs39_266, kk_266, cs39_239, kk_239, cs39_242, kk_242s, cs39_260, kk_260, cs39_261, kk_261, cs39_262, kk_262, cs39_263, kk_263, cs39_265, kk_265, cs39_267, kk_267, cs39_268, kk_268, cs39_272, kk_272, cs39_304, kk_304, cs39_311, kk_311, cs39_254, kk_254f, cs39_257, kk_257f, cs39_269, kk_269, jl_0, jl_1, jl_2, jl_3, jl_4, jl_5, jl_6, jl_7, jl_8, jl_9, jl_10, jl_11, jl_12, jl_13, jl_14, jl_15, jl_16, jl_17, jl_18, jl_19, jl_20, jl_21, jl_22, jl_23, jl_24, jl_25, jl_26, jl_27, jl_28, jl_29, jl_30, jl_31, jl_32, jl_33, jl_34, jl_35, jl_36, jl_37, jl_38, jl_39, jl_40, jl_95, jl_96, jl_97, jl_98, jl_99, jl_100, jl_101, jl_102, jl_103, jl_104, jl_105, jl_106, jl_107, jl_108, jl_109, jl_110, jl_111, jl_112, jl_113, jl_114, jl_186, jl_1100, jr, ju, jpT, jpF, tnc, Nat.reduceEqDiff, reduceIte, and_false, false_and, not_true_eq_false, not_false_eq_true, or_false, gt_iff_lt, ge_iff_le, Int.lt_irrefl, Int.le_refl, j355, j356, hn]
    intros
    refine qp_lp (fun en h' => ∃ (k a : Nat) (i0 : Int), en = [182, 0, (sn : Int), (cn : Int), v, (n : Int), (a : Int), (k : Int), i0] ∧ k ≤ n ∧ h' = h ∧ ((a = n ∧ ∀ j : Nat, j < k → f j ≠ 4 * sn + cn) ∨ (a < n ∧ f a = 4 * sn + cn))) ⟨0, n, 0, rfl, Nat.zero_le _, rfl, Or.inl ⟨rfl, fun j z => by omega⟩⟩ ?_
    intro en h1 ⟨k, a, i0, e5_w, z1, z2, z3⟩
    subst e5_w
    subst z2
    by_cases y : (k : Int) < (n : Int)
    · have y2 : ¬ (n : Int) ≤ (k : Int) := by omega
      have ek := jk1 (k := k) (by omega)
      have ei : j32 (356 + j32 (3 * (k : Int))) = ((356 + 3 * k : Nat) : Int) := by
        rw [jcn (x := 3 * (k : Int)) (n := 3 * k) (by omega) (by omega)]
        exact jcn (by omega) (by omega)
      have ei1 : j32 (((356 + 3 * k : Nat) : Int) + 1) = ((356 + 3 * k + 1 : Nat) : Int) := jcn (by omega) (by omega)
      obtain ⟨f1_w, f2_w, f3_w⟩ := hf k (by omega)
      have go_w : ∀ j : Nat, j < k + 1 → f k ≠ 4 * sn + cn → (∀ j : Nat, j < k → f j ≠ 4 * sn + cn) → f j ≠ 4 * sn + cn := fun j z1 z2 z3 => by
        by_cases yj : j = k
        · rw [yj]
          exact z2
        · exact z3 j (by omega)
      by_cases w1_w : ((f k / 4 : Nat) : Int) = (sn : Int)
      · by_cases w2_w : ((f k % 4 : Nat) : Int) = (cn : Int)
        · simp only [qe_1, qe_3, qe_4, qe_5, qe_7, qe_72, qe_10, qe_102, qe_13, qe_14, qe_15, qe_16, qe_17, qe_18, qe_20, qe_22, qe_23, qe_21, qe_24, qe_25, qe_26, qe_27, qe_28, qe_30, qe_31, qe_32, qc_20, qc_22, qc_23, qc_21, qc_24, qc_25, qc_26, qc_27, qc_1, qc_3, qc_4, qc_7, qc_13, qc_28, qc_32, qs_1, qs_2, qs_3, qs_4, qs_5, qs_6, qs_9, qs_10, qs_11, qs_14, qs_15, qs_16, qs_27, qs_17, qs_18, qs_19, qs_20, qs_22, qs_23, qs_28, qs_25, qs_26, qs_7, qs_8, kc_1, kn_1, kc_2, kn_2, kc_3, kn_3, kc_4, kn_4, kc_5, kn_5, kc_6, kn_6, kc_7, kn_7, kc_8, kn_8, kc_9, kn_9, kc_10, kn_10, kc_11, kn_11, kc_12, kn_12, kc_13, kn_13, kc_14, kn_14, kc_15, kn_15, kc_16, kc_17, kc_18, kc_19, kc_20, kc_21, kc_22, kc_23, kc_30, kc_32, kc_40, kc_43, kc_45, kc_48, kc_52, kc_56, kc_57, kc_59, kc_60, kc_61, kc_63, kc_64, kc_72, kc_78, kc_97, kc_99, kc_122, kc_126, kc_128, kc_192, kc_200, kc_255, kc_999, kc_1000, kc_9999, kn_9999, kc_10000, kc_12345, kc_65536, kc_252645135, kc_858993459, kc_1103515245, kc_1431655765, kc_2147483647, kc_0, kc_24, kc_28, kc_37, kc_41, kc_42, kc_73, kc_91, kc_95, kc_96, kc_98, kc_100, kc_112, kc_125, kc_150, kc_162, kc_163, kc_168, kc_186, kc_190, kc_250, kc_355, kc_356, kc_404, kc_405, kc_429, kc_573, kc_1002, kc_1100, kc_1891, kc_2200, kc_4719, kc_4869, kc_4881, kc_5148, kc_19741, kc_25433, kc_320403, kc_628412, kc_629093, kc_660401, kc_679843, kc_918640, kc_979410, kc_1178088, kc_6232410, kc_24644941, kc_36238189, kc_38270444, kc_392531318, kc_425693491, kc_1342154595, kc_2147483648, kc_42328242873, kc_891704255789, kc_1722105685577, kc_1858726030364, ct_0, ct_1, ct_2, ct_3, ct_4, ct_5, cf_0, cf_1, cf_2, cf_3, cf_4, cf_5, w_ty6, w_ty7, m_sv, m_z0, m_hd, m_g0, m_gs, m_s0, m_ss, m_ap, m_an, forall_const, true_and, and_true, ne_eq, not_true_eq_false, not_false_eq_true, false_implies, true_implies, implies_true, eq_self, reduceCtorEq, Nat.reduceDiv, Nat.reduceMod, Int.reduceToNat, or_true, true_or, or_false, false_or, or_self, m_it, m_if, m_c1, m_01, m_02, m_03, m_04, m_10, m_12, m_13, m_14, m_20, m_21, m_23, m_24, m_30, m_31, m_32, m_34, m_40, m_41, m_42, m_43, Int.reduceLE, Int.reduceLT, Int.reduceGE, Int.reduceGT, Int.reduceNeg, Int.reduceAdd, Int.reduceSub, Int.reduceMul, Int.reduceEq, Int.reduceNe, Nat.reduceAdd, jun2, ro_0_0, ro_0_1, ro_0_2, ro_0_3, ro_0_4, ro_0_5, ro_0_6, ro_0_7, ro_0_8, ro_0_9, ro_0_10, ro_0_11, ro_0_12, ro_1_0, ro_1_1, ro_2_0, ro_4_0, ro_6_0, ro_6_1, ro_6_2, ro_6_3, ro_6_4, ro_6_5, ro_6_6, ro_6_7, ro_6_8, ro_8_0, ro_10_0, ro_12_0, ro_14_0, ro_16_0, ro_18_0, ro_20_0, ro_22_0, ro_22_1, ro_22_2, ro_23_0, ro_25_0, ro_27_0, ro_29_0, ro_29_1, ro_29_2, ro_29_3, ro_29_4, ro_29_5, ro_29_6, ro_29_7, ro_29_8, ro_31_0, ro_33_0, ro_35_0, ro_37_0, ro_39_0, ro_41_0, ro_43_0, ro_45_0, ro_45_1, ro_45_2, ro_46_0, ro_48_0, ro_50_0, ro_52_0, ro_52_1, ro_52_2, ro_52_3, ro_53_0, ro_55_0, ro_57_0, ro_59_0, ro_61_0, ro_61_1, ro_61_2, ro_61_3, ro_62_0, ro_64_0, ro_66_0, ro_68_0, ro_70_0, ro_70_1, ro_70_2, ro_70_3, ro_70_4, ro_70_5, ro_70_6, ro_70_7, ro_70_8, ro_70_9, ro_71_0, ro_73_0, ro_75_0, ro_77_0, ro_79_0, ro_81_0, ro_83_0, ro_85_0, ro_87_0, ro_89_0, ro_91_0, ro_91_1, ro_91_2, ro_91_3, ro_91_4, ro_91_5, ro_91_6, ro_91_7, ro_91_8, ro_91_9, ro_92_0, ro_94_0, ro_96_0, ro_98_0, ro_100_0, ro_102_0, ro_104_0, ro_106_0, ro_108_0, ro_110_0, ro_112_0, ro_112_1, ro_112_2, ro_112_3, ro_112_4, ro_112_5, ro_112_6, ro_112_7, ro_112_8, ro_112_9, ro_113_0, ro_115_0, ro_117_0, ro_119_0, ro_121_0, ro_123_0, ro_125_0, ro_127_0, ro_129_0, ro_131_0, ro_133_0, ro_133_1, ro_133_2, ro_133_3, ro_133_4, ro_133_5, ro_133_6, ro_133_7, ro_133_8, ro_133_9, ro_134_0, ro_136_0, ro_138_0, ro_140_0, ro_142_0, ro_144_0, ro_146_0, ro_148_0, ro_150_0, ro_152_0, ro_154_0, ro_155_0, ro_157_0, ro_157_1, ro_157_2, ro_157_3, ro_157_4, ro_157_5, ro_157_6, ro_157_7, ro_157_8, ro_157_9, ro_158_0, ro_160_0, ro_162_0, ro_164_0, ro_166_0, ro_168_0, ro_170_0, ro_172_0, ro_174_0, ro_176_0, ro_178_0, ro_180_0, ro_182_1, ro_182_4, ro_182_5, ro_182_6, ro_182_9, ro_182_10, ro_182_11, ro_182_13, ro_182_14, ro_182_15, ro_182_16, ro_182_17, ro_182_20, ro_182_21, ro_182_22, ro_182_23, ro_182_24, ro_182_26, ro_182_27, ro_182_28, lo_3, lo_5, lo_7, lo_9, lo_11, lo_13, lo_15, lo_17, lo_19, lo_21, lo_24, lo_26, lo_28, lo_30, lo_32, lo_34, lo_36, lo_38, lo_40, lo_42, lo_44, lo_47, lo_49, lo_51, lo_54, lo_56, lo_58, lo_60, lo_63, lo_65, lo_67, lo_69, lo_72, lo_74, lo_76, lo_78, lo_80, lo_82, lo_84, lo_86, lo_88, lo_90, lo_93, lo_95, lo_97, lo_99, lo_101, lo_103, lo_105, lo_107, lo_109, lo_111, lo_114, lo_116, lo_118, lo_120, lo_122, lo_124, lo_126, lo_128, lo_130, lo_132, lo_135, lo_137, lo_139, lo_141, lo_143, lo_145, lo_147, lo_149, lo_151, lo_153, lo_156, lo_159, lo_161, lo_163, lo_165, lo_167, lo_169, lo_171, lo_173, lo_175, lo_177, lo_179, lo_181, lo_183, lo_184, lo_185, lo_186, lo_187, lo_188, lo_189, lo_190, lo_191, lo_192, lo_193, lo_194, lo_195, lo_196, lo_197, lo_198, lo_199, lo_200, lo_201, lo_202, lo_203, jp_nn, jp_eq, jp_e1, Classical.not_not, ji0, ji1, ji2, cs39_54, kk_54, cs39_55, kk_55, cs39_68, kk_68, cs39_69, kk_69, cs39_70, kk_70, cs39_71, kk_71, cs39_72, kk_72, cs39_73, kk_73, cs39_74, kk_74, cs39_75, kk_75, cs39_186, kk_186, cs39_187, kk_187, cs39_188, kk_188, cs39_189, kk_189, cs39_191, kk_191, cs39_192, kk_192, cs39_193, kk_193, cs39_198, kk_198, cs39_207, kk_207, cs39_195, kk_195, cs39_196, kk_196, cs39_201, kk_201, cs39_203, kk_203, cs39_204, kk_204, cs39_194, kk_194, cs39_197, kk_197, cs39_200, kk_200, cs39_202, kk_202, cs39_205, kk_205, cs39_208, kk_208, cs39_209, kk_209, cs39_211, kk_211, cs39_216, kk_216, cs39_217, kk_217, cs39_218, kk_218, cs39_219, kk_219, cs39_220, kk_220, cs39_221, kk_221, cs39_210, kk_210, cs39_212, kk_212, cs39_213, kk_213, cs39_190, kk_190, cs39_199, kk_199, cs39_225, kk_225, cs39_226, kk_226, cs39_227, kk_227, cs39_228, kk_228, cs39_333, kk_333, cs39_67, kk_67, cs39_65, kk_65, cs39_66, kk_66, cs39_64, kk_64, cs39_63, kk_63, cs39_77, kk_77, cs39_76, kk_76, cs39_133, kk_133, cs39_134, kk_134, cs39_135, kk_135, cs39_136, kk_136, cs39_138, kk_138, cs39_139, kk_139, cs39_105, kk_105, cs39_102, kk_102, cs39_103, kk_103, cs39_104, kk_104, cs39_106, kk_106, cs39_140, kk_140, cs39_137, kk_137, cs39_127, kk_127, cs39_56, kk_56, cs39_57, kk_57, cs39_79, kk_79, cs39_101, kk_101, cs39_96, kk_96, cs39_99, kk_99, cs39_100, kk_100, cs39_98, kk_98, cs39_122, kk_122, cs39_123, kk_123, cs39_124, kk_124, cs39_125, kk_125, cs39_126, kk_126, cs39_84, kk_84, cs39_82, kk_82, cs39_83, kk_83, cs39_85, kk_85, cs39_89, kk_89, cs39_90, kk_90, cs39_91, kk_91, cs39_88, kk_88, cs39_86, kk_86, cs39_87, kk_87, cs39_81, kk_81, cs39_128, kk_128, cs39_119, kk_119, cs39_58, kk_58, cs39_80, kk_80, cs39_97, kk_97s, cs39_156, kk_156, cs39_142, kk_142, cs39_3, kk_3s, cs39_61, kk_61z, cs39_2, kk_2s, cs39_240, kk_240s, cs39_241, kk_241s, cs39_206, kk_206s, cs39_113, kk_113, cs39_114, kk_114, cs39_116, kk_116, cs39_117, kk_117, cs39_121, kk_121, cs39_129, kk_129, cs39_130, kk_130, cs39_131, kk_131, cs39_132, kk_132, cs39_120, kk_120, cs39_4, kk_4, cs39_229, kk_229, cs39_233, kk_233, cs39_234, kk_234, cs39_215, kk_215, cs39_214, kk_214, cs39_146, kk_146, cs39_147, kk_147, cs39_149, kk_149, cs39_155, kk_155, cs39_157, kk_157, cs39_165, kk_165, cs39_59, kk_59, cs39_107, kk_107, cs39_108, kk_108, cs39_109, kk_109, cs39_110, kk_110, cs39_111, kk_111, cs39_112, kk_112, cs39_143, kk_143, cs39_170, kk_170, cs39_168, kk_168, cs39_169, kk_169, cs39_181, kk_181, cs39_5, kk_5, cs39_6, kk_6, cs39_7, kk_7, cs39_8, kk_8, cs39_9, kk_9, cs39_10, kk_10s, cs39_11, kk_11, cs39_12, kk_12s, cs39_40, kk_40s, cs39_49, kk_49, cs39_50, kk_50, cs39_48, kk_48, cs39_224, kk_224s, cs39_230, kk_230, cs39_235, kk_235, cs39_236, kk_236, cs39_237, kk_237, cs39_238, kk_238, cs39_243, kk_243, cs39_256, kk_256, cs39_264, kk_264, cs39_266, kk_266, cs39_239, kk_239, cs39_242, kk_242s, cs39_260, kk_260, cs39_261, kk_261, cs39_262, kk_262, cs39_263, kk_263, cs39_265, kk_265, cs39_267, kk_267, cs39_268, kk_268, cs39_272, kk_272, cs39_304, kk_304, cs39_311, kk_311, cs39_254, kk_254f, cs39_257, kk_257f, cs39_269, kk_269, jl_0, jl_1, jl_2, jl_3, jl_4, jl_5, jl_6, jl_7, jl_8, jl_9, jl_10, jl_11, jl_12, jl_13, jl_14, jl_15, jl_16, jl_17, jl_18, jl_19, jl_20, jl_21, jl_22, jl_23, jl_24, jl_25, jl_26, jl_27, jl_28, jl_29, jl_30, jl_31, jl_32, jl_33, jl_34, jl_35, jl_36, jl_37, jl_38, jl_39, jl_40, jl_95, jl_96, jl_97, jl_98, jl_99, jl_100, jl_101, jl_102, jl_103, jl_104, jl_105, jl_106, jl_107, jl_108, jl_109, jl_110, jl_111, jl_112, jl_113, jl_114, jl_186, jl_1100, jr, ju, jpT, jpF, tnc, Nat.reduceEqDiff, reduceIte, and_false, false_and, not_true_eq_false, not_false_eq_true, or_false, gt_iff_lt, ge_iff_le, Int.lt_irrefl, Int.le_refl, j355, j356, y, y2, ek, ei, ei1, f2_w, f3_w, w1_w, w2_w]
          intros
          exact ⟨k + 1, k, _, rfl, by omega, Or.inr ⟨by omega, by omega⟩⟩
        · simp only [qe_1, qe_3, qe_4, qe_5, qe_7, qe_72, qe_10, qe_102, qe_13, qe_14, qe_15, qe_16, qe_17, qe_18, qe_20, qe_22, qe_23, qe_21, qe_24, qe_25, qe_26, qe_27, qe_28, qe_30, qe_31, qe_32, qc_20, qc_22, qc_23, qc_21, qc_24, qc_25, qc_26, qc_27, qc_1, qc_3, qc_4, qc_7, qc_13, qc_28, qc_32, qs_1, qs_2, qs_3, qs_4, qs_5, qs_6, qs_9, qs_10, qs_11, qs_14, qs_15, qs_16, qs_27, qs_17, qs_18, qs_19, qs_20, qs_22, qs_23, qs_28, qs_25, qs_26, qs_7, qs_8, kc_1, kn_1, kc_2, kn_2, kc_3, kn_3, kc_4, kn_4, kc_5, kn_5, kc_6, kn_6, kc_7, kn_7, kc_8, kn_8, kc_9, kn_9, kc_10, kn_10, kc_11, kn_11, kc_12, kn_12, kc_13, kn_13, kc_14, kn_14, kc_15, kn_15, kc_16, kc_17, kc_18, kc_19, kc_20, kc_21, kc_22, kc_23, kc_30, kc_32, kc_40, kc_43, kc_45, kc_48, kc_52, kc_56, kc_57, kc_59, kc_60, kc_61, kc_63, kc_64, kc_72, kc_78, kc_97, kc_99, kc_122, kc_126, kc_128, kc_192, kc_200, kc_255, kc_999, kc_1000, kc_9999, kn_9999, kc_10000, kc_12345, kc_65536, kc_252645135, kc_858993459, kc_1103515245, kc_1431655765, kc_2147483647, kc_0, kc_24, kc_28, kc_37, kc_41, kc_42, kc_73, kc_91, kc_95, kc_96, kc_98, kc_100, kc_112, kc_125, kc_150, kc_162, kc_163, kc_168, kc_186, kc_190, kc_250, kc_355, kc_356, kc_404, kc_405, kc_429, kc_573, kc_1002, kc_1100, kc_1891, kc_2200, kc_4719, kc_4869, kc_4881, kc_5148, kc_19741, kc_25433, kc_320403, kc_628412, kc_629093, kc_660401, kc_679843, kc_918640, kc_979410, kc_1178088, kc_6232410, kc_24644941, kc_36238189, kc_38270444, kc_392531318, kc_425693491, kc_1342154595, kc_2147483648, kc_42328242873, kc_891704255789, kc_1722105685577, kc_1858726030364, ct_0, ct_1, ct_2, ct_3, ct_4, ct_5, cf_0, cf_1, cf_2, cf_3, cf_4, cf_5, w_ty6, w_ty7, m_sv, m_z0, m_hd, m_g0, m_gs, m_s0, m_ss, m_ap, m_an, forall_const, true_and, and_true, ne_eq, not_true_eq_false, not_false_eq_true, false_implies, true_implies, implies_true, eq_self, reduceCtorEq, Nat.reduceDiv, Nat.reduceMod, Int.reduceToNat, or_true, true_or, or_false, false_or, or_self, m_it, m_if, m_c1, m_01, m_02, m_03, m_04, m_10, m_12, m_13, m_14, m_20, m_21, m_23, m_24, m_30, m_31, m_32, m_34, m_40, m_41, m_42, m_43, Int.reduceLE, Int.reduceLT, Int.reduceGE, Int.reduceGT, Int.reduceNeg, Int.reduceAdd, Int.reduceSub, Int.reduceMul, Int.reduceEq, Int.reduceNe, Nat.reduceAdd, jun2, ro_0_0, ro_0_1, ro_0_2, ro_0_3, ro_0_4, ro_0_5, ro_0_6, ro_0_7, ro_0_8, ro_0_9, ro_0_10, ro_0_11, ro_0_12, ro_1_0, ro_1_1, ro_2_0, ro_4_0, ro_6_0, ro_6_1, ro_6_2, ro_6_3, ro_6_4, ro_6_5, ro_6_6, ro_6_7, ro_6_8, ro_8_0, ro_10_0, ro_12_0, ro_14_0, ro_16_0, ro_18_0, ro_20_0, ro_22_0, ro_22_1, ro_22_2, ro_23_0, ro_25_0, ro_27_0, ro_29_0, ro_29_1, ro_29_2, ro_29_3, ro_29_4, ro_29_5, ro_29_6, ro_29_7, ro_29_8, ro_31_0, ro_33_0, ro_35_0, ro_37_0, ro_39_0, ro_41_0, ro_43_0, ro_45_0, ro_45_1, ro_45_2, ro_46_0, ro_48_0, ro_50_0, ro_52_0, ro_52_1, ro_52_2, ro_52_3, ro_53_0, ro_55_0, ro_57_0, ro_59_0, ro_61_0, ro_61_1, ro_61_2, ro_61_3, ro_62_0, ro_64_0, ro_66_0, ro_68_0, ro_70_0, ro_70_1, ro_70_2, ro_70_3, ro_70_4, ro_70_5, ro_70_6, ro_70_7, ro_70_8, ro_70_9, ro_71_0, ro_73_0, ro_75_0, ro_77_0, ro_79_0, ro_81_0, ro_83_0, ro_85_0, ro_87_0, ro_89_0, ro_91_0, ro_91_1, ro_91_2, ro_91_3, ro_91_4, ro_91_5, ro_91_6, ro_91_7, ro_91_8, ro_91_9, ro_92_0, ro_94_0, ro_96_0, ro_98_0, ro_100_0, ro_102_0, ro_104_0, ro_106_0, ro_108_0, ro_110_0, ro_112_0, ro_112_1, ro_112_2, ro_112_3, ro_112_4, ro_112_5, ro_112_6, ro_112_7, ro_112_8, ro_112_9, ro_113_0, ro_115_0, ro_117_0, ro_119_0, ro_121_0, ro_123_0, ro_125_0, ro_127_0, ro_129_0, ro_131_0, ro_133_0, ro_133_1, ro_133_2, ro_133_3, ro_133_4, ro_133_5, ro_133_6, ro_133_7, ro_133_8, ro_133_9, ro_134_0, ro_136_0, ro_138_0, ro_140_0, ro_142_0, ro_144_0, ro_146_0, ro_148_0, ro_150_0, ro_152_0, ro_154_0, ro_155_0, ro_157_0, ro_157_1, ro_157_2, ro_157_3, ro_157_4, ro_157_5, ro_157_6, ro_157_7, ro_157_8, ro_157_9, ro_158_0, ro_160_0, ro_162_0, ro_164_0, ro_166_0, ro_168_0, ro_170_0, ro_172_0, ro_174_0, ro_176_0, ro_178_0, ro_180_0, ro_182_1, ro_182_4, ro_182_5, ro_182_6, ro_182_9, ro_182_10, ro_182_11, ro_182_13, ro_182_14, ro_182_15, ro_182_16, ro_182_17, ro_182_20, ro_182_21, ro_182_22, ro_182_23, ro_182_24, ro_182_26, ro_182_27, ro_182_28, lo_3, lo_5, lo_7, lo_9, lo_11, lo_13, lo_15, lo_17, lo_19, lo_21, lo_24, lo_26, lo_28, lo_30, lo_32, lo_34, lo_36, lo_38, lo_40, lo_42, lo_44, lo_47, lo_49, lo_51, lo_54, lo_56, lo_58, lo_60, lo_63, lo_65, lo_67, lo_69, lo_72, lo_74, lo_76, lo_78, lo_80, lo_82, lo_84, lo_86, lo_88, lo_90, lo_93, lo_95, lo_97, lo_99, lo_101, lo_103, lo_105, lo_107, lo_109, lo_111, lo_114, lo_116, lo_118, lo_120, lo_122, lo_124, lo_126, lo_128, lo_130, lo_132, lo_135, lo_137, lo_139, lo_141, lo_143, lo_145, lo_147, lo_149, lo_151, lo_153, lo_156, lo_159, lo_161, lo_163, lo_165, lo_167, lo_169, lo_171, lo_173, lo_175, lo_177, lo_179, lo_181, lo_183, lo_184, lo_185, lo_186, lo_187, lo_188, lo_189, lo_190, lo_191, lo_192, lo_193, lo_194, lo_195, lo_196, lo_197, lo_198, lo_199, lo_200, lo_201, lo_202, lo_203, jp_nn, jp_eq, jp_e1, Classical.not_not, ji0, ji1, ji2, cs39_54, kk_54, cs39_55, kk_55, cs39_68, kk_68, cs39_69, kk_69, cs39_70, kk_70, cs39_71, kk_71, cs39_72, kk_72, cs39_73, kk_73, cs39_74, kk_74, cs39_75, kk_75, cs39_186, kk_186, cs39_187, kk_187, cs39_188, kk_188, cs39_189, kk_189, cs39_191, kk_191, cs39_192, kk_192, cs39_193, kk_193, cs39_198, kk_198, cs39_207, kk_207, cs39_195, kk_195, cs39_196, kk_196, cs39_201, kk_201, cs39_203, kk_203, cs39_204, kk_204, cs39_194, kk_194, cs39_197, kk_197, cs39_200, kk_200, cs39_202, kk_202, cs39_205, kk_205, cs39_208, kk_208, cs39_209, kk_209, cs39_211, kk_211, cs39_216, kk_216, cs39_217, kk_217, cs39_218, kk_218, cs39_219, kk_219, cs39_220, kk_220, cs39_221, kk_221, cs39_210, kk_210, cs39_212, kk_212, cs39_213, kk_213, cs39_190, kk_190, cs39_199, kk_199, cs39_225, kk_225, cs39_226, kk_226, cs39_227, kk_227, cs39_228, kk_228, cs39_333, kk_333, cs39_67, kk_67, cs39_65, kk_65, cs39_66, kk_66, cs39_64, kk_64, cs39_63, kk_63, cs39_77, kk_77, cs39_76, kk_76, cs39_133, kk_133, cs39_134, kk_134, cs39_135, kk_135, cs39_136, kk_136, cs39_138, kk_138, cs39_139, kk_139, cs39_105, kk_105, cs39_102, kk_102, cs39_103, kk_103, cs39_104, kk_104, cs39_106, kk_106, cs39_140, kk_140, cs39_137, kk_137, cs39_127, kk_127, cs39_56, kk_56, cs39_57, kk_57, cs39_79, kk_79, cs39_101, kk_101, cs39_96, kk_96, cs39_99, kk_99, cs39_100, kk_100, cs39_98, kk_98, cs39_122, kk_122, cs39_123, kk_123, cs39_124, kk_124, cs39_125, kk_125, cs39_126, kk_126, cs39_84, kk_84, cs39_82, kk_82, cs39_83, kk_83, cs39_85, kk_85, cs39_89, kk_89, cs39_90, kk_90, cs39_91, kk_91, cs39_88, kk_88, cs39_86, kk_86, cs39_87, kk_87, cs39_81, kk_81, cs39_128, kk_128, cs39_119, kk_119, cs39_58, kk_58, cs39_80, kk_80, cs39_97, kk_97s, cs39_156, kk_156, cs39_142, kk_142, cs39_3, kk_3s, cs39_61, kk_61z, cs39_2, kk_2s, cs39_240, kk_240s, cs39_241, kk_241s, cs39_206, kk_206s, cs39_113, kk_113, cs39_114, kk_114, cs39_116, kk_116, cs39_117, kk_117, cs39_121, kk_121, cs39_129, kk_129, cs39_130, kk_130, cs39_131, kk_131, cs39_132, kk_132, cs39_120, kk_120, cs39_4, kk_4, cs39_229, kk_229, cs39_233, kk_233, cs39_234, kk_234, cs39_215, kk_215, cs39_214, kk_214, cs39_146, kk_146, cs39_147, kk_147, cs39_149, kk_149, cs39_155, kk_155, cs39_157, kk_157, cs39_165, kk_165, cs39_59, kk_59, cs39_107, kk_107, cs39_108, kk_108, cs39_109, kk_109, cs39_110, kk_110, cs39_111, kk_111, cs39_112, kk_112, cs39_143, kk_143, cs39_170, kk_170, cs39_168, kk_168, cs39_169, kk_169, cs39_181, kk_181, cs39_5, kk_5, cs39_6, kk_6, cs39_7, kk_7, cs39_8, kk_8, cs39_9, kk_9, cs39_10, kk_10s, cs39_11, kk_11, cs39_12, kk_12s, cs39_40, kk_40s, cs39_49, kk_49, cs39_50, kk_50, cs39_48, kk_48, cs39_224, kk_224s, cs39_230, kk_230, cs39_235, kk_235, cs39_236, kk_236, cs39_237, kk_237, cs39_238, kk_238, cs39_243, kk_243, cs39_256, kk_256, cs39_264, kk_264, cs39_266, kk_266, cs39_239, kk_239, cs39_242, kk_242s, cs39_260, kk_260, cs39_261, kk_261, cs39_262, kk_262, cs39_263, kk_263, cs39_265, kk_265, cs39_267, kk_267, cs39_268, kk_268, cs39_272, kk_272, cs39_304, kk_304, cs39_311, kk_311, cs39_254, kk_254f, cs39_257, kk_257f, cs39_269, kk_269, jl_0, jl_1, jl_2, jl_3, jl_4, jl_5, jl_6, jl_7, jl_8, jl_9, jl_10, jl_11, jl_12, jl_13, jl_14, jl_15, jl_16, jl_17, jl_18, jl_19, jl_20, jl_21, jl_22, jl_23, jl_24, jl_25, jl_26, jl_27, jl_28, jl_29, jl_30, jl_31, jl_32, jl_33, jl_34, jl_35, jl_36, jl_37, jl_38, jl_39, jl_40, jl_95, jl_96, jl_97, jl_98, jl_99, jl_100, jl_101, jl_102, jl_103, jl_104, jl_105, jl_106, jl_107, jl_108, jl_109, jl_110, jl_111, jl_112, jl_113, jl_114, jl_186, jl_1100, jr, ju, jpT, jpF, tnc, Nat.reduceEqDiff, reduceIte, and_false, false_and, not_true_eq_false, not_false_eq_true, or_false, gt_iff_lt, ge_iff_le, Int.lt_irrefl, Int.le_refl, j355, j356, y, y2, ek, ei, ei1, f2_w, f3_w, w1_w, w2_w]
          intros
          refine ⟨k + 1, a, _, rfl, by omega, ?_⟩
          rcases z3 with ⟨za, z4⟩ | z5
          · exact Or.inl ⟨za, fun j z => go_w j z (by omega) z4⟩
          · exact Or.inr z5
      · simp only [qe_1, qe_3, qe_4, qe_5, qe_7, qe_72, qe_10, qe_102, qe_13, qe_14, qe_15, qe_16, qe_17, qe_18, qe_20, qe_22, qe_23, qe_21, qe_24, qe_25, qe_26, qe_27, qe_28, qe_30, qe_31, qe_32, qc_20, qc_22, qc_23, qc_21, qc_24, qc_25, qc_26, qc_27, qc_1, qc_3, qc_4, qc_7, qc_13, qc_28, qc_32, qs_1, qs_2, qs_3, qs_4, qs_5, qs_6, qs_9, qs_10, qs_11, qs_14, qs_15, qs_16, qs_27, qs_17, qs_18, qs_19, qs_20, qs_22, qs_23, qs_28, qs_25, qs_26, qs_7, qs_8, kc_1, kn_1, kc_2, kn_2, kc_3, kn_3, kc_4, kn_4, kc_5, kn_5, kc_6, kn_6, kc_7, kn_7, kc_8, kn_8, kc_9, kn_9, kc_10, kn_10, kc_11, kn_11, kc_12, kn_12, kc_13, kn_13, kc_14, kn_14, kc_15, kn_15, kc_16, kc_17, kc_18, kc_19, kc_20, kc_21, kc_22, kc_23, kc_30, kc_32, kc_40, kc_43, kc_45, kc_48, kc_52, kc_56, kc_57, kc_59, kc_60, kc_61, kc_63, kc_64, kc_72, kc_78, kc_97, kc_99, kc_122, kc_126, kc_128, kc_192, kc_200, kc_255, kc_999, kc_1000, kc_9999, kn_9999, kc_10000, kc_12345, kc_65536, kc_252645135, kc_858993459, kc_1103515245, kc_1431655765, kc_2147483647, kc_0, kc_24, kc_28, kc_37, kc_41, kc_42, kc_73, kc_91, kc_95, kc_96, kc_98, kc_100, kc_112, kc_125, kc_150, kc_162, kc_163, kc_168, kc_186, kc_190, kc_250, kc_355, kc_356, kc_404, kc_405, kc_429, kc_573, kc_1002, kc_1100, kc_1891, kc_2200, kc_4719, kc_4869, kc_4881, kc_5148, kc_19741, kc_25433, kc_320403, kc_628412, kc_629093, kc_660401, kc_679843, kc_918640, kc_979410, kc_1178088, kc_6232410, kc_24644941, kc_36238189, kc_38270444, kc_392531318, kc_425693491, kc_1342154595, kc_2147483648, kc_42328242873, kc_891704255789, kc_1722105685577, kc_1858726030364, ct_0, ct_1, ct_2, ct_3, ct_4, ct_5, cf_0, cf_1, cf_2, cf_3, cf_4, cf_5, w_ty6, w_ty7, m_sv, m_z0, m_hd, m_g0, m_gs, m_s0, m_ss, m_ap, m_an, forall_const, true_and, and_true, ne_eq, not_true_eq_false, not_false_eq_true, false_implies, true_implies, implies_true, eq_self, reduceCtorEq, Nat.reduceDiv, Nat.reduceMod, Int.reduceToNat, or_true, true_or, or_false, false_or, or_self, m_it, m_if, m_c1, m_01, m_02, m_03, m_04, m_10, m_12, m_13, m_14, m_20, m_21, m_23, m_24, m_30, m_31, m_32, m_34, m_40, m_41, m_42, m_43, Int.reduceLE, Int.reduceLT, Int.reduceGE, Int.reduceGT, Int.reduceNeg, Int.reduceAdd, Int.reduceSub, Int.reduceMul, Int.reduceEq, Int.reduceNe, Nat.reduceAdd, jun2, ro_0_0, ro_0_1, ro_0_2, ro_0_3, ro_0_4, ro_0_5, ro_0_6, ro_0_7, ro_0_8, ro_0_9, ro_0_10, ro_0_11, ro_0_12, ro_1_0, ro_1_1, ro_2_0, ro_4_0, ro_6_0, ro_6_1, ro_6_2, ro_6_3, ro_6_4, ro_6_5, ro_6_6, ro_6_7, ro_6_8, ro_8_0, ro_10_0, ro_12_0, ro_14_0, ro_16_0, ro_18_0, ro_20_0, ro_22_0, ro_22_1, ro_22_2, ro_23_0, ro_25_0, ro_27_0, ro_29_0, ro_29_1, ro_29_2, ro_29_3, ro_29_4, ro_29_5, ro_29_6, ro_29_7, ro_29_8, ro_31_0, ro_33_0, ro_35_0, ro_37_0, ro_39_0, ro_41_0, ro_43_0, ro_45_0, ro_45_1, ro_45_2, ro_46_0, ro_48_0, ro_50_0, ro_52_0, ro_52_1, ro_52_2, ro_52_3, ro_53_0, ro_55_0, ro_57_0, ro_59_0, ro_61_0, ro_61_1, ro_61_2, ro_61_3, ro_62_0, ro_64_0, ro_66_0, ro_68_0, ro_70_0, ro_70_1, ro_70_2, ro_70_3, ro_70_4, ro_70_5, ro_70_6, ro_70_7, ro_70_8, ro_70_9, ro_71_0, ro_73_0, ro_75_0, ro_77_0, ro_79_0, ro_81_0, ro_83_0, ro_85_0, ro_87_0, ro_89_0, ro_91_0, ro_91_1, ro_91_2, ro_91_3, ro_91_4, ro_91_5, ro_91_6, ro_91_7, ro_91_8, ro_91_9, ro_92_0, ro_94_0, ro_96_0, ro_98_0, ro_100_0, ro_102_0, ro_104_0, ro_106_0, ro_108_0, ro_110_0, ro_112_0, ro_112_1, ro_112_2, ro_112_3, ro_112_4, ro_112_5, ro_112_6, ro_112_7, ro_112_8, ro_112_9, ro_113_0, ro_115_0, ro_117_0, ro_119_0, ro_121_0, ro_123_0, ro_125_0, ro_127_0, ro_129_0, ro_131_0, ro_133_0, ro_133_1, ro_133_2, ro_133_3, ro_133_4, ro_133_5, ro_133_6, ro_133_7, ro_133_8, ro_133_9, ro_134_0, ro_136_0, ro_138_0, ro_140_0, ro_142_0, ro_144_0, ro_146_0, ro_148_0, ro_150_0, ro_152_0, ro_154_0, ro_155_0, ro_157_0, ro_157_1, ro_157_2, ro_157_3, ro_157_4, ro_157_5, ro_157_6, ro_157_7, ro_157_8, ro_157_9, ro_158_0, ro_160_0, ro_162_0, ro_164_0, ro_166_0, ro_168_0, ro_170_0, ro_172_0, ro_174_0, ro_176_0, ro_178_0, ro_180_0, ro_182_1, ro_182_4, ro_182_5, ro_182_6, ro_182_9, ro_182_10, ro_182_11, ro_182_13, ro_182_14, ro_182_15, ro_182_16, ro_182_17, ro_182_20, ro_182_21, ro_182_22, ro_182_23, ro_182_24, ro_182_26, ro_182_27, ro_182_28, lo_3, lo_5, lo_7, lo_9, lo_11, lo_13, lo_15, lo_17, lo_19, lo_21, lo_24, lo_26, lo_28, lo_30, lo_32, lo_34, lo_36, lo_38, lo_40, lo_42, lo_44, lo_47, lo_49, lo_51, lo_54, lo_56, lo_58, lo_60, lo_63, lo_65, lo_67, lo_69, lo_72, lo_74, lo_76, lo_78, lo_80, lo_82, lo_84, lo_86, lo_88, lo_90, lo_93, lo_95, lo_97, lo_99, lo_101, lo_103, lo_105, lo_107, lo_109, lo_111, lo_114, lo_116, lo_118, lo_120, lo_122, lo_124, lo_126, lo_128, lo_130, lo_132, lo_135, lo_137, lo_139, lo_141, lo_143, lo_145, lo_147, lo_149, lo_151, lo_153, lo_156, lo_159, lo_161, lo_163, lo_165, lo_167, lo_169, lo_171, lo_173, lo_175, lo_177, lo_179, lo_181, lo_183, lo_184, lo_185, lo_186, lo_187, lo_188, lo_189, lo_190, lo_191, lo_192, lo_193, lo_194, lo_195, lo_196, lo_197, lo_198, lo_199, lo_200, lo_201, lo_202, lo_203, jp_nn, jp_eq, jp_e1, Classical.not_not, ji0, ji1, ji2, cs39_54, kk_54, cs39_55, kk_55, cs39_68, kk_68, cs39_69, kk_69, cs39_70, kk_70, cs39_71, kk_71, cs39_72, kk_72, cs39_73, kk_73, cs39_74, kk_74, cs39_75, kk_75, cs39_186, kk_186, cs39_187, kk_187, cs39_188, kk_188, cs39_189, kk_189, cs39_191, kk_191, cs39_192, kk_192, cs39_193, kk_193, cs39_198, kk_198, cs39_207, kk_207, cs39_195, kk_195, cs39_196, kk_196, cs39_201, kk_201, cs39_203, kk_203, cs39_204, kk_204, cs39_194, kk_194, cs39_197, kk_197, cs39_200, kk_200, cs39_202, kk_202, cs39_205, kk_205, cs39_208, kk_208, cs39_209, kk_209, cs39_211, kk_211, cs39_216, kk_216, cs39_217, kk_217, cs39_218, kk_218, cs39_219, kk_219, cs39_220, kk_220, cs39_221, kk_221, cs39_210, kk_210, cs39_212, kk_212, cs39_213, kk_213, cs39_190, kk_190, cs39_199, kk_199, cs39_225, kk_225, cs39_226, kk_226, cs39_227, kk_227, cs39_228, kk_228, cs39_333, kk_333, cs39_67, kk_67, cs39_65, kk_65, cs39_66, kk_66, cs39_64, kk_64, cs39_63, kk_63, cs39_77, kk_77, cs39_76, kk_76, cs39_133, kk_133, cs39_134, kk_134, cs39_135, kk_135, cs39_136, kk_136, cs39_138, kk_138, cs39_139, kk_139, cs39_105, kk_105, cs39_102, kk_102, cs39_103, kk_103, cs39_104, kk_104, cs39_106, kk_106, cs39_140, kk_140, cs39_137, kk_137, cs39_127, kk_127, cs39_56, kk_56, cs39_57, kk_57, cs39_79, kk_79, cs39_101, kk_101, cs39_96, kk_96, cs39_99, kk_99, cs39_100, kk_100, cs39_98, kk_98, cs39_122, kk_122, cs39_123, kk_123, cs39_124, kk_124, cs39_125, kk_125, cs39_126, kk_126, cs39_84, kk_84, cs39_82, kk_82, cs39_83, kk_83, cs39_85, kk_85, cs39_89, kk_89, cs39_90, kk_90, cs39_91, kk_91, cs39_88, kk_88, cs39_86, kk_86, cs39_87, kk_87, cs39_81, kk_81, cs39_128, kk_128, cs39_119, kk_119, cs39_58, kk_58, cs39_80, kk_80, cs39_97, kk_97s, cs39_156, kk_156, cs39_142, kk_142, cs39_3, kk_3s, cs39_61, kk_61z, cs39_2, kk_2s, cs39_240, kk_240s, cs39_241, kk_241s, cs39_206, kk_206s, cs39_113, kk_113, cs39_114, kk_114, cs39_116, kk_116, cs39_117, kk_117, cs39_121, kk_121, cs39_129, kk_129, cs39_130, kk_130, cs39_131, kk_131, cs39_132, kk_132, cs39_120, kk_120, cs39_4, kk_4, cs39_229, kk_229, cs39_233, kk_233, cs39_234, kk_234, cs39_215, kk_215, cs39_214, kk_214, cs39_146, kk_146, cs39_147, kk_147, cs39_149, kk_149, cs39_155, kk_155, cs39_157, kk_157, cs39_165, kk_165, cs39_59, kk_59, cs39_107, kk_107, cs39_108, kk_108, cs39_109, kk_109, cs39_110, kk_110, cs39_111, kk_111, cs39_112, kk_112, cs39_143, kk_143, cs39_170, kk_170, cs39_168, kk_168, cs39_169, kk_169, cs39_181, kk_181, cs39_5, kk_5, cs39_6, kk_6, cs39_7, kk_7, cs39_8, kk_8, cs39_9, kk_9, cs39_10, kk_10s, cs39_11, kk_11, cs39_12, kk_12s, cs39_40, kk_40s, cs39_49, kk_49, cs39_50, kk_50, cs39_48, kk_48, cs39_224, kk_224s, cs39_230, kk_230, cs39_235, kk_235, cs39_236, kk_236, cs39_237, kk_237, cs39_238, kk_238, cs39_243, kk_243, cs39_256, kk_256, cs39_264, kk_264, cs39_266, kk_266, cs39_239, kk_239, cs39_242, kk_242s, cs39_260, kk_260, cs39_261, kk_261, cs39_262, kk_262, cs39_263, kk_263, cs39_265, kk_265, cs39_267, kk_267, cs39_268, kk_268, cs39_272, kk_272, cs39_304, kk_304, cs39_311, kk_311, cs39_254, kk_254f, cs39_257, kk_257f, cs39_269, kk_269, jl_0, jl_1, jl_2, jl_3, jl_4, jl_5, jl_6, jl_7, jl_8, jl_9, jl_10, jl_11, jl_12, jl_13, jl_14, jl_15, jl_16, jl_17, jl_18, jl_19, jl_20, jl_21, jl_22, jl_23, jl_24, jl_25, jl_26, jl_27, jl_28, jl_29, jl_30, jl_31, jl_32, jl_33, jl_34, jl_35, jl_36, jl_37, jl_38, jl_39, jl_40, jl_95, jl_96, jl_97, jl_98, jl_99, jl_100, jl_101, jl_102, jl_103, jl_104, jl_105, jl_106, jl_107, jl_108, jl_109, jl_110, jl_111, jl_112, jl_113, jl_114, jl_186, jl_1100, jr, ju, jpT, jpF, tnc, Nat.reduceEqDiff, reduceIte, and_false, false_and, not_true_eq_false, not_false_eq_true, or_false, gt_iff_lt, ge_iff_le, Int.lt_irrefl, Int.le_refl, j355, j356, y, y2, ek, ei, ei1, f2_w, f3_w, w1_w]
        intros
        refine ⟨k + 1, a, _, rfl, by omega, ?_⟩
        rcases z3 with ⟨za, z4⟩ | z5
        · exact Or.inl ⟨za, fun j z => go_w j z (by omega) z4⟩
        · exact Or.inr z5
    · have y2 : (n : Int) ≤ (k : Int) := by omega
      have ek : k = n := by omega
      subst ek
      have ei : j32 (356 + j32 (3 * (a : Int))) = ((356 + 3 * a : Nat) : Int) := by
        rw [jcn (x := 3 * (a : Int)) (n := 3 * a) (by omega) (by omega)]
        exact jcn (by omega) (by omega)
      have ei1 : j32 (((356 + 3 * a : Nat) : Int) + 1) = ((356 + 3 * a + 1 : Nat) : Int) := jcn (by omega) (by omega)
      have ei2 : j32 (((356 + 3 * a : Nat) : Int) + 2) = ((356 + 3 * a + 2 : Nat) : Int) := jcn (by omega) (by omega)
      have m1_w : ¬ 356 + 3 * a = 353 := by omega
      have m2_w : ¬ 356 + 3 * a = 354 := by omega
      have m3_w : ¬ 355 = 356 + 3 * a := by omega
      rcases z3 with ⟨za, z4⟩ | ⟨za, z5⟩
      · subst za
        have ek := jk1 (k := a) (by omega)
        simp only [qe_1, qe_3, qe_4, qe_5, qe_7, qe_72, qe_10, qe_102, qe_13, qe_14, qe_15, qe_16, qe_17, qe_18, qe_20, qe_22, qe_23, qe_21, qe_24, qe_25, qe_26, qe_27, qe_28, qe_30, qe_31, qe_32, qc_20, qc_22, qc_23, qc_21, qc_24, qc_25, qc_26, qc_27, qc_1, qc_3, qc_4, qc_7, qc_13, qc_28, qc_32, qs_1, qs_2, qs_3, qs_4, qs_5, qs_6, qs_9, qs_10, qs_11, qs_14, qs_15, qs_16, qs_27, qs_17, qs_18, qs_19, qs_20, qs_22, qs_23, qs_28, qs_25, qs_26, qs_7, qs_8, kc_1, kn_1, kc_2, kn_2, kc_3, kn_3, kc_4, kn_4, kc_5, kn_5, kc_6, kn_6, kc_7, kn_7, kc_8, kn_8, kc_9, kn_9, kc_10, kn_10, kc_11, kn_11, kc_12, kn_12, kc_13, kn_13, kc_14, kn_14, kc_15, kn_15, kc_16, kc_17, kc_18, kc_19, kc_20, kc_21, kc_22, kc_23, kc_30, kc_32, kc_40, kc_43, kc_45, kc_48, kc_52, kc_56, kc_57, kc_59, kc_60, kc_61, kc_63, kc_64, kc_72, kc_78, kc_97, kc_99, kc_122, kc_126, kc_128, kc_192, kc_200, kc_255, kc_999, kc_1000, kc_9999, kn_9999, kc_10000, kc_12345, kc_65536, kc_252645135, kc_858993459, kc_1103515245, kc_1431655765, kc_2147483647, kc_0, kc_24, kc_28, kc_37, kc_41, kc_42, kc_73, kc_91, kc_95, kc_96, kc_98, kc_100, kc_112, kc_125, kc_150, kc_162, kc_163, kc_168, kc_186, kc_190, kc_250, kc_355, kc_356, kc_404, kc_405, kc_429, kc_573, kc_1002, kc_1100, kc_1891, kc_2200, kc_4719, kc_4869, kc_4881, kc_5148, kc_19741, kc_25433, kc_320403, kc_628412, kc_629093, kc_660401, kc_679843, kc_918640, kc_979410, kc_1178088, kc_6232410, kc_24644941, kc_36238189, kc_38270444, kc_392531318, kc_425693491, kc_1342154595, kc_2147483648, kc_42328242873, kc_891704255789, kc_1722105685577, kc_1858726030364, ct_0, ct_1, ct_2, ct_3, ct_4, ct_5, cf_0, cf_1, cf_2, cf_3, cf_4, cf_5, w_ty6, w_ty7, m_sv, m_z0, m_hd, m_g0, m_gs, m_s0, m_ss, m_ap, m_an, forall_const, true_and, and_true, ne_eq, not_true_eq_false, not_false_eq_true, false_implies, true_implies, implies_true, eq_self, reduceCtorEq, Nat.reduceDiv, Nat.reduceMod, Int.reduceToNat, or_true, true_or, or_false, false_or, or_self, m_it, m_if, m_c1, m_01, m_02, m_03, m_04, m_10, m_12, m_13, m_14, m_20, m_21, m_23, m_24, m_30, m_31, m_32, m_34, m_40, m_41, m_42, m_43, Int.reduceLE, Int.reduceLT, Int.reduceGE, Int.reduceGT, Int.reduceNeg, Int.reduceAdd, Int.reduceSub, Int.reduceMul, Int.reduceEq, Int.reduceNe, Nat.reduceAdd, jun2, ro_0_0, ro_0_1, ro_0_2, ro_0_3, ro_0_4, ro_0_5, ro_0_6, ro_0_7, ro_0_8, ro_0_9, ro_0_10, ro_0_11, ro_0_12, ro_1_0, ro_1_1, ro_2_0, ro_4_0, ro_6_0, ro_6_1, ro_6_2, ro_6_3, ro_6_4, ro_6_5, ro_6_6, ro_6_7, ro_6_8, ro_8_0, ro_10_0, ro_12_0, ro_14_0, ro_16_0, ro_18_0, ro_20_0, ro_22_0, ro_22_1, ro_22_2, ro_23_0, ro_25_0, ro_27_0, ro_29_0, ro_29_1, ro_29_2, ro_29_3, ro_29_4, ro_29_5, ro_29_6, ro_29_7, ro_29_8, ro_31_0, ro_33_0, ro_35_0, ro_37_0, ro_39_0, ro_41_0, ro_43_0, ro_45_0, ro_45_1, ro_45_2, ro_46_0, ro_48_0, ro_50_0, ro_52_0, ro_52_1, ro_52_2, ro_52_3, ro_53_0, ro_55_0, ro_57_0, ro_59_0, ro_61_0, ro_61_1, ro_61_2, ro_61_3, ro_62_0, ro_64_0, ro_66_0, ro_68_0, ro_70_0, ro_70_1, ro_70_2, ro_70_3, ro_70_4, ro_70_5, ro_70_6, ro_70_7, ro_70_8, ro_70_9, ro_71_0, ro_73_0, ro_75_0, ro_77_0, ro_79_0, ro_81_0, ro_83_0, ro_85_0, ro_87_0, ro_89_0, ro_91_0, ro_91_1, ro_91_2, ro_91_3, ro_91_4, ro_91_5, ro_91_6, ro_91_7, ro_91_8, ro_91_9, ro_92_0, ro_94_0, ro_96_0, ro_98_0, ro_100_0, ro_102_0, ro_104_0, ro_106_0, ro_108_0, ro_110_0, ro_112_0, ro_112_1, ro_112_2, ro_112_3, ro_112_4, ro_112_5, ro_112_6, ro_112_7, ro_112_8, ro_112_9, ro_113_0, ro_115_0, ro_117_0, ro_119_0, ro_121_0, ro_123_0, ro_125_0, ro_127_0, ro_129_0, ro_131_0, ro_133_0, ro_133_1, ro_133_2, ro_133_3, ro_133_4, ro_133_5, ro_133_6, ro_133_7, ro_133_8, ro_133_9, ro_134_0, ro_136_0, ro_138_0, ro_140_0, ro_142_0, ro_144_0, ro_146_0, ro_148_0, ro_150_0, ro_152_0, ro_154_0, ro_155_0, ro_157_0, ro_157_1, ro_157_2, ro_157_3, ro_157_4, ro_157_5, ro_157_6, ro_157_7, ro_157_8, ro_157_9, ro_158_0, ro_160_0, ro_162_0, ro_164_0, ro_166_0, ro_168_0, ro_170_0, ro_172_0, ro_174_0, ro_176_0, ro_178_0, ro_180_0, ro_182_1, ro_182_4, ro_182_5, ro_182_6, ro_182_9, ro_182_10, ro_182_11, ro_182_13, ro_182_14, ro_182_15, ro_182_16, ro_182_17, ro_182_20, ro_182_21, ro_182_22, ro_182_23, ro_182_24, ro_182_26, ro_182_27, ro_182_28, lo_3, lo_5, lo_7, lo_9, lo_11, lo_13, lo_15, lo_17, lo_19, lo_21, lo_24, lo_26, lo_28, lo_30, lo_32, lo_34, lo_36, lo_38, lo_40, lo_42, lo_44, lo_47, lo_49, lo_51, lo_54, lo_56, lo_58, lo_60, lo_63, lo_65, lo_67, lo_69, lo_72, lo_74, lo_76, lo_78, lo_80, lo_82, lo_84, lo_86, lo_88, lo_90, lo_93, lo_95, lo_97, lo_99, lo_101, lo_103, lo_105, lo_107, lo_109, lo_111, lo_114, lo_116, lo_118, lo_120, lo_122, lo_124, lo_126, lo_128, lo_130, lo_132, lo_135, lo_137, lo_139, lo_141, lo_143, lo_145, lo_147, lo_149, lo_151, lo_153, lo_156, lo_159, lo_161, lo_163, lo_165, lo_167, lo_169, lo_171, lo_173, lo_175, lo_177, lo_179, lo_181, lo_183, lo_184, lo_185, lo_186, lo_187, lo_188, lo_189, lo_190, lo_191, lo_192, lo_193, lo_194, lo_195, lo_196, lo_197, lo_198, lo_199, lo_200, lo_201, lo_202, lo_203, jp_nn, jp_eq, jp_e1, Classical.not_not, ji0, ji1, ji2, cs39_54, kk_54, cs39_55, kk_55, cs39_68, kk_68, cs39_69, kk_69, cs39_70, kk_70, cs39_71, kk_71, cs39_72, kk_72, cs39_73, kk_73, cs39_74, kk_74, cs39_75, kk_75, cs39_186, kk_186, cs39_187, kk_187, cs39_188, kk_188, cs39_189, kk_189, cs39_191, kk_191, cs39_192, kk_192, cs39_193, kk_193, cs39_198, kk_198, cs39_207, kk_207, cs39_195, kk_195, cs39_196, kk_196, cs39_201, kk_201, cs39_203, kk_203, cs39_204, kk_204, cs39_194, kk_194, cs39_197, kk_197, cs39_200, kk_200, cs39_202, kk_202, cs39_205, kk_205, cs39_208, kk_208, cs39_209, kk_209, cs39_211, kk_211, cs39_216, kk_216, cs39_217, kk_217, cs39_218, kk_218, cs39_219, kk_219, cs39_220, kk_220, cs39_221, kk_221, cs39_210, kk_210, cs39_212, kk_212, cs39_213, kk_213, cs39_190, kk_190, cs39_199, kk_199, cs39_225, kk_225, cs39_226, kk_226, cs39_227, kk_227, cs39_228, kk_228, cs39_333, kk_333, cs39_67, kk_67, cs39_65, kk_65, cs39_66, kk_66, cs39_64, kk_64, cs39_63, kk_63, cs39_77, kk_77, cs39_76, kk_76, cs39_133, kk_133, cs39_134, kk_134, cs39_135, kk_135, cs39_136, kk_136, cs39_138, kk_138, cs39_139, kk_139, cs39_105, kk_105, cs39_102, kk_102, cs39_103, kk_103, cs39_104, kk_104, cs39_106, kk_106, cs39_140, kk_140, cs39_137, kk_137, cs39_127, kk_127, cs39_56, kk_56, cs39_57, kk_57, cs39_79, kk_79, cs39_101, kk_101, cs39_96, kk_96, cs39_99, kk_99, cs39_100, kk_100, cs39_98, kk_98, cs39_122, kk_122, cs39_123, kk_123, cs39_124, kk_124, cs39_125, kk_125, cs39_126, kk_126, cs39_84, kk_84, cs39_82, kk_82, cs39_83, kk_83, cs39_85, kk_85, cs39_89, kk_89, cs39_90, kk_90, cs39_91, kk_91, cs39_88, kk_88, cs39_86, kk_86, cs39_87, kk_87, cs39_81, kk_81, cs39_128, kk_128, cs39_119, kk_119, cs39_58, kk_58, cs39_80, kk_80, cs39_97, kk_97s, cs39_156, kk_156, cs39_142, kk_142, cs39_3, kk_3s, cs39_61, kk_61z, cs39_2, kk_2s, cs39_240, kk_240s, cs39_241, kk_241s, cs39_206, kk_206s, cs39_113, kk_113, cs39_114, kk_114, cs39_116, kk_116, cs39_117, kk_117, cs39_121, kk_121, cs39_129, kk_129, cs39_130, kk_130, cs39_131, kk_131, cs39_132, kk_132, cs39_120, kk_120, cs39_4, kk_4, cs39_229, kk_229, cs39_233, kk_233, cs39_234, kk_234, cs39_215, kk_215, cs39_214, kk_214, cs39_146, kk_146, cs39_147, kk_147, cs39_149, kk_149, cs39_155, kk_155, cs39_157, kk_157, cs39_165, kk_165, cs39_59, kk_59, cs39_107, kk_107, cs39_108, kk_108, cs39_109, kk_109, cs39_110, kk_110, cs39_111, kk_111, cs39_112, kk_112, cs39_143, kk_143, cs39_170, kk_170, cs39_168, kk_168, cs39_169, kk_169, cs39_181, kk_181, cs39_5, kk_5, cs39_6, kk_6, cs39_7, kk_7, cs39_8, kk_8, cs39_9, kk_9, cs39_10, kk_10s, cs39_11, kk_11, cs39_12, kk_12s, cs39_40, kk_40s, cs39_49, kk_49, cs39_50, kk_50, cs39_48, kk_48, cs39_224, kk_224s, cs39_230, kk_230, cs39_235, kk_235, cs39_236, kk_236, cs39_237, kk_237, cs39_238, kk_238, cs39_243, kk_243, cs39_256, kk_256, cs39_264, kk_264, cs39_266, kk_266, cs39_239, kk_239, cs39_242, kk_242s, cs39_260, kk_260, cs39_261, kk_261, cs39_262, kk_262, cs39_263, kk_263, cs39_265, kk_265, cs39_267, kk_267, cs39_268, kk_268, cs39_272, kk_272, cs39_304, kk_304, cs39_311, kk_311, cs39_254, kk_254f, cs39_257, kk_257f, cs39_269, kk_269, jl_0, jl_1, jl_2, jl_3, jl_4, jl_5, jl_6, jl_7, jl_8, jl_9, jl_10, jl_11, jl_12, jl_13, jl_14, jl_15, jl_16, jl_17, jl_18, jl_19, jl_20, jl_21, jl_22, jl_23, jl_24, jl_25, jl_26, jl_27, jl_28, jl_29, jl_30, jl_31, jl_32, jl_33, jl_34, jl_35, jl_36, jl_37, jl_38, jl_39, jl_40, jl_95, jl_96, jl_97, jl_98, jl_99, jl_100, jl_101, jl_102, jl_103, jl_104, jl_105, jl_106, jl_107, jl_108, jl_109, jl_110, jl_111, jl_112, jl_113, jl_114, jl_186, jl_1100, jr, ju, jpT, jpF, tnc, Nat.reduceEqDiff, reduceIte, and_false, false_and, not_true_eq_false, not_false_eq_true, or_false, gt_iff_lt, ge_iff_le, Int.lt_irrefl, Int.le_refl, j355, j356, y, y2, ei, ei1, ei2, m1_w, m2_w, m3_w, hn, ek]
        intros
        have inj : ∀ i j : Nat, i < a + 1 → j < a + 1 → (if i = a then 4 * sn + cn else f i) = (if j = a then 4 * sn + cn else f j) → i = j := fun i j zi zj e => by
          by_cases yi : i = a
          · by_cases yj : j = a
            · omega
            · rw [if_pos yi, if_neg yj] at e
              exact absurd e.symm (z4 j (by omega))
          · by_cases yj : j = a
            · rw [if_neg yi, if_pos yj] at e
              exact absurd e (z4 i (by omega))
            · rw [if_neg yi, if_neg yj] at e
              exact hi_w i j (by omega) (by omega) e
        have n15 : a + 1 ≤ 16 := pig 16 (a + 1) (fun i => if i = a then 4 * sn + cn else f i) (fun i z => by
          show (if i = a then 4 * sn + cn else f i) < 16
          by_cases yi : i = a
          · rw [if_pos yi]
            omega
          · rw [if_neg yi]
            exact (hf i (by omega)).1) inj
        refine hQ _ (fun x q z => ?_) ⟨a + 1, fun i => if i = a then 4 * sn + cn else f i, up_eq, fun i z => ?_, inj⟩
        · rw [up_ne (by omega), up_ne (by omega), up_ne (by omega), up_ne (by omega)]
        · show (if i = a then 4 * sn + cn else f i) < 16 ∧ _ = (((if i = a then 4 * sn + cn else f i) / 4 : Nat) : Int) ∧ _ = (((if i = a then 4 * sn + cn else f i) % 4 : Nat) : Int)
          by_cases yi : i = a
          · subst yi
            rw [if_pos rfl, up_ne (by omega), up_ne (by omega), up_ne (by omega), up_eq, up_ne (by omega), up_ne (by omega), up_eq]
            refine ⟨by omega, ?_, ?_⟩ <;> omega
          · rw [if_neg yi, up_ne (by omega), up_ne (by omega), up_ne (by omega), up_ne (by omega), up_ne (by omega), up_ne (by omega), up_ne (by omega), up_ne (by omega)]
            exact hf i (by omega)
      · have ya : ¬ (a : Int) = (k : Int) := by omega
        have e0 : j32 ((k : Int) + 0) = (k : Int) := jcn (by omega) (by omega)
        simp only [qe_1, qe_3, qe_4, qe_5, qe_7, qe_72, qe_10, qe_102, qe_13, qe_14, qe_15, qe_16, qe_17, qe_18, qe_20, qe_22, qe_23, qe_21, qe_24, qe_25, qe_26, qe_27, qe_28, qe_30, qe_31, qe_32, qc_20, qc_22, qc_23, qc_21, qc_24, qc_25, qc_26, qc_27, qc_1, qc_3, qc_4, qc_7, qc_13, qc_28, qc_32, qs_1, qs_2, qs_3, qs_4, qs_5, qs_6, qs_9, qs_10, qs_11, qs_14, qs_15, qs_16, qs_27, qs_17, qs_18, qs_19, qs_20, qs_22, qs_23, qs_28, qs_25, qs_26, qs_7, qs_8, kc_1, kn_1, kc_2, kn_2, kc_3, kn_3, kc_4, kn_4, kc_5, kn_5, kc_6, kn_6, kc_7, kn_7, kc_8, kn_8, kc_9, kn_9, kc_10, kn_10, kc_11, kn_11, kc_12, kn_12, kc_13, kn_13, kc_14, kn_14, kc_15, kn_15, kc_16, kc_17, kc_18, kc_19, kc_20, kc_21, kc_22, kc_23, kc_30, kc_32, kc_40, kc_43, kc_45, kc_48, kc_52, kc_56, kc_57, kc_59, kc_60, kc_61, kc_63, kc_64, kc_72, kc_78, kc_97, kc_99, kc_122, kc_126, kc_128, kc_192, kc_200, kc_255, kc_999, kc_1000, kc_9999, kn_9999, kc_10000, kc_12345, kc_65536, kc_252645135, kc_858993459, kc_1103515245, kc_1431655765, kc_2147483647, kc_0, kc_24, kc_28, kc_37, kc_41, kc_42, kc_73, kc_91, kc_95, kc_96, kc_98, kc_100, kc_112, kc_125, kc_150, kc_162, kc_163, kc_168, kc_186, kc_190, kc_250, kc_355, kc_356, kc_404, kc_405, kc_429, kc_573, kc_1002, kc_1100, kc_1891, kc_2200, kc_4719, kc_4869, kc_4881, kc_5148, kc_19741, kc_25433, kc_320403, kc_628412, kc_629093, kc_660401, kc_679843, kc_918640, kc_979410, kc_1178088, kc_6232410, kc_24644941, kc_36238189, kc_38270444, kc_392531318, kc_425693491, kc_1342154595, kc_2147483648, kc_42328242873, kc_891704255789, kc_1722105685577, kc_1858726030364, ct_0, ct_1, ct_2, ct_3, ct_4, ct_5, cf_0, cf_1, cf_2, cf_3, cf_4, cf_5, w_ty6, w_ty7, m_sv, m_z0, m_hd, m_g0, m_gs, m_s0, m_ss, m_ap, m_an, forall_const, true_and, and_true, ne_eq, not_true_eq_false, not_false_eq_true, false_implies, true_implies, implies_true, eq_self, reduceCtorEq, Nat.reduceDiv, Nat.reduceMod, Int.reduceToNat, or_true, true_or, or_false, false_or, or_self, m_it, m_if, m_c1, m_01, m_02, m_03, m_04, m_10, m_12, m_13, m_14, m_20, m_21, m_23, m_24, m_30, m_31, m_32, m_34, m_40, m_41, m_42, m_43, Int.reduceLE, Int.reduceLT, Int.reduceGE, Int.reduceGT, Int.reduceNeg, Int.reduceAdd, Int.reduceSub, Int.reduceMul, Int.reduceEq, Int.reduceNe, Nat.reduceAdd, jun2, ro_0_0, ro_0_1, ro_0_2, ro_0_3, ro_0_4, ro_0_5, ro_0_6, ro_0_7, ro_0_8, ro_0_9, ro_0_10, ro_0_11, ro_0_12, ro_1_0, ro_1_1, ro_2_0, ro_4_0, ro_6_0, ro_6_1, ro_6_2, ro_6_3, ro_6_4, ro_6_5, ro_6_6, ro_6_7, ro_6_8, ro_8_0, ro_10_0, ro_12_0, ro_14_0, ro_16_0, ro_18_0, ro_20_0, ro_22_0, ro_22_1, ro_22_2, ro_23_0, ro_25_0, ro_27_0, ro_29_0, ro_29_1, ro_29_2, ro_29_3, ro_29_4, ro_29_5, ro_29_6, ro_29_7, ro_29_8, ro_31_0, ro_33_0, ro_35_0, ro_37_0, ro_39_0, ro_41_0, ro_43_0, ro_45_0, ro_45_1, ro_45_2, ro_46_0, ro_48_0, ro_50_0, ro_52_0, ro_52_1, ro_52_2, ro_52_3, ro_53_0, ro_55_0, ro_57_0, ro_59_0, ro_61_0, ro_61_1, ro_61_2, ro_61_3, ro_62_0, ro_64_0, ro_66_0, ro_68_0, ro_70_0, ro_70_1, ro_70_2, ro_70_3, ro_70_4, ro_70_5, ro_70_6, ro_70_7, ro_70_8, ro_70_9, ro_71_0, ro_73_0, ro_75_0, ro_77_0, ro_79_0, ro_81_0, ro_83_0, ro_85_0, ro_87_0, ro_89_0, ro_91_0, ro_91_1, ro_91_2, ro_91_3, ro_91_4, ro_91_5, ro_91_6, ro_91_7, ro_91_8, ro_91_9, ro_92_0, ro_94_0, ro_96_0, ro_98_0, ro_100_0, ro_102_0, ro_104_0, ro_106_0, ro_108_0, ro_110_0, ro_112_0, ro_112_1, ro_112_2, ro_112_3, ro_112_4, ro_112_5, ro_112_6, ro_112_7, ro_112_8, ro_112_9, ro_113_0, ro_115_0, ro_117_0, ro_119_0, ro_121_0, ro_123_0, ro_125_0, ro_127_0, ro_129_0, ro_131_0, ro_133_0, ro_133_1, ro_133_2, ro_133_3, ro_133_4, ro_133_5, ro_133_6, ro_133_7, ro_133_8, ro_133_9, ro_134_0, ro_136_0, ro_138_0, ro_140_0, ro_142_0, ro_144_0, ro_146_0, ro_148_0, ro_150_0, ro_152_0, ro_154_0, ro_155_0, ro_157_0, ro_157_1, ro_157_2, ro_157_3, ro_157_4, ro_157_5, ro_157_6, ro_157_7, ro_157_8, ro_157_9, ro_158_0, ro_160_0, ro_162_0, ro_164_0, ro_166_0, ro_168_0, ro_170_0, ro_172_0, ro_174_0, ro_176_0, ro_178_0, ro_180_0, ro_182_1, ro_182_4, ro_182_5, ro_182_6, ro_182_9, ro_182_10, ro_182_11, ro_182_13, ro_182_14, ro_182_15, ro_182_16, ro_182_17, ro_182_20, ro_182_21, ro_182_22, ro_182_23, ro_182_24, ro_182_26, ro_182_27, ro_182_28, lo_3, lo_5, lo_7, lo_9, lo_11, lo_13, lo_15, lo_17, lo_19, lo_21, lo_24, lo_26, lo_28, lo_30, lo_32, lo_34, lo_36, lo_38, lo_40, lo_42, lo_44, lo_47, lo_49, lo_51, lo_54, lo_56, lo_58, lo_60, lo_63, lo_65, lo_67, lo_69, lo_72, lo_74, lo_76, lo_78, lo_80, lo_82, lo_84, lo_86, lo_88, lo_90, lo_93, lo_95, lo_97, lo_99, lo_101, lo_103, lo_105, lo_107, lo_109, lo_111, lo_114, lo_116, lo_118, lo_120, lo_122, lo_124, lo_126, lo_128, lo_130, lo_132, lo_135, lo_137, lo_139, lo_141, lo_143, lo_145, lo_147, lo_149, lo_151, lo_153, lo_156, lo_159, lo_161, lo_163, lo_165, lo_167, lo_169, lo_171, lo_173, lo_175, lo_177, lo_179, lo_181, lo_183, lo_184, lo_185, lo_186, lo_187, lo_188, lo_189, lo_190, lo_191, lo_192, lo_193, lo_194, lo_195, lo_196, lo_197, lo_198, lo_199, lo_200, lo_201, lo_202, lo_203, jp_nn, jp_eq, jp_e1, Classical.not_not, ji0, ji1, ji2, cs39_54, kk_54, cs39_55, kk_55, cs39_68, kk_68, cs39_69, kk_69, cs39_70, kk_70, cs39_71, kk_71, cs39_72, kk_72, cs39_73, kk_73, cs39_74, kk_74, cs39_75, kk_75, cs39_186, kk_186, cs39_187, kk_187, cs39_188, kk_188, cs39_189, kk_189, cs39_191, kk_191, cs39_192, kk_192, cs39_193, kk_193, cs39_198, kk_198, cs39_207, kk_207, cs39_195, kk_195, cs39_196, kk_196, cs39_201, kk_201, cs39_203, kk_203, cs39_204, kk_204, cs39_194, kk_194, cs39_197, kk_197, cs39_200, kk_200, cs39_202, kk_202, cs39_205, kk_205, cs39_208, kk_208, cs39_209, kk_209, cs39_211, kk_211, cs39_216, kk_216, cs39_217, kk_217, cs39_218, kk_218, cs39_219, kk_219, cs39_220, kk_220, cs39_221, kk_221, cs39_210, kk_210, cs39_212, kk_212, cs39_213, kk_213, cs39_190, kk_190, cs39_199, kk_199, cs39_225, kk_225, cs39_226, kk_226, cs39_227, kk_227, cs39_228, kk_228, cs39_333, kk_333, cs39_67, kk_67, cs39_65, kk_65, cs39_66, kk_66, cs39_64, kk_64, cs39_63, kk_63, cs39_77, kk_77, cs39_76, kk_76, cs39_133, kk_133, cs39_134, kk_134, cs39_135, kk_135, cs39_136, kk_136, cs39_138, kk_138, cs39_139, kk_139, cs39_105, kk_105, cs39_102, kk_102, cs39_103, kk_103, cs39_104, kk_104, cs39_106, kk_106, cs39_140, kk_140, cs39_137, kk_137, cs39_127, kk_127, cs39_56, kk_56, cs39_57, kk_57, cs39_79, kk_79, cs39_101, kk_101, cs39_96, kk_96, cs39_99, kk_99, cs39_100, kk_100, cs39_98, kk_98, cs39_122, kk_122, cs39_123, kk_123, cs39_124, kk_124, cs39_125, kk_125, cs39_126, kk_126, cs39_84, kk_84, cs39_82, kk_82, cs39_83, kk_83, cs39_85, kk_85, cs39_89, kk_89, cs39_90, kk_90, cs39_91, kk_91, cs39_88, kk_88, cs39_86, kk_86, cs39_87, kk_87, cs39_81, kk_81, cs39_128, kk_128, cs39_119, kk_119, cs39_58, kk_58, cs39_80, kk_80, cs39_97, kk_97s, cs39_156, kk_156, cs39_142, kk_142, cs39_3, kk_3s, cs39_61, kk_61z, cs39_2, kk_2s, cs39_240, kk_240s, cs39_241, kk_241s, cs39_206, kk_206s, cs39_113, kk_113, cs39_114, kk_114, cs39_116, kk_116, cs39_117, kk_117, cs39_121, kk_121, cs39_129, kk_129, cs39_130, kk_130, cs39_131, kk_131, cs39_132, kk_132, cs39_120, kk_120, cs39_4, kk_4, cs39_229, kk_229, cs39_233, kk_233, cs39_234, kk_234, cs39_215, kk_215, cs39_214, kk_214, cs39_146, kk_146, cs39_147, kk_147, cs39_149, kk_149, cs39_155, kk_155, cs39_157, kk_157, cs39_165, kk_165, cs39_59, kk_59, cs39_107, kk_107, cs39_108, kk_108, cs39_109, kk_109, cs39_110, kk_110, cs39_111, kk_111, cs39_112, kk_112, cs39_143, kk_143, cs39_170, kk_170, cs39_168, kk_168, cs39_169, kk_169, cs39_181, kk_181, cs39_5, kk_5, cs39_6, kk_6, cs39_7, kk_7, cs39_8, kk_8, cs39_9, kk_9, cs39_10, kk_10s, cs39_11, kk_11, cs39_12, kk_12s, cs39_40, kk_40s, cs39_49, kk_49, cs39_50, kk_50, cs39_48, kk_48, cs39_224, kk_224s, cs39_230, kk_230, cs39_235, kk_235, cs39_236, kk_236, cs39_237, kk_237, cs39_238, kk_238, cs39_243, kk_243, cs39_256, kk_256, cs39_264, kk_264, cs39_266, kk_266, cs39_239, kk_239, cs39_242, kk_242s, cs39_260, kk_260, cs39_261, kk_261, cs39_262, kk_262, cs39_263, kk_263, cs39_265, kk_265, cs39_267, kk_267, cs39_268, kk_268, cs39_272, kk_272, cs39_304, kk_304, cs39_311, kk_311, cs39_254, kk_254f, cs39_257, kk_257f, cs39_269, kk_269, jl_0, jl_1, jl_2, jl_3, jl_4, jl_5, jl_6, jl_7, jl_8, jl_9, jl_10, jl_11, jl_12, jl_13, jl_14, jl_15, jl_16, jl_17, jl_18, jl_19, jl_20, jl_21, jl_22, jl_23, jl_24, jl_25, jl_26, jl_27, jl_28, jl_29, jl_30, jl_31, jl_32, jl_33, jl_34, jl_35, jl_36, jl_37, jl_38, jl_39, jl_40, jl_95, jl_96, jl_97, jl_98, jl_99, jl_100, jl_101, jl_102, jl_103, jl_104, jl_105, jl_106, jl_107, jl_108, jl_109, jl_110, jl_111, jl_112, jl_113, jl_114, jl_186, jl_1100, jr, ju, jpT, jpF, tnc, Nat.reduceEqDiff, reduceIte, and_false, false_and, not_true_eq_false, not_false_eq_true, or_false, gt_iff_lt, ge_iff_le, Int.lt_irrefl, Int.le_refl, j355, j356, y, y2, ei, ei1, ei2, m1_w, m2_w, m3_w, ya, hn, e0]
        intros
        refine hQ _ (fun x q z => ?_) ⟨k, f, up_eq, fun i z => ?_, hi_w⟩
        · rw [up_ne (by omega), up_ne (by omega), up_ne (by omega), up_ne (by omega)]
        · have t := hf i z
          refine ⟨t.1, ?_, ?_⟩
          · by_cases yi : i = a
            · subst yi
              rw [up_ne (by omega), up_ne (by omega), up_ne (by omega), up_eq]
              omega
            · rw [up_ne (by omega), up_ne (by omega), up_ne (by omega), up_ne (by omega)]
              exact t.2.1
          · by_cases yi : i = a
            · subst yi
              rw [up_ne (by omega), up_ne (by omega), up_eq]
              omega
            · rw [up_ne (by omega), up_ne (by omega), up_ne (by omega), up_ne (by omega)]
              exact t.2.2
  · exact hQ.elim
theorem snd_39 {xs : Nat → Int} {L K : Nat} : ∀ n, SndC CS39 (evF xs L g_ck K g_cW g_M n) := snd_all snd_38 (fun f av h Q hQ => by
  unfold CS39 at hQ
  split at hQ
  · exact Or.inr m_269
  · exact Or.inl hQ)

section
/-! ===== contracts: the reference's run ===== -/
def tpL2 : List Nat := [222, 223, 225, 226, 227, 228, 229, 230, 231, 232, 243, 244, 245, 246, 247, 248, 249, 250, 251, 252, 253, 254, 255, 256, 257]
def CTop2 : CSt := fun f _ _ Q => tpL2.contains f = true ∧ ∀ k r h', Q k r h'
theorem tpL2_ok : (tpL2.all fun f => tpS (fun g => tpL2.contains g) (g_M f).2.2.2.2) = true := by decide +kernel
theorem snd_top2 {xs : Nat → Int} {L K : Nat} : ∀ n, SndC CTop2 (evF xs L g_ck K g_cW g_M n) := snd_all snd_none (fun f av h Q hQ => Or.inr (fun av h Q hQ => tpS_ok (F := fun g => tpL2.contains g) (fun g e av h Q hq => ⟨e, hq⟩) _ (List.all_eq_true.mp tpL2_ok f (by
  have := hQ.1
  rw [List.contains_iff_mem] at this
  exact this)) _ _ _ (fun c vs en' h' _ => hQ.2 _ _ _)))
def kFr (f : Nat) : KT := fun av h Q => av.getD 0 0 = 182 ∧ ∀ k r h', Fr (m_W f) h h' → Q k r h'
def k254f : KT := kFr 254
def k257f : KT := kFr 257
/-- accounts: no pair_w twice_w -/
def ACt (h : XH) : Prop := ∃ (n : Nat) (f : Nat → Nat), h 194 355 = (n : Int) ∧ (∀ k : Nat, k < n → f k < 16 ∧ h 194 (356 + 3 * k) = ((f k / 4 : Nat) : Int) ∧ h 194 (356 + 3 * k + 1) = ((f k % 4 : Nat) : Int)) ∧ ∀ i j : Nat, i < n → j < n → f i = f j → i = j
def k269 : KT := fun av h Q => match av with
  | [t, b, s, c, v] => t = 182 ∧ b = 0 ∧ ∃ sn cn : Nat, s = (sn : Int) ∧ sn < 4 ∧ c = (cn : Int) ∧ cn < 4 ∧ ACt h ∧ ∀ h', (∀ x k : Nat, ¬ (x = 194 ∧ 355 ≤ k ∧ k < 404) → h' x k = h x k) → ACt h' → Q 1 [] h'
  | _ => False
section KKFL
variable {h h1 h2 h' : XH} {Q : Nat → List Int → XH → Prop} {t b m p s f o v c : Int} {D : DD} {k : Nat} {av : List Int}
theorem kk_254f : k254f av h Q = (av.getD 0 0 = 182 ∧ ∀ k r h', Fr (m_W 254) h h' → Q k r h') := id rfl
theorem kk_257f : k257f av h Q = (av.getD 0 0 = 182 ∧ ∀ k r h', Fr (m_W 257) h h' → Q k r h') := id rfl
theorem kk_269 : k269 [182, 0, s, c, v] h Q = ∃ sn cn : Nat, s = (sn : Int) ∧ sn < 4 ∧ c = (cn : Int) ∧ cn < 4 ∧ ACt h ∧ ∀ h', (∀ x k : Nat, ¬ (x = 194 ∧ 355 ≤ k ∧ k < 404) → h' x k = h x k) → ACt h' → Q 1 [] h' := propext ⟨fun a => a.2.2, fun a => ⟨rfl, rfl, a⟩⟩
end KKFL
theorem pig : ∀ (m n : Nat) (f : Nat → Nat), (∀ k, k < n → f k < m) → (∀ i j, i < n → j < n → f i = f j → i = j) → n ≤ m
  | 0, n, f, a, _ => by
    by_cases y : n = 0
    · omega
    · exact absurd (a 0 (by omega)) (by omega)
  | m + 1, n, f, a, b => by
    by_cases y : ∃ k, k < n ∧ f k = m
    · obtain ⟨k, hk, ek⟩ := y
      have t := pig m (n - 1) (fun i => if i < k then f i else f (i + 1)) (fun i z => by
        show (if i < k then f i else f (i + 1)) < m
        by_cases y : i < k
        · rw [if_pos y]
          have h1 := a i (by omega)
          have h2 : f i ≠ m := fun e => by
            have := b i k (by omega) hk (e.trans ek.symm)
            omega
          omega
        · rw [if_neg y]
          have h1 := a (i + 1) (by omega)
          have h2 : f (i + 1) ≠ m := fun e => by
            have := b (i + 1) k (by omega) hk (e.trans ek.symm)
            omega
          omega) (fun i j zi zj e => by
        replace e : (if i < k then f i else f (i + 1)) = (if j < k then f j else f (j + 1)) := e
        by_cases yi : i < k
        · by_cases yj : j < k
          · rw [if_pos yi, if_pos yj] at e
            exact b i j (by omega) (by omega) e
          · rw [if_pos yi, if_neg yj] at e
            have := b i (j + 1) (by omega) (by omega) e
            omega
        · by_cases yj : j < k
          · rw [if_neg yi, if_pos yj] at e
            have := b (i + 1) j (by omega) (by omega) e
            omega
          · rw [if_neg yi, if_neg yj] at e
            have := b (i + 1) (j + 1) (by omega) (by omega) e
            omega)
      omega
    · have t := pig m n f (fun k z => by
        have h1 := a k z
        have h2 : f k ≠ m := fun e => y ⟨k, z, e⟩
        omega) b
      omega
def CS38 : CSt := fun f => match f with
  | 254 => k254f
  | 257 => k257f
  | _ => CS37 f
theorem cs38_54 {av : List Int} {h : XH} {Q : Nat → List Int → XH → Prop} : CS38 54 av h Q = k54 av h Q := id rfl
theorem cs38_55 {av : List Int} {h : XH} {Q : Nat → List Int → XH → Prop} : CS38 55 av h Q = k55 av h Q := id rfl
theorem cs38_68 {av : List Int} {h : XH} {Q : Nat → List Int → XH → Prop} : CS38 68 av h Q = k68 av h Q := id rfl
theorem cs38_69 {av : List Int} {h : XH} {Q : Nat → List Int → XH → Prop} : CS38 69 av h Q = k69 av h Q := id rfl
theorem cs38_70 {av : List Int} {h : XH} {Q : Nat → List Int → XH → Prop} : CS38 70 av h Q = k70 av h Q := id rfl
theorem cs38_71 {av : List Int} {h : XH} {Q : Nat → List Int → XH → Prop} : CS38 71 av h Q = k71 av h Q := id rfl
theorem cs38_72 {av : List Int} {h : XH} {Q : Nat → List Int → XH → Prop} : CS38 72 av h Q = k72 av h Q := id rfl
theorem cs38_73 {av : List Int} {h : XH} {Q : Nat → List Int → XH → Prop} : CS38 73 av h Q = k73 av h Q := id rfl
theorem cs38_74 {av : List Int} {h : XH} {Q : Nat → List Int → XH → Prop} : CS38 74 av h Q = k74 av h Q := id rfl
theorem cs38_75 {av : List Int} {h : XH} {Q : Nat → List Int → XH → Prop} : CS38 75 av h Q = k75 av h Q := id rfl
theorem cs38_186 {av : List Int} {h : XH} {Q : Nat → List Int → XH → Prop} : CS38 186 av h Q = k186 av h Q := id rfl
theorem cs38_187 {av : List Int} {h : XH} {Q : Nat → List Int → XH → Prop} : CS38 187 av h Q = k187 av h Q := id rfl
theorem cs38_188 {av : List Int} {h : XH} {Q : Nat → List Int → XH → Prop} : CS38 188 av h Q = k188 av h Q := id rfl
theorem cs38_189 {av : List Int} {h : XH} {Q : Nat → List Int → XH → Prop} : CS38 189 av h Q = k189 av h Q := id rfl
theorem cs38_191 {av : List Int} {h : XH} {Q : Nat → List Int → XH → Prop} : CS38 191 av h Q = k191 av h Q := id rfl
theorem cs38_192 {av : List Int} {h : XH} {Q : Nat → List Int → XH → Prop} : CS38 192 av h Q = k192 av h Q := id rfl
theorem cs38_193 {av : List Int} {h : XH} {Q : Nat → List Int → XH → Prop} : CS38 193 av h Q = k193 av h Q := id rfl
theorem cs38_198 {av : List Int} {h : XH} {Q : Nat → List Int → XH → Prop} : CS38 198 av h Q = k198 av h Q := id rfl
theorem cs38_207 {av : List Int} {h : XH} {Q : Nat → List Int → XH → Prop} : CS38 207 av h Q = k207 av h Q := id rfl
theorem cs38_195 {av : List Int} {h : XH} {Q : Nat → List Int → XH → Prop} : CS38 195 av h Q = k195 av h Q := id rfl
theorem cs38_196 {av : List Int} {h : XH} {Q : Nat → List Int → XH → Prop} : CS38 196 av h Q = k196 av h Q := id rfl
theorem cs38_201 {av : List Int} {h : XH} {Q : Nat → List Int → XH → Prop} : CS38 201 av h Q = k201 av h Q := id rfl
theorem cs38_203 {av : List Int} {h : XH} {Q : Nat → List Int → XH → Prop} : CS38 203 av h Q = k203 av h Q := id rfl
theorem cs38_204 {av : List Int} {h : XH} {Q : Nat → List Int → XH → Prop} : CS38 204 av h Q = k204 av h Q := id rfl
theorem cs38_194 {av : List Int} {h : XH} {Q : Nat → List Int → XH → Prop} : CS38 194 av h Q = k194 av h Q := id rfl
theorem cs38_197 {av : List Int} {h : XH} {Q : Nat → List Int → XH → Prop} : CS38 197 av h Q = k197 av h Q := id rfl
theorem cs38_200 {av : List Int} {h : XH} {Q : Nat → List Int → XH → Prop} : CS38 200 av h Q = k200 av h Q := id rfl
theorem cs38_202 {av : List Int} {h : XH} {Q : Nat → List Int → XH → Prop} : CS38 202 av h Q = k202 av h Q := id rfl
theorem cs38_205 {av : List Int} {h : XH} {Q : Nat → List Int → XH → Prop} : CS38 205 av h Q = k205 av h Q := id rfl
theorem cs38_208 {av : List Int} {h : XH} {Q : Nat → List Int → XH → Prop} : CS38 208 av h Q = k208 av h Q := id rfl
theorem cs38_209 {av : List Int} {h : XH} {Q : Nat → List Int → XH → Prop} : CS38 209 av h Q = k209 av h Q := id rfl
theorem cs38_211 {av : List Int} {h : XH} {Q : Nat → List Int → XH → Prop} : CS38 211 av h Q = k211 av h Q := id rfl
theorem cs38_216 {av : List Int} {h : XH} {Q : Nat → List Int → XH → Prop} : CS38 216 av h Q = k216 av h Q := id rfl
theorem cs38_217 {av : List Int} {h : XH} {Q : Nat → List Int → XH → Prop} : CS38 217 av h Q = k217 av h Q := id rfl
theorem cs38_218 {av : List Int} {h : XH} {Q : Nat → List Int → XH → Prop} : CS38 218 av h Q = k218 av h Q := id rfl
theorem cs38_219 {av : List Int} {h : XH} {Q : Nat → List Int → XH → Prop} : CS38 219 av h Q = k219 av h Q := id rfl
theorem cs38_220 {av : List Int} {h : XH} {Q : Nat → List Int → XH → Prop} : CS38 220 av h Q = k220 av h Q := id rfl
theorem cs38_221 {av : List Int} {h : XH} {Q : Nat → List Int → XH → Prop} : CS38 221 av h Q = k221 av h Q := id rfl
theorem cs38_210 {av : List Int} {h : XH} {Q : Nat → List Int → XH → Prop} : CS38 210 av h Q = k210 av h Q := id rfl
theorem cs38_212 {av : List Int} {h : XH} {Q : Nat → List Int → XH → Prop} : CS38 212 av h Q = k212 av h Q := id rfl
theorem cs38_213 {av : List Int} {h : XH} {Q : Nat → List Int → XH → Prop} : CS38 213 av h Q = k213 av h Q := id rfl
theorem cs38_190 {av : List Int} {h : XH} {Q : Nat → List Int → XH → Prop} : CS38 190 av h Q = k190 av h Q := id rfl
theorem cs38_199 {av : List Int} {h : XH} {Q : Nat → List Int → XH → Prop} : CS38 199 av h Q = k199 av h Q := id rfl
theorem cs38_225 {av : List Int} {h : XH} {Q : Nat → List Int → XH → Prop} : CS38 225 av h Q = k225 av h Q := id rfl
theorem cs38_226 {av : List Int} {h : XH} {Q : Nat → List Int → XH → Prop} : CS38 226 av h Q = k226 av h Q := id rfl
theorem cs38_227 {av : List Int} {h : XH} {Q : Nat → List Int → XH → Prop} : CS38 227 av h Q = k227 av h Q := id rfl
theorem cs38_228 {av : List Int} {h : XH} {Q : Nat → List Int → XH → Prop} : CS38 228 av h Q = k228 av h Q := id rfl
theorem cs38_333 {av : List Int} {h : XH} {Q : Nat → List Int → XH → Prop} : CS38 333 av h Q = k333 av h Q := id rfl
theorem cs38_67 {av : List Int} {h : XH} {Q : Nat → List Int → XH → Prop} : CS38 67 av h Q = k67 av h Q := id rfl
theorem cs38_65 {av : List Int} {h : XH} {Q : Nat → List Int → XH → Prop} : CS38 65 av h Q = k65 av h Q := id rfl
theorem cs38_66 {av : List Int} {h : XH} {Q : Nat → List Int → XH → Prop} : CS38 66 av h Q = k66 av h Q := id rfl
theorem cs38_64 {av : List Int} {h : XH} {Q : Nat → List Int → XH → Prop} : CS38 64 av h Q = k64 av h Q := id rfl
theorem cs38_63 {av : List Int} {h : XH} {Q : Nat → List Int → XH → Prop} : CS38 63 av h Q = k63 av h Q := id rfl
theorem cs38_77 {av : List Int} {h : XH} {Q : Nat → List Int → XH → Prop} : CS38 77 av h Q = k77 av h Q := id rfl
theorem cs38_76 {av : List Int} {h : XH} {Q : Nat → List Int → XH → Prop} : CS38 76 av h Q = k76 av h Q := id rfl
theorem cs38_133 {av : List Int} {h : XH} {Q : Nat → List Int → XH → Prop} : CS38 133 av h Q = k133 av h Q := id rfl
theorem cs38_134 {av : List Int} {h : XH} {Q : Nat → List Int → XH → Prop} : CS38 134 av h Q = k134 av h Q := id rfl
theorem cs38_135 {av : List Int} {h : XH} {Q : Nat → List Int → XH → Prop} : CS38 135 av h Q = k135 av h Q := id rfl
theorem cs38_136 {av : List Int} {h : XH} {Q : Nat → List Int → XH → Prop} : CS38 136 av h Q = k136 av h Q := id rfl
theorem cs38_138 {av : List Int} {h : XH} {Q : Nat → List Int → XH → Prop} : CS38 138 av h Q = k138 av h Q := id rfl
theorem cs38_139 {av : List Int} {h : XH} {Q : Nat → List Int → XH → Prop} : CS38 139 av h Q = k139 av h Q := id rfl
theorem cs38_105 {av : List Int} {h : XH} {Q : Nat → List Int → XH → Prop} : CS38 105 av h Q = k105 av h Q := id rfl
theorem cs38_102 {av : List Int} {h : XH} {Q : Nat → List Int → XH → Prop} : CS38 102 av h Q = k102 av h Q := id rfl
theorem cs38_103 {av : List Int} {h : XH} {Q : Nat → List Int → XH → Prop} : CS38 103 av h Q = k103 av h Q := id rfl
theorem cs38_104 {av : List Int} {h : XH} {Q : Nat → List Int → XH → Prop} : CS38 104 av h Q = k104 av h Q := id rfl
theorem cs38_106 {av : List Int} {h : XH} {Q : Nat → List Int → XH → Prop} : CS38 106 av h Q = k106 av h Q := id rfl
theorem cs38_140 {av : List Int} {h : XH} {Q : Nat → List Int → XH → Prop} : CS38 140 av h Q = k140 av h Q := id rfl
theorem cs38_137 {av : List Int} {h : XH} {Q : Nat → List Int → XH → Prop} : CS38 137 av h Q = k137 av h Q := id rfl
theorem cs38_127 {av : List Int} {h : XH} {Q : Nat → List Int → XH → Prop} : CS38 127 av h Q = k127 av h Q := id rfl
theorem cs38_56 {av : List Int} {h : XH} {Q : Nat → List Int → XH → Prop} : CS38 56 av h Q = k56 av h Q := id rfl
theorem cs38_57 {av : List Int} {h : XH} {Q : Nat → List Int → XH → Prop} : CS38 57 av h Q = k57 av h Q := id rfl
theorem cs38_79 {av : List Int} {h : XH} {Q : Nat → List Int → XH → Prop} : CS38 79 av h Q = k79 av h Q := id rfl
theorem cs38_101 {av : List Int} {h : XH} {Q : Nat → List Int → XH → Prop} : CS38 101 av h Q = k101 av h Q := id rfl
theorem cs38_96 {av : List Int} {h : XH} {Q : Nat → List Int → XH → Prop} : CS38 96 av h Q = k96 av h Q := id rfl
theorem cs38_99 {av : List Int} {h : XH} {Q : Nat → List Int → XH → Prop} : CS38 99 av h Q = k99c av h Q := id rfl
theorem cs38_100 {av : List Int} {h : XH} {Q : Nat → List Int → XH → Prop} : CS38 100 av h Q = k100 av h Q := id rfl
theorem cs38_98 {av : List Int} {h : XH} {Q : Nat → List Int → XH → Prop} : CS38 98 av h Q = k98 av h Q := id rfl
theorem cs38_122 {av : List Int} {h : XH} {Q : Nat → List Int → XH → Prop} : CS38 122 av h Q = k122 av h Q := id rfl
theorem cs38_123 {av : List Int} {h : XH} {Q : Nat → List Int → XH → Prop} : CS38 123 av h Q = k123 av h Q := id rfl
theorem cs38_124 {av : List Int} {h : XH} {Q : Nat → List Int → XH → Prop} : CS38 124 av h Q = k124 av h Q := id rfl
theorem cs38_125 {av : List Int} {h : XH} {Q : Nat → List Int → XH → Prop} : CS38 125 av h Q = k125 av h Q := id rfl
theorem cs38_126 {av : List Int} {h : XH} {Q : Nat → List Int → XH → Prop} : CS38 126 av h Q = k126 av h Q := id rfl
theorem cs38_84 {av : List Int} {h : XH} {Q : Nat → List Int → XH → Prop} : CS38 84 av h Q = k84 av h Q := id rfl
theorem cs38_82 {av : List Int} {h : XH} {Q : Nat → List Int → XH → Prop} : CS38 82 av h Q = k82 av h Q := id rfl
theorem cs38_83 {av : List Int} {h : XH} {Q : Nat → List Int → XH → Prop} : CS38 83 av h Q = k83 av h Q := id rfl
theorem cs38_85 {av : List Int} {h : XH} {Q : Nat → List Int → XH → Prop} : CS38 85 av h Q = k85 av h Q := id rfl
theorem cs38_89 {av : List Int} {h : XH} {Q : Nat → List Int → XH → Prop} : CS38 89 av h Q = k89 av h Q := id rfl
theorem cs38_90 {av : List Int} {h : XH} {Q : Nat → List Int → XH → Prop} : CS38 90 av h Q = k90 av h Q := id rfl
theorem cs38_91 {av : List Int} {h : XH} {Q : Nat → List Int → XH → Prop} : CS38 91 av h Q = k91 av h Q := id rfl
theorem cs38_88 {av : List Int} {h : XH} {Q : Nat → List Int → XH → Prop} : CS38 88 av h Q = k88 av h Q := id rfl
theorem cs38_86 {av : List Int} {h : XH} {Q : Nat → List Int → XH → Prop} : CS38 86 av h Q = k86 av h Q := id rfl
theorem cs38_87 {av : List Int} {h : XH} {Q : Nat → List Int → XH → Prop} : CS38 87 av h Q = k87 av h Q := id rfl
theorem cs38_81 {av : List Int} {h : XH} {Q : Nat → List Int → XH → Prop} : CS38 81 av h Q = k81 av h Q := id rfl
theorem cs38_128 {av : List Int} {h : XH} {Q : Nat → List Int → XH → Prop} : CS38 128 av h Q = k128 av h Q := id rfl
theorem cs38_119 {av : List Int} {h : XH} {Q : Nat → List Int → XH → Prop} : CS38 119 av h Q = k119 av h Q := id rfl
theorem cs38_58 {av : List Int} {h : XH} {Q : Nat → List Int → XH → Prop} : CS38 58 av h Q = k58 av h Q := id rfl
theorem cs38_80 {av : List Int} {h : XH} {Q : Nat → List Int → XH → Prop} : CS38 80 av h Q = k80 av h Q := id rfl
theorem cs38_97 {av : List Int} {h : XH} {Q : Nat → List Int → XH → Prop} : CS38 97 av h Q = k97s av h Q := id rfl
theorem cs38_156 {av : List Int} {h : XH} {Q : Nat → List Int → XH → Prop} : CS38 156 av h Q = k156 av h Q := id rfl
theorem cs38_142 {av : List Int} {h : XH} {Q : Nat → List Int → XH → Prop} : CS38 142 av h Q = k142 av h Q := id rfl
theorem cs38_3 {av : List Int} {h : XH} {Q : Nat → List Int → XH → Prop} : CS38 3 av h Q = k3s av h Q := id rfl
theorem cs38_61 {av : List Int} {h : XH} {Q : Nat → List Int → XH → Prop} : CS38 61 av h Q = k61z av h Q := id rfl
theorem cs38_2 {av : List Int} {h : XH} {Q : Nat → List Int → XH → Prop} : CS38 2 av h Q = k2s av h Q := id rfl
theorem cs38_240 {av : List Int} {h : XH} {Q : Nat → List Int → XH → Prop} : CS38 240 av h Q = k240s av h Q := id rfl
theorem cs38_241 {av : List Int} {h : XH} {Q : Nat → List Int → XH → Prop} : CS38 241 av h Q = k241s av h Q := id rfl
theorem cs38_206 {av : List Int} {h : XH} {Q : Nat → List Int → XH → Prop} : CS38 206 av h Q = k206s av h Q := id rfl
theorem cs38_113 {av : List Int} {h : XH} {Q : Nat → List Int → XH → Prop} : CS38 113 av h Q = k113 av h Q := id rfl
theorem cs38_114 {av : List Int} {h : XH} {Q : Nat → List Int → XH → Prop} : CS38 114 av h Q = k114 av h Q := id rfl
theorem cs38_116 {av : List Int} {h : XH} {Q : Nat → List Int → XH → Prop} : CS38 116 av h Q = k116 av h Q := id rfl
theorem cs38_117 {av : List Int} {h : XH} {Q : Nat → List Int → XH → Prop} : CS38 117 av h Q = k117 av h Q := id rfl
theorem cs38_121 {av : List Int} {h : XH} {Q : Nat → List Int → XH → Prop} : CS38 121 av h Q = k121 av h Q := id rfl
theorem cs38_129 {av : List Int} {h : XH} {Q : Nat → List Int → XH → Prop} : CS38 129 av h Q = k129 av h Q := id rfl
theorem cs38_130 {av : List Int} {h : XH} {Q : Nat → List Int → XH → Prop} : CS38 130 av h Q = k130 av h Q := id rfl
theorem cs38_131 {av : List Int} {h : XH} {Q : Nat → List Int → XH → Prop} : CS38 131 av h Q = k131 av h Q := id rfl
theorem cs38_132 {av : List Int} {h : XH} {Q : Nat → List Int → XH → Prop} : CS38 132 av h Q = k132 av h Q := id rfl
theorem cs38_120 {av : List Int} {h : XH} {Q : Nat → List Int → XH → Prop} : CS38 120 av h Q = k120 av h Q := id rfl
theorem cs38_4 {av : List Int} {h : XH} {Q : Nat → List Int → XH → Prop} : CS38 4 av h Q = k4 av h Q := id rfl
theorem cs38_229 {av : List Int} {h : XH} {Q : Nat → List Int → XH → Prop} : CS38 229 av h Q = k229 av h Q := id rfl
theorem cs38_233 {av : List Int} {h : XH} {Q : Nat → List Int → XH → Prop} : CS38 233 av h Q = k233 av h Q := id rfl
theorem cs38_234 {av : List Int} {h : XH} {Q : Nat → List Int → XH → Prop} : CS38 234 av h Q = k234 av h Q := id rfl
theorem cs38_215 {av : List Int} {h : XH} {Q : Nat → List Int → XH → Prop} : CS38 215 av h Q = k215 av h Q := id rfl
theorem cs38_214 {av : List Int} {h : XH} {Q : Nat → List Int → XH → Prop} : CS38 214 av h Q = k214 av h Q := id rfl
theorem cs38_146 {av : List Int} {h : XH} {Q : Nat → List Int → XH → Prop} : CS38 146 av h Q = k146 av h Q := id rfl
theorem cs38_147 {av : List Int} {h : XH} {Q : Nat → List Int → XH → Prop} : CS38 147 av h Q = k147 av h Q := id rfl
theorem cs38_149 {av : List Int} {h : XH} {Q : Nat → List Int → XH → Prop} : CS38 149 av h Q = k149 av h Q := id rfl
theorem cs38_155 {av : List Int} {h : XH} {Q : Nat → List Int → XH → Prop} : CS38 155 av h Q = k155 av h Q := id rfl
theorem cs38_157 {av : List Int} {h : XH} {Q : Nat → List Int → XH → Prop} : CS38 157 av h Q = k157 av h Q := id rfl
theorem cs38_165 {av : List Int} {h : XH} {Q : Nat → List Int → XH → Prop} : CS38 165 av h Q = k165 av h Q := id rfl
theorem cs38_59 {av : List Int} {h : XH} {Q : Nat → List Int → XH → Prop} : CS38 59 av h Q = k59 av h Q := id rfl
theorem cs38_107 {av : List Int} {h : XH} {Q : Nat → List Int → XH → Prop} : CS38 107 av h Q = k107 av h Q := id rfl
theorem cs38_108 {av : List Int} {h : XH} {Q : Nat → List Int → XH → Prop} : CS38 108 av h Q = k108 av h Q := id rfl
theorem cs38_109 {av : List Int} {h : XH} {Q : Nat → List Int → XH → Prop} : CS38 109 av h Q = k109 av h Q := id rfl
theorem cs38_110 {av : List Int} {h : XH} {Q : Nat → List Int → XH → Prop} : CS38 110 av h Q = k110 av h Q := id rfl
theorem cs38_111 {av : List Int} {h : XH} {Q : Nat → List Int → XH → Prop} : CS38 111 av h Q = k111 av h Q := id rfl
theorem cs38_112 {av : List Int} {h : XH} {Q : Nat → List Int → XH → Prop} : CS38 112 av h Q = k112 av h Q := id rfl
theorem cs38_143 {av : List Int} {h : XH} {Q : Nat → List Int → XH → Prop} : CS38 143 av h Q = k143 av h Q := id rfl
theorem cs38_170 {av : List Int} {h : XH} {Q : Nat → List Int → XH → Prop} : CS38 170 av h Q = k170 av h Q := id rfl
theorem cs38_168 {av : List Int} {h : XH} {Q : Nat → List Int → XH → Prop} : CS38 168 av h Q = k168 av h Q := id rfl
theorem cs38_169 {av : List Int} {h : XH} {Q : Nat → List Int → XH → Prop} : CS38 169 av h Q = k169 av h Q := id rfl
theorem cs38_181 {av : List Int} {h : XH} {Q : Nat → List Int → XH → Prop} : CS38 181 av h Q = k181 av h Q := id rfl
theorem cs38_5 {av : List Int} {h : XH} {Q : Nat → List Int → XH → Prop} : CS38 5 av h Q = k5 av h Q := id rfl
theorem cs38_6 {av : List Int} {h : XH} {Q : Nat → List Int → XH → Prop} : CS38 6 av h Q = k6 av h Q := id rfl
theorem cs38_7 {av : List Int} {h : XH} {Q : Nat → List Int → XH → Prop} : CS38 7 av h Q = k7 av h Q := id rfl
theorem cs38_8 {av : List Int} {h : XH} {Q : Nat → List Int → XH → Prop} : CS38 8 av h Q = k8 av h Q := id rfl
theorem cs38_9 {av : List Int} {h : XH} {Q : Nat → List Int → XH → Prop} : CS38 9 av h Q = k9 av h Q := id rfl
theorem cs38_10 {av : List Int} {h : XH} {Q : Nat → List Int → XH → Prop} : CS38 10 av h Q = k10s av h Q := id rfl
theorem cs38_11 {av : List Int} {h : XH} {Q : Nat → List Int → XH → Prop} : CS38 11 av h Q = k11 av h Q := id rfl
theorem cs38_12 {av : List Int} {h : XH} {Q : Nat → List Int → XH → Prop} : CS38 12 av h Q = k12s av h Q := id rfl
theorem cs38_40 {av : List Int} {h : XH} {Q : Nat → List Int → XH → Prop} : CS38 40 av h Q = k40s av h Q := id rfl
theorem cs38_49 {av : List Int} {h : XH} {Q : Nat → List Int → XH → Prop} : CS38 49 av h Q = k49 av h Q := id rfl
theorem cs38_50 {av : List Int} {h : XH} {Q : Nat → List Int → XH → Prop} : CS38 50 av h Q = k50 av h Q := id rfl
theorem cs38_48 {av : List Int} {h : XH} {Q : Nat → List Int → XH → Prop} : CS38 48 av h Q = k48 av h Q := id rfl
theorem cs38_224 {av : List Int} {h : XH} {Q : Nat → List Int → XH → Prop} : CS38 224 av h Q = k224s av h Q := id rfl
theorem cs38_230 {av : List Int} {h : XH} {Q : Nat → List Int → XH → Prop} : CS38 230 av h Q = k230 av h Q := id rfl
theorem cs38_235 {av : List Int} {h : XH} {Q : Nat → List Int → XH → Prop} : CS38 235 av h Q = k235 av h Q := id rfl
theorem cs38_236 {av : List Int} {h : XH} {Q : Nat → List Int → XH → Prop} : CS38 236 av h Q = k236 av h Q := id rfl
theorem cs38_237 {av : List Int} {h : XH} {Q : Nat → List Int → XH → Prop} : CS38 237 av h Q = k237 av h Q := id rfl
theorem cs38_238 {av : List Int} {h : XH} {Q : Nat → List Int → XH → Prop} : CS38 238 av h Q = k238 av h Q := id rfl
theorem cs38_243 {av : List Int} {h : XH} {Q : Nat → List Int → XH → Prop} : CS38 243 av h Q = k243 av h Q := id rfl
theorem cs38_256 {av : List Int} {h : XH} {Q : Nat → List Int → XH → Prop} : CS38 256 av h Q = k256 av h Q := id rfl
theorem cs38_264 {av : List Int} {h : XH} {Q : Nat → List Int → XH → Prop} : CS38 264 av h Q = k264 av h Q := id rfl
theorem cs38_266 {av : List Int} {h : XH} {Q : Nat → List Int → XH → Prop} : CS38 266 av h Q = k266 av h Q := id rfl
theorem cs38_239 {av : List Int} {h : XH} {Q : Nat → List Int → XH → Prop} : CS38 239 av h Q = k239 av h Q := id rfl
theorem cs38_242 {av : List Int} {h : XH} {Q : Nat → List Int → XH → Prop} : CS38 242 av h Q = k242s av h Q := id rfl
theorem cs38_260 {av : List Int} {h : XH} {Q : Nat → List Int → XH → Prop} : CS38 260 av h Q = k260 av h Q := id rfl
theorem cs38_261 {av : List Int} {h : XH} {Q : Nat → List Int → XH → Prop} : CS38 261 av h Q = k261 av h Q := id rfl
theorem cs38_262 {av : List Int} {h : XH} {Q : Nat → List Int → XH → Prop} : CS38 262 av h Q = k262 av h Q := id rfl
theorem cs38_263 {av : List Int} {h : XH} {Q : Nat → List Int → XH → Prop} : CS38 263 av h Q = k263 av h Q := id rfl
theorem cs38_265 {av : List Int} {h : XH} {Q : Nat → List Int → XH → Prop} : CS38 265 av h Q = k265 av h Q := id rfl
theorem cs38_267 {av : List Int} {h : XH} {Q : Nat → List Int → XH → Prop} : CS38 267 av h Q = k267 av h Q := id rfl
theorem cs38_268 {av : List Int} {h : XH} {Q : Nat → List Int → XH → Prop} : CS38 268 av h Q = k268 av h Q := id rfl
theorem cs38_272 {av : List Int} {h : XH} {Q : Nat → List Int → XH → Prop} : CS38 272 av h Q = k272 av h Q := id rfl
theorem cs38_304 {av : List Int} {h : XH} {Q : Nat → List Int → XH → Prop} : CS38 304 av h Q = k304 av h Q := id rfl
theorem cs38_311 {av : List Int} {h : XH} {Q : Nat → List Int → XH → Prop} : CS38 311 av h Q = k311 av h Q := id rfl
theorem cs38_254 {av : List Int} {h : XH} {Q : Nat → List Int → XH → Prop} : CS38 254 av h Q = k254f av h Q := id rfl
theorem cs38_257 {av : List Int} {h : XH} {Q : Nat → List Int → XH → Prop} : CS38 257 av h Q = k257f av h Q := id rfl
theorem kFr_ok {xs : Nat → Int} {L K n f : Nat} {cd : Nat × Nat} {av : List Int} {h : XH} {Q : Nat → List Int → XH → Prop} (h1 : tpL2.contains f = true) (h2 : m_in f = true) (hQ : kFr f av h Q) {k : Nat} {r : List Int} {g' : XS × Nat × Nat} {h' : XH} (e : evF xs L g_ck K g_cW g_M n f av ((a_g3, cd), h) = some (k, r, (g', h'))) : (k = 1 → g' = (a_g3, cd)) ∧ Q k r h' :=
  ⟨(snd_top2 n cd f av h (fun _ _ _ => True) ⟨h1, fun _ _ _ => trivial⟩ k r g' h' e).1, hQ.2 k r h' (fr_all n f av (a_g3, cd) h k r g' h' h2 rfl (Or.inr hQ.1) e).2⟩
theorem snd_38 {xs : Nat → Int} {L K : Nat} : ∀ n, SndC CS38 (evF xs L g_ck K g_cW g_M n) := fun n cd f av h Q hQ k r g' h' e => by
  unfold CS38 at hQ
  split at hQ
  · exact kFr_ok (by decide) (by decide) hQ e
  · exact kFr_ok (by decide) (by decide) hQ e
  · exact snd_37 n cd _ av h Q hQ k r g' h' e
def CS39 : CSt := fun f => match f with
  | 269 => k269
  | _ => CS38 f
theorem cs39_54 {av : List Int} {h : XH} {Q : Nat → List Int → XH → Prop} : CS39 54 av h Q = k54 av h Q := id rfl
theorem cs39_55 {av : List Int} {h : XH} {Q : Nat → List Int → XH → Prop} : CS39 55 av h Q = k55 av h Q := id rfl
theorem cs39_68 {av : List Int} {h : XH} {Q : Nat → List Int → XH → Prop} : CS39 68 av h Q = k68 av h Q := id rfl
theorem cs39_69 {av : List Int} {h : XH} {Q : Nat → List Int → XH → Prop} : CS39 69 av h Q = k69 av h Q := id rfl
theorem cs39_70 {av : List Int} {h : XH} {Q : Nat → List Int → XH → Prop} : CS39 70 av h Q = k70 av h Q := id rfl
theorem cs39_71 {av : List Int} {h : XH} {Q : Nat → List Int → XH → Prop} : CS39 71 av h Q = k71 av h Q := id rfl
theorem cs39_72 {av : List Int} {h : XH} {Q : Nat → List Int → XH → Prop} : CS39 72 av h Q = k72 av h Q := id rfl
theorem cs39_73 {av : List Int} {h : XH} {Q : Nat → List Int → XH → Prop} : CS39 73 av h Q = k73 av h Q := id rfl
theorem cs39_74 {av : List Int} {h : XH} {Q : Nat → List Int → XH → Prop} : CS39 74 av h Q = k74 av h Q := id rfl
theorem cs39_75 {av : List Int} {h : XH} {Q : Nat → List Int → XH → Prop} : CS39 75 av h Q = k75 av h Q := id rfl
theorem cs39_186 {av : List Int} {h : XH} {Q : Nat → List Int → XH → Prop} : CS39 186 av h Q = k186 av h Q := id rfl
theorem cs39_187 {av : List Int} {h : XH} {Q : Nat → List Int → XH → Prop} : CS39 187 av h Q = k187 av h Q := id rfl
theorem cs39_188 {av : List Int} {h : XH} {Q : Nat → List Int → XH → Prop} : CS39 188 av h Q = k188 av h Q := id rfl
theorem cs39_189 {av : List Int} {h : XH} {Q : Nat → List Int → XH → Prop} : CS39 189 av h Q = k189 av h Q := id rfl
theorem cs39_191 {av : List Int} {h : XH} {Q : Nat → List Int → XH → Prop} : CS39 191 av h Q = k191 av h Q := id rfl
theorem cs39_192 {av : List Int} {h : XH} {Q : Nat → List Int → XH → Prop} : CS39 192 av h Q = k192 av h Q := id rfl
theorem cs39_193 {av : List Int} {h : XH} {Q : Nat → List Int → XH → Prop} : CS39 193 av h Q = k193 av h Q := id rfl
theorem cs39_198 {av : List Int} {h : XH} {Q : Nat → List Int → XH → Prop} : CS39 198 av h Q = k198 av h Q := id rfl
theorem cs39_207 {av : List Int} {h : XH} {Q : Nat → List Int → XH → Prop} : CS39 207 av h Q = k207 av h Q := id rfl
theorem cs39_195 {av : List Int} {h : XH} {Q : Nat → List Int → XH → Prop} : CS39 195 av h Q = k195 av h Q := id rfl
theorem cs39_196 {av : List Int} {h : XH} {Q : Nat → List Int → XH → Prop} : CS39 196 av h Q = k196 av h Q := id rfl
theorem cs39_201 {av : List Int} {h : XH} {Q : Nat → List Int → XH → Prop} : CS39 201 av h Q = k201 av h Q := id rfl
theorem cs39_203 {av : List Int} {h : XH} {Q : Nat → List Int → XH → Prop} : CS39 203 av h Q = k203 av h Q := id rfl
theorem cs39_204 {av : List Int} {h : XH} {Q : Nat → List Int → XH → Prop} : CS39 204 av h Q = k204 av h Q := id rfl
theorem cs39_194 {av : List Int} {h : XH} {Q : Nat → List Int → XH → Prop} : CS39 194 av h Q = k194 av h Q := id rfl
theorem cs39_197 {av : List Int} {h : XH} {Q : Nat → List Int → XH → Prop} : CS39 197 av h Q = k197 av h Q := id rfl
theorem cs39_200 {av : List Int} {h : XH} {Q : Nat → List Int → XH → Prop} : CS39 200 av h Q = k200 av h Q := id rfl
theorem cs39_202 {av : List Int} {h : XH} {Q : Nat → List Int → XH → Prop} : CS39 202 av h Q = k202 av h Q := id rfl
theorem cs39_205 {av : List Int} {h : XH} {Q : Nat → List Int → XH → Prop} : CS39 205 av h Q = k205 av h Q := id rfl
theorem cs39_208 {av : List Int} {h : XH} {Q : Nat → List Int → XH → Prop} : CS39 208 av h Q = k208 av h Q := id rfl
theorem cs39_209 {av : List Int} {h : XH} {Q : Nat → List Int → XH → Prop} : CS39 209 av h Q = k209 av h Q := id rfl
theorem cs39_211 {av : List Int} {h : XH} {Q : Nat → List Int → XH → Prop} : CS39 211 av h Q = k211 av h Q := id rfl
theorem cs39_216 {av : List Int} {h : XH} {Q : Nat → List Int → XH → Prop} : CS39 216 av h Q = k216 av h Q := id rfl
theorem cs39_217 {av : List Int} {h : XH} {Q : Nat → List Int → XH → Prop} : CS39 217 av h Q = k217 av h Q := id rfl
theorem cs39_218 {av : List Int} {h : XH} {Q : Nat → List Int → XH → Prop} : CS39 218 av h Q = k218 av h Q := id rfl
theorem cs39_219 {av : List Int} {h : XH} {Q : Nat → List Int → XH → Prop} : CS39 219 av h Q = k219 av h Q := id rfl
theorem cs39_220 {av : List Int} {h : XH} {Q : Nat → List Int → XH → Prop} : CS39 220 av h Q = k220 av h Q := id rfl
theorem cs39_221 {av : List Int} {h : XH} {Q : Nat → List Int → XH → Prop} : CS39 221 av h Q = k221 av h Q := id rfl
theorem cs39_210 {av : List Int} {h : XH} {Q : Nat → List Int → XH → Prop} : CS39 210 av h Q = k210 av h Q := id rfl
theorem cs39_212 {av : List Int} {h : XH} {Q : Nat → List Int → XH → Prop} : CS39 212 av h Q = k212 av h Q := id rfl
theorem cs39_213 {av : List Int} {h : XH} {Q : Nat → List Int → XH → Prop} : CS39 213 av h Q = k213 av h Q := id rfl
theorem cs39_190 {av : List Int} {h : XH} {Q : Nat → List Int → XH → Prop} : CS39 190 av h Q = k190 av h Q := id rfl
theorem cs39_199 {av : List Int} {h : XH} {Q : Nat → List Int → XH → Prop} : CS39 199 av h Q = k199 av h Q := id rfl
theorem cs39_225 {av : List Int} {h : XH} {Q : Nat → List Int → XH → Prop} : CS39 225 av h Q = k225 av h Q := id rfl
theorem cs39_226 {av : List Int} {h : XH} {Q : Nat → List Int → XH → Prop} : CS39 226 av h Q = k226 av h Q := id rfl
theorem cs39_227 {av : List Int} {h : XH} {Q : Nat → List Int → XH → Prop} : CS39 227 av h Q = k227 av h Q := id rfl
theorem cs39_228 {av : List Int} {h : XH} {Q : Nat → List Int → XH → Prop} : CS39 228 av h Q = k228 av h Q := id rfl
theorem cs39_333 {av : List Int} {h : XH} {Q : Nat → List Int → XH → Prop} : CS39 333 av h Q = k333 av h Q := id rfl
theorem cs39_67 {av : List Int} {h : XH} {Q : Nat → List Int → XH → Prop} : CS39 67 av h Q = k67 av h Q := id rfl
theorem cs39_65 {av : List Int} {h : XH} {Q : Nat → List Int → XH → Prop} : CS39 65 av h Q = k65 av h Q := id rfl
theorem cs39_66 {av : List Int} {h : XH} {Q : Nat → List Int → XH → Prop} : CS39 66 av h Q = k66 av h Q := id rfl
theorem cs39_64 {av : List Int} {h : XH} {Q : Nat → List Int → XH → Prop} : CS39 64 av h Q = k64 av h Q := id rfl
theorem cs39_63 {av : List Int} {h : XH} {Q : Nat → List Int → XH → Prop} : CS39 63 av h Q = k63 av h Q := id rfl
theorem cs39_77 {av : List Int} {h : XH} {Q : Nat → List Int → XH → Prop} : CS39 77 av h Q = k77 av h Q := id rfl
theorem cs39_76 {av : List Int} {h : XH} {Q : Nat → List Int → XH → Prop} : CS39 76 av h Q = k76 av h Q := id rfl
theorem cs39_133 {av : List Int} {h : XH} {Q : Nat → List Int → XH → Prop} : CS39 133 av h Q = k133 av h Q := id rfl
theorem cs39_134 {av : List Int} {h : XH} {Q : Nat → List Int → XH → Prop} : CS39 134 av h Q = k134 av h Q := id rfl
theorem cs39_135 {av : List Int} {h : XH} {Q : Nat → List Int → XH → Prop} : CS39 135 av h Q = k135 av h Q := id rfl
theorem cs39_136 {av : List Int} {h : XH} {Q : Nat → List Int → XH → Prop} : CS39 136 av h Q = k136 av h Q := id rfl
theorem cs39_138 {av : List Int} {h : XH} {Q : Nat → List Int → XH → Prop} : CS39 138 av h Q = k138 av h Q := id rfl
theorem cs39_139 {av : List Int} {h : XH} {Q : Nat → List Int → XH → Prop} : CS39 139 av h Q = k139 av h Q := id rfl
theorem cs39_105 {av : List Int} {h : XH} {Q : Nat → List Int → XH → Prop} : CS39 105 av h Q = k105 av h Q := id rfl
theorem cs39_102 {av : List Int} {h : XH} {Q : Nat → List Int → XH → Prop} : CS39 102 av h Q = k102 av h Q := id rfl
theorem cs39_103 {av : List Int} {h : XH} {Q : Nat → List Int → XH → Prop} : CS39 103 av h Q = k103 av h Q := id rfl
theorem cs39_104 {av : List Int} {h : XH} {Q : Nat → List Int → XH → Prop} : CS39 104 av h Q = k104 av h Q := id rfl
theorem cs39_106 {av : List Int} {h : XH} {Q : Nat → List Int → XH → Prop} : CS39 106 av h Q = k106 av h Q := id rfl
theorem cs39_140 {av : List Int} {h : XH} {Q : Nat → List Int → XH → Prop} : CS39 140 av h Q = k140 av h Q := id rfl
theorem cs39_137 {av : List Int} {h : XH} {Q : Nat → List Int → XH → Prop} : CS39 137 av h Q = k137 av h Q := id rfl
theorem cs39_127 {av : List Int} {h : XH} {Q : Nat → List Int → XH → Prop} : CS39 127 av h Q = k127 av h Q := id rfl
theorem cs39_56 {av : List Int} {h : XH} {Q : Nat → List Int → XH → Prop} : CS39 56 av h Q = k56 av h Q := id rfl
theorem cs39_57 {av : List Int} {h : XH} {Q : Nat → List Int → XH → Prop} : CS39 57 av h Q = k57 av h Q := id rfl
theorem cs39_79 {av : List Int} {h : XH} {Q : Nat → List Int → XH → Prop} : CS39 79 av h Q = k79 av h Q := id rfl
theorem cs39_101 {av : List Int} {h : XH} {Q : Nat → List Int → XH → Prop} : CS39 101 av h Q = k101 av h Q := id rfl
theorem cs39_96 {av : List Int} {h : XH} {Q : Nat → List Int → XH → Prop} : CS39 96 av h Q = k96 av h Q := id rfl
theorem cs39_99 {av : List Int} {h : XH} {Q : Nat → List Int → XH → Prop} : CS39 99 av h Q = k99c av h Q := id rfl
theorem cs39_100 {av : List Int} {h : XH} {Q : Nat → List Int → XH → Prop} : CS39 100 av h Q = k100 av h Q := id rfl
theorem cs39_98 {av : List Int} {h : XH} {Q : Nat → List Int → XH → Prop} : CS39 98 av h Q = k98 av h Q := id rfl
theorem cs39_122 {av : List Int} {h : XH} {Q : Nat → List Int → XH → Prop} : CS39 122 av h Q = k122 av h Q := id rfl
theorem cs39_123 {av : List Int} {h : XH} {Q : Nat → List Int → XH → Prop} : CS39 123 av h Q = k123 av h Q := id rfl
theorem cs39_124 {av : List Int} {h : XH} {Q : Nat → List Int → XH → Prop} : CS39 124 av h Q = k124 av h Q := id rfl
theorem cs39_125 {av : List Int} {h : XH} {Q : Nat → List Int → XH → Prop} : CS39 125 av h Q = k125 av h Q := id rfl
theorem cs39_126 {av : List Int} {h : XH} {Q : Nat → List Int → XH → Prop} : CS39 126 av h Q = k126 av h Q := id rfl
theorem cs39_84 {av : List Int} {h : XH} {Q : Nat → List Int → XH → Prop} : CS39 84 av h Q = k84 av h Q := id rfl
theorem cs39_82 {av : List Int} {h : XH} {Q : Nat → List Int → XH → Prop} : CS39 82 av h Q = k82 av h Q := id rfl
theorem cs39_83 {av : List Int} {h : XH} {Q : Nat → List Int → XH → Prop} : CS39 83 av h Q = k83 av h Q := id rfl
theorem cs39_85 {av : List Int} {h : XH} {Q : Nat → List Int → XH → Prop} : CS39 85 av h Q = k85 av h Q := id rfl
theorem cs39_89 {av : List Int} {h : XH} {Q : Nat → List Int → XH → Prop} : CS39 89 av h Q = k89 av h Q := id rfl
theorem cs39_90 {av : List Int} {h : XH} {Q : Nat → List Int → XH → Prop} : CS39 90 av h Q = k90 av h Q := id rfl
theorem cs39_91 {av : List Int} {h : XH} {Q : Nat → List Int → XH → Prop} : CS39 91 av h Q = k91 av h Q := id rfl
theorem cs39_88 {av : List Int} {h : XH} {Q : Nat → List Int → XH → Prop} : CS39 88 av h Q = k88 av h Q := id rfl
theorem cs39_86 {av : List Int} {h : XH} {Q : Nat → List Int → XH → Prop} : CS39 86 av h Q = k86 av h Q := id rfl
theorem cs39_87 {av : List Int} {h : XH} {Q : Nat → List Int → XH → Prop} : CS39 87 av h Q = k87 av h Q := id rfl
theorem cs39_81 {av : List Int} {h : XH} {Q : Nat → List Int → XH → Prop} : CS39 81 av h Q = k81 av h Q := id rfl
theorem cs39_128 {av : List Int} {h : XH} {Q : Nat → List Int → XH → Prop} : CS39 128 av h Q = k128 av h Q := id rfl
theorem cs39_119 {av : List Int} {h : XH} {Q : Nat → List Int → XH → Prop} : CS39 119 av h Q = k119 av h Q := id rfl
theorem cs39_58 {av : List Int} {h : XH} {Q : Nat → List Int → XH → Prop} : CS39 58 av h Q = k58 av h Q := id rfl
theorem cs39_80 {av : List Int} {h : XH} {Q : Nat → List Int → XH → Prop} : CS39 80 av h Q = k80 av h Q := id rfl
theorem cs39_97 {av : List Int} {h : XH} {Q : Nat → List Int → XH → Prop} : CS39 97 av h Q = k97s av h Q := id rfl
theorem cs39_156 {av : List Int} {h : XH} {Q : Nat → List Int → XH → Prop} : CS39 156 av h Q = k156 av h Q := id rfl
theorem cs39_142 {av : List Int} {h : XH} {Q : Nat → List Int → XH → Prop} : CS39 142 av h Q = k142 av h Q := id rfl
theorem cs39_3 {av : List Int} {h : XH} {Q : Nat → List Int → XH → Prop} : CS39 3 av h Q = k3s av h Q := id rfl
theorem cs39_61 {av : List Int} {h : XH} {Q : Nat → List Int → XH → Prop} : CS39 61 av h Q = k61z av h Q := id rfl
theorem cs39_2 {av : List Int} {h : XH} {Q : Nat → List Int → XH → Prop} : CS39 2 av h Q = k2s av h Q := id rfl
theorem cs39_240 {av : List Int} {h : XH} {Q : Nat → List Int → XH → Prop} : CS39 240 av h Q = k240s av h Q := id rfl
theorem cs39_241 {av : List Int} {h : XH} {Q : Nat → List Int → XH → Prop} : CS39 241 av h Q = k241s av h Q := id rfl
theorem cs39_206 {av : List Int} {h : XH} {Q : Nat → List Int → XH → Prop} : CS39 206 av h Q = k206s av h Q := id rfl
theorem cs39_113 {av : List Int} {h : XH} {Q : Nat → List Int → XH → Prop} : CS39 113 av h Q = k113 av h Q := id rfl
theorem cs39_114 {av : List Int} {h : XH} {Q : Nat → List Int → XH → Prop} : CS39 114 av h Q = k114 av h Q := id rfl
theorem cs39_116 {av : List Int} {h : XH} {Q : Nat → List Int → XH → Prop} : CS39 116 av h Q = k116 av h Q := id rfl
theorem cs39_117 {av : List Int} {h : XH} {Q : Nat → List Int → XH → Prop} : CS39 117 av h Q = k117 av h Q := id rfl
theorem cs39_121 {av : List Int} {h : XH} {Q : Nat → List Int → XH → Prop} : CS39 121 av h Q = k121 av h Q := id rfl
theorem cs39_129 {av : List Int} {h : XH} {Q : Nat → List Int → XH → Prop} : CS39 129 av h Q = k129 av h Q := id rfl
theorem cs39_130 {av : List Int} {h : XH} {Q : Nat → List Int → XH → Prop} : CS39 130 av h Q = k130 av h Q := id rfl
theorem cs39_131 {av : List Int} {h : XH} {Q : Nat → List Int → XH → Prop} : CS39 131 av h Q = k131 av h Q := id rfl
theorem cs39_132 {av : List Int} {h : XH} {Q : Nat → List Int → XH → Prop} : CS39 132 av h Q = k132 av h Q := id rfl
theorem cs39_120 {av : List Int} {h : XH} {Q : Nat → List Int → XH → Prop} : CS39 120 av h Q = k120 av h Q := id rfl
theorem cs39_4 {av : List Int} {h : XH} {Q : Nat → List Int → XH → Prop} : CS39 4 av h Q = k4 av h Q := id rfl
theorem cs39_229 {av : List Int} {h : XH} {Q : Nat → List Int → XH → Prop} : CS39 229 av h Q = k229 av h Q := id rfl
theorem cs39_233 {av : List Int} {h : XH} {Q : Nat → List Int → XH → Prop} : CS39 233 av h Q = k233 av h Q := id rfl
theorem cs39_234 {av : List Int} {h : XH} {Q : Nat → List Int → XH → Prop} : CS39 234 av h Q = k234 av h Q := id rfl
theorem cs39_215 {av : List Int} {h : XH} {Q : Nat → List Int → XH → Prop} : CS39 215 av h Q = k215 av h Q := id rfl
theorem cs39_214 {av : List Int} {h : XH} {Q : Nat → List Int → XH → Prop} : CS39 214 av h Q = k214 av h Q := id rfl
theorem cs39_146 {av : List Int} {h : XH} {Q : Nat → List Int → XH → Prop} : CS39 146 av h Q = k146 av h Q := id rfl
theorem cs39_147 {av : List Int} {h : XH} {Q : Nat → List Int → XH → Prop} : CS39 147 av h Q = k147 av h Q := id rfl
theorem cs39_149 {av : List Int} {h : XH} {Q : Nat → List Int → XH → Prop} : CS39 149 av h Q = k149 av h Q := id rfl
theorem cs39_155 {av : List Int} {h : XH} {Q : Nat → List Int → XH → Prop} : CS39 155 av h Q = k155 av h Q := id rfl
theorem cs39_157 {av : List Int} {h : XH} {Q : Nat → List Int → XH → Prop} : CS39 157 av h Q = k157 av h Q := id rfl
theorem cs39_165 {av : List Int} {h : XH} {Q : Nat → List Int → XH → Prop} : CS39 165 av h Q = k165 av h Q := id rfl
theorem cs39_59 {av : List Int} {h : XH} {Q : Nat → List Int → XH → Prop} : CS39 59 av h Q = k59 av h Q := id rfl
theorem cs39_107 {av : List Int} {h : XH} {Q : Nat → List Int → XH → Prop} : CS39 107 av h Q = k107 av h Q := id rfl
theorem cs39_108 {av : List Int} {h : XH} {Q : Nat → List Int → XH → Prop} : CS39 108 av h Q = k108 av h Q := id rfl
theorem cs39_109 {av : List Int} {h : XH} {Q : Nat → List Int → XH → Prop} : CS39 109 av h Q = k109 av h Q := id rfl
theorem cs39_110 {av : List Int} {h : XH} {Q : Nat → List Int → XH → Prop} : CS39 110 av h Q = k110 av h Q := id rfl
theorem cs39_111 {av : List Int} {h : XH} {Q : Nat → List Int → XH → Prop} : CS39 111 av h Q = k111 av h Q := id rfl
theorem cs39_112 {av : List Int} {h : XH} {Q : Nat → List Int → XH → Prop} : CS39 112 av h Q = k112 av h Q := id rfl
theorem cs39_143 {av : List Int} {h : XH} {Q : Nat → List Int → XH → Prop} : CS39 143 av h Q = k143 av h Q := id rfl
theorem cs39_170 {av : List Int} {h : XH} {Q : Nat → List Int → XH → Prop} : CS39 170 av h Q = k170 av h Q := id rfl
theorem cs39_168 {av : List Int} {h : XH} {Q : Nat → List Int → XH → Prop} : CS39 168 av h Q = k168 av h Q := id rfl
theorem cs39_169 {av : List Int} {h : XH} {Q : Nat → List Int → XH → Prop} : CS39 169 av h Q = k169 av h Q := id rfl
theorem cs39_181 {av : List Int} {h : XH} {Q : Nat → List Int → XH → Prop} : CS39 181 av h Q = k181 av h Q := id rfl
theorem cs39_5 {av : List Int} {h : XH} {Q : Nat → List Int → XH → Prop} : CS39 5 av h Q = k5 av h Q := id rfl
theorem cs39_6 {av : List Int} {h : XH} {Q : Nat → List Int → XH → Prop} : CS39 6 av h Q = k6 av h Q := id rfl
theorem cs39_7 {av : List Int} {h : XH} {Q : Nat → List Int → XH → Prop} : CS39 7 av h Q = k7 av h Q := id rfl
theorem cs39_8 {av : List Int} {h : XH} {Q : Nat → List Int → XH → Prop} : CS39 8 av h Q = k8 av h Q := id rfl
theorem cs39_9 {av : List Int} {h : XH} {Q : Nat → List Int → XH → Prop} : CS39 9 av h Q = k9 av h Q := id rfl
theorem cs39_10 {av : List Int} {h : XH} {Q : Nat → List Int → XH → Prop} : CS39 10 av h Q = k10s av h Q := id rfl
theorem cs39_11 {av : List Int} {h : XH} {Q : Nat → List Int → XH → Prop} : CS39 11 av h Q = k11 av h Q := id rfl
theorem cs39_12 {av : List Int} {h : XH} {Q : Nat → List Int → XH → Prop} : CS39 12 av h Q = k12s av h Q := id rfl
theorem cs39_40 {av : List Int} {h : XH} {Q : Nat → List Int → XH → Prop} : CS39 40 av h Q = k40s av h Q := id rfl
theorem cs39_49 {av : List Int} {h : XH} {Q : Nat → List Int → XH → Prop} : CS39 49 av h Q = k49 av h Q := id rfl
theorem cs39_50 {av : List Int} {h : XH} {Q : Nat → List Int → XH → Prop} : CS39 50 av h Q = k50 av h Q := id rfl
theorem cs39_48 {av : List Int} {h : XH} {Q : Nat → List Int → XH → Prop} : CS39 48 av h Q = k48 av h Q := id rfl
theorem cs39_224 {av : List Int} {h : XH} {Q : Nat → List Int → XH → Prop} : CS39 224 av h Q = k224s av h Q := id rfl
theorem cs39_230 {av : List Int} {h : XH} {Q : Nat → List Int → XH → Prop} : CS39 230 av h Q = k230 av h Q := id rfl
theorem cs39_235 {av : List Int} {h : XH} {Q : Nat → List Int → XH → Prop} : CS39 235 av h Q = k235 av h Q := id rfl
theorem cs39_236 {av : List Int} {h : XH} {Q : Nat → List Int → XH → Prop} : CS39 236 av h Q = k236 av h Q := id rfl
theorem cs39_237 {av : List Int} {h : XH} {Q : Nat → List Int → XH → Prop} : CS39 237 av h Q = k237 av h Q := id rfl
theorem cs39_238 {av : List Int} {h : XH} {Q : Nat → List Int → XH → Prop} : CS39 238 av h Q = k238 av h Q := id rfl
theorem cs39_243 {av : List Int} {h : XH} {Q : Nat → List Int → XH → Prop} : CS39 243 av h Q = k243 av h Q := id rfl
theorem cs39_256 {av : List Int} {h : XH} {Q : Nat → List Int → XH → Prop} : CS39 256 av h Q = k256 av h Q := id rfl
theorem cs39_264 {av : List Int} {h : XH} {Q : Nat → List Int → XH → Prop} : CS39 264 av h Q = k264 av h Q := id rfl
theorem cs39_266 {av : List Int} {h : XH} {Q : Nat → List Int → XH → Prop} : CS39 266 av h Q = k266 av h Q := id rfl
theorem cs39_239 {av : List Int} {h : XH} {Q : Nat → List Int → XH → Prop} : CS39 239 av h Q = k239 av h Q := id rfl
theorem cs39_242 {av : List Int} {h : XH} {Q : Nat → List Int → XH → Prop} : CS39 242 av h Q = k242s av h Q := id rfl
theorem cs39_260 {av : List Int} {h : XH} {Q : Nat → List Int → XH → Prop} : CS39 260 av h Q = k260 av h Q := id rfl
theorem cs39_261 {av : List Int} {h : XH} {Q : Nat → List Int → XH → Prop} : CS39 261 av h Q = k261 av h Q := id rfl
theorem cs39_262 {av : List Int} {h : XH} {Q : Nat → List Int → XH → Prop} : CS39 262 av h Q = k262 av h Q := id rfl
theorem cs39_263 {av : List Int} {h : XH} {Q : Nat → List Int → XH → Prop} : CS39 263 av h Q = k263 av h Q := id rfl
theorem cs39_265 {av : List Int} {h : XH} {Q : Nat → List Int → XH → Prop} : CS39 265 av h Q = k265 av h Q := id rfl
theorem cs39_267 {av : List Int} {h : XH} {Q : Nat → List Int → XH → Prop} : CS39 267 av h Q = k267 av h Q := id rfl
theorem cs39_268 {av : List Int} {h : XH} {Q : Nat → List Int → XH → Prop} : CS39 268 av h Q = k268 av h Q := id rfl
theorem cs39_272 {av : List Int} {h : XH} {Q : Nat → List Int → XH → Prop} : CS39 272 av h Q = k272 av h Q := id rfl
theorem cs39_304 {av : List Int} {h : XH} {Q : Nat → List Int → XH → Prop} : CS39 304 av h Q = k304 av h Q := id rfl
theorem cs39_311 {av : List Int} {h : XH} {Q : Nat → List Int → XH → Prop} : CS39 311 av h Q = k311 av h Q := id rfl
theorem cs39_254 {av : List Int} {h : XH} {Q : Nat → List Int → XH → Prop} : CS39 254 av h Q = k254f av h Q := id rfl
theorem cs39_257 {av : List Int} {h : XH} {Q : Nat → List Int → XH → Prop} : CS39 257 av h Q = k257f av h Q := id rfl
theorem cs39_269 {av : List Int} {h : XH} {Q : Nat → List Int → XH → Prop} : CS39 269 av h Q = k269 av h Q := id rfl
theorem m_269 : BodyOK CS39 CS39 269 := fun av h Q hQ => by
  rw [cs39_269] at hQ
  unfold k269 at hQ
  split at hQ
  · rename_i t b s c v
    obtain ⟨rfl, rfl, sn, cn, rfl, hs, rfl, hc_w, ⟨n, f, hn, hf, hi_w⟩, hQ⟩ := hQ
    have n16 : n ≤ 16 := pig 16 n f (fun k z => (hf k z).1) hi_w
    show pS CS39 bb_269 [182, 0, (sn : Int), (cn : Int), v, 0, 0, 0, 0] h _
    unfold bb_269
    have j355 : j32 355 = 355 := rfl
    have j356 : j32 356 = 356 := rfl
    simp only [qe_1, qe_3, qe_4, qe_5, qe_7, qe_72, qe_10, qe_102, qe_13, qe_14, qe_15, qe_16, qe_17, qe_18, qe_20, qe_22, qe_23, qe_21, qe_24, qe_25, qe_26, qe_27, qe_28, qe_30, qe_31, qe_32, qc_20, qc_22, qc_23, qc_21, qc_24, qc_25, qc_26, qc_27, qc_1, qc_3, qc_4, qc_7, qc_13, qc_28, qc_32, qs_1, qs_2, qs_3, qs_4, qs_5, qs_6, qs_9, qs_10, qs_11, qs_14, qs_15, qs_16, qs_27, qs_17, qs_18, qs_19, qs_20, qs_22, qs_23, qs_28, qs_25, qs_26, qs_7, qs_8, kc_1, kn_1, kc_2, kn_2, kc_3, kn_3, kc_4, kn_4, kc_5, kn_5, kc_6, kn_6, kc_7, kn_7, kc_8, kn_8, kc_9, kn_9, kc_10, kn_10, kc_11, kn_11, kc_12, kn_12, kc_13, kn_13, kc_14, kn_14, kc_15, kn_15, kc_16, kc_17, kc_18, kc_19, kc_20, kc_21, kc_22, kc_23, kc_30, kc_32, kc_40, kc_43, kc_45, kc_48, kc_52, kc_56, kc_57, kc_59, kc_60, kc_61, kc_63, kc_64, kc_72, kc_78, kc_97, kc_99, kc_122, kc_126, kc_128, kc_192, kc_200, kc_255, kc_999, kc_1000, kc_9999, kn_9999, kc_10000, kc_12345, kc_65536, kc_252645135, kc_858993459, kc_1103515245, kc_1431655765, kc_2147483647, kc_0, kc_24, kc_28, kc_37, kc_41, kc_42, kc_73, kc_91, kc_95, kc_96, kc_98, kc_100, kc_112, kc_125, kc_150, kc_162, kc_163, kc_168, kc_186, kc_190, kc_250, kc_355, kc_356, kc_404, kc_405, kc_429, kc_573, kc_1002, kc_1100, kc_1891, kc_2200, kc_4719, kc_4869, kc_4881, kc_5148, kc_19741, kc_25433, kc_320403, kc_628412, kc_629093, kc_660401, kc_679843, kc_918640, kc_979410, kc_1178088, kc_6232410, kc_24644941, kc_36238189, kc_38270444, kc_392531318, kc_425693491, kc_1342154595, kc_2147483648, kc_42328242873, kc_891704255789, kc_1722105685577, kc_1858726030364, ct_0, ct_1, ct_2, ct_3, ct_4, ct_5, cf_0, cf_1, cf_2, cf_3, cf_4, cf_5, w_ty6, w_ty7, m_sv, m_z0, m_hd, m_g0, m_gs, m_s0, m_ss, m_ap, m_an, forall_const, true_and, and_true, ne_eq, not_true_eq_false, not_false_eq_true, false_implies, true_implies, implies_true, eq_self, reduceCtorEq, Nat.reduceDiv, Nat.reduceMod, Int.reduceToNat, or_true, true_or, or_false, false_or, or_self, m_it, m_if, m_c1, m_01, m_02, m_03, m_04, m_10, m_12, m_13, m_14, m_20, m_21, m_23, m_24, m_30, m_31, m_32, m_34, m_40, m_41, m_42, m_43, Int.reduceLE, Int.reduceLT, Int.reduceGE, Int.reduceGT, Int.reduceNeg, Int.reduceAdd, Int.reduceSub, Int.reduceMul, Int.reduceEq, Int.reduceNe, Nat.reduceAdd, jun2, ro_0_0, ro_0_1, ro_0_2, ro_0_3, ro_0_4, ro_0_5, ro_0_6, ro_0_7, ro_0_8, ro_0_9, ro_0_10, ro_0_11, ro_0_12, ro_1_0, ro_1_1, ro_2_0, ro_4_0, ro_6_0, ro_6_1, ro_6_2, ro_6_3, ro_6_4, ro_6_5, ro_6_6, ro_6_7, ro_6_8, ro_8_0, ro_10_0, ro_12_0, ro_14_0, ro_16_0, ro_18_0, ro_20_0, ro_22_0, ro_22_1, ro_22_2, ro_23_0, ro_25_0, ro_27_0, ro_29_0, ro_29_1, ro_29_2, ro_29_3, ro_29_4, ro_29_5, ro_29_6, ro_29_7, ro_29_8, ro_31_0, ro_33_0, ro_35_0, ro_37_0, ro_39_0, ro_41_0, ro_43_0, ro_45_0, ro_45_1, ro_45_2, ro_46_0, ro_48_0, ro_50_0, ro_52_0, ro_52_1, ro_52_2, ro_52_3, ro_53_0, ro_55_0, ro_57_0, ro_59_0, ro_61_0, ro_61_1, ro_61_2, ro_61_3, ro_62_0, ro_64_0, ro_66_0, ro_68_0, ro_70_0, ro_70_1, ro_70_2, ro_70_3, ro_70_4, ro_70_5, ro_70_6, ro_70_7, ro_70_8, ro_70_9, ro_71_0, ro_73_0, ro_75_0, ro_77_0, ro_79_0, ro_81_0, ro_83_0, ro_85_0, ro_87_0, ro_89_0, ro_91_0, ro_91_1, ro_91_2, ro_91_3, ro_91_4, ro_91_5, ro_91_6, ro_91_7, ro_91_8, ro_91_9, ro_92_0, ro_94_0, ro_96_0, ro_98_0, ro_100_0, ro_102_0, ro_104_0, ro_106_0, ro_108_0, ro_110_0, ro_112_0, ro_112_1, ro_112_2, ro_112_3, ro_112_4, ro_112_5, ro_112_6, ro_112_7, ro_112_8, ro_112_9, ro_113_0, ro_115_0, ro_117_0, ro_119_0, ro_121_0, ro_123_0, ro_125_0, ro_127_0, ro_129_0, ro_131_0, ro_133_0, ro_133_1, ro_133_2, ro_133_3, ro_133_4, ro_133_5, ro_133_6, ro_133_7, ro_133_8, ro_133_9, ro_134_0, ro_136_0, ro_138_0, ro_140_0, ro_142_0, ro_144_0, ro_146_0, ro_148_0, ro_150_0, ro_152_0, ro_154_0, ro_155_0, ro_157_0, ro_157_1, ro_157_2, ro_157_3, ro_157_4, ro_157_5, ro_157_6, ro_157_7, ro_157_8, ro_157_9, ro_158_0, ro_160_0, ro_162_0, ro_164_0, ro_166_0, ro_168_0, ro_170_0, ro_172_0, ro_174_0, ro_176_0, ro_178_0, ro_180_0, ro_182_1, ro_182_4, ro_182_5, ro_182_6, ro_182_9, ro_182_10, ro_182_11, ro_182_13, ro_182_14, ro_182_15, ro_182_16, ro_182_17, ro_182_20, ro_182_21, ro_182_22, ro_182_23, ro_182_24, ro_182_26, ro_182_27, ro_182_28, lo_3, lo_5, lo_7, lo_9, lo_11, lo_13, lo_15, lo_17, lo_19, lo_21, lo_24, lo_26, lo_28, lo_30, lo_32, lo_34, lo_36, lo_38, lo_40, lo_42, lo_44, lo_47, lo_49, lo_51, lo_54, lo_56, lo_58, lo_60, lo_63, lo_65, lo_67, lo_69, lo_72, lo_74, lo_76, lo_78, lo_80, lo_82, lo_84, lo_86, lo_88, lo_90, lo_93, lo_95, lo_97, lo_99, lo_101, lo_103, lo_105, lo_107, lo_109, lo_111, lo_114, lo_116, lo_118, lo_120, lo_122, lo_124, lo_126, lo_128, lo_130, lo_132, lo_135, lo_137, lo_139, lo_141, lo_143, lo_145, lo_147, lo_149, lo_151, lo_153, lo_156, lo_159, lo_161, lo_163, lo_165, lo_167, lo_169, lo_171, lo_173, lo_175, lo_177, lo_179, lo_181, lo_183, lo_184, lo_185, lo_186, lo_187, lo_188, lo_189, lo_190, lo_191, lo_192, lo_193, lo_194, lo_195, lo_196, lo_197, lo_198, lo_199, lo_200, lo_201, lo_202, lo_203, jp_nn, jp_eq, jp_e1, Classical.not_not, ji0, ji1, ji2, jl_0, jl_1, jl_2, jl_3, jl_4, jl_5, jl_6, jl_7, jl_8, jl_9, jl_10, jl_11, jl_12, jl_13, jl_14, jl_15, jl_16, jl_17, jl_18, jl_19, jl_20, jl_21, jl_22, jl_23, jl_24, jl_25, jl_26, jl_27, jl_28, jl_29, jl_30, jl_31, jl_32, jl_33, jl_34, jl_35, jl_36, jl_37, jl_38, jl_39, jl_40, jl_95, jl_96, jl_97, jl_98, jl_99, jl_100, jl_101, jl_102, jl_103, jl_104, jl_105, jl_106, jl_107, jl_108, jl_109, jl_110, jl_111, jl_112, jl_113, jl_114, jl_186, jl_1100, jr, ju, jpT, jpF, tnc, Nat.reduceEqDiff, reduceIte, and_false, false_and, not_true_eq_false, not_false_eq_true, or_false, gt_iff_lt, ge_iff_le, Int.lt_irrefl, Int.le_refl, j355, j356, hn]
    intros
    refine qp_lp (fun en h' => ∃ (k a : Nat) (i0 : Int), en = [182, 0, (sn : Int), (cn : Int), v, (n : Int), (a : Int), (k : Int), i0] ∧ k ≤ n ∧ h' = h ∧ ((a = n ∧ ∀ j : Nat, j < k → f j ≠ 4 * sn + cn) ∨ (a < n ∧ f a = 4 * sn + cn))) ⟨0, n, 0, rfl, Nat.zero_le _, rfl, Or.inl ⟨rfl, fun j z => by omega⟩⟩ ?_
    intro en h1 ⟨k, a, i0, e5_w, z1, z2, z3⟩
    subst e5_w
    subst z2
    by_cases y : (k : Int) < (n : Int)
    · have y2 : ¬ (n : Int) ≤ (k : Int) := by omega
      have ek := jk1 (k := k) (by omega)
      have ei : j32 (356 + j32 (3 * (k : Int))) = ((356 + 3 * k : Nat) : Int) := by
        rw [jcn (x := 3 * (k : Int)) (n := 3 * k) (by omega) (by omega)]
        exact jcn (by omega) (by omega)
      have ei1 : j32 (((356 + 3 * k : Nat) : Int) + 1) = ((356 + 3 * k + 1 : Nat) : Int) := jcn (by omega) (by omega)
      obtain ⟨f1_w, f2_w, f3_w⟩ := hf k (by omega)
      have go_w : ∀ j : Nat, j < k + 1 → f k ≠ 4 * sn + cn → (∀ j : Nat, j < k → f j ≠ 4 * sn + cn) → f j ≠ 4 * sn + cn := fun j z1 z2 z3 => by
        by_cases yj : j = k
        · rw [yj]
          exact z2
        · exact z3 j (by omega)
      by_cases w1_w : ((f k / 4 : Nat) : Int) = (sn : Int)
      · by_cases w2_w : ((f k % 4 : Nat) : Int) = (cn : Int)
        · simp only [qe_1, qe_3, qe_4, qe_5, qe_7, qe_72, qe_10, qe_102, qe_13, qe_14, qe_15, qe_16, qe_17, qe_18, qe_20, qe_22, qe_23, qe_21, qe_24, qe_25, qe_26, qe_27, qe_28, qe_30, qe_31, qe_32, qc_20, qc_22, qc_23, qc_21, qc_24, qc_25, qc_26, qc_27, qc_1, qc_3, qc_4, qc_7, qc_13, qc_28, qc_32, qs_1, qs_2, qs_3, qs_4, qs_5, qs_6, qs_9, qs_10, qs_11, qs_14, qs_15, qs_16, qs_27, qs_17, qs_18, qs_19, qs_20, qs_22, qs_23, qs_28, qs_25, qs_26, qs_7, qs_8, kc_1, kn_1, kc_2, kn_2, kc_3, kn_3, kc_4, kn_4, kc_5, kn_5, kc_6, kn_6, kc_7, kn_7, kc_8, kn_8, kc_9, kn_9, kc_10, kn_10, kc_11, kn_11, kc_12, kn_12, kc_13, kn_13, kc_14, kn_14, kc_15, kn_15, kc_16, kc_17, kc_18, kc_19, kc_20, kc_21, kc_22, kc_23, kc_30, kc_32, kc_40, kc_43, kc_45, kc_48, kc_52, kc_56, kc_57, kc_59, kc_60, kc_61, kc_63, kc_64, kc_72, kc_78, kc_97, kc_99, kc_122, kc_126, kc_128, kc_192, kc_200, kc_255, kc_999, kc_1000, kc_9999, kn_9999, kc_10000, kc_12345, kc_65536, kc_252645135, kc_858993459, kc_1103515245, kc_1431655765, kc_2147483647, kc_0, kc_24, kc_28, kc_37, kc_41, kc_42, kc_73, kc_91, kc_95, kc_96, kc_98, kc_100, kc_112, kc_125, kc_150, kc_162, kc_163, kc_168, kc_186, kc_190, kc_250, kc_355, kc_356, kc_404, kc_405, kc_429, kc_573, kc_1002, kc_1100, kc_1891, kc_2200, kc_4719, kc_4869, kc_4881, kc_5148, kc_19741, kc_25433, kc_320403, kc_628412, kc_629093, kc_660401, kc_679843, kc_918640, kc_979410, kc_1178088, kc_6232410, kc_24644941, kc_36238189, kc_38270444, kc_392531318, kc_425693491, kc_1342154595, kc_2147483648, kc_42328242873, kc_891704255789, kc_1722105685577, kc_1858726030364, ct_0, ct_1, ct_2, ct_3, ct_4, ct_5, cf_0, cf_1, cf_2, cf_3, cf_4, cf_5, w_ty6, w_ty7, m_sv, m_z0, m_hd, m_g0, m_gs, m_s0, m_ss, m_ap, m_an, forall_const, true_and, and_true, ne_eq, not_true_eq_false, not_false_eq_true, false_implies, true_implies, implies_true, eq_self, reduceCtorEq, Nat.reduceDiv, Nat.reduceMod, Int.reduceToNat, or_true, true_or, or_false, false_or, or_self, m_it, m_if, m_c1, m_01, m_02, m_03, m_04, m_10, m_12, m_13, m_14, m_20, m_21, m_23, m_24, m_30, m_31, m_32, m_34, m_40, m_41, m_42, m_43, Int.reduceLE, Int.reduceLT, Int.reduceGE, Int.reduceGT, Int.reduceNeg, Int.reduceAdd, Int.reduceSub, Int.reduceMul, Int.reduceEq, Int.reduceNe, Nat.reduceAdd, jun2, ro_0_0, ro_0_1, ro_0_2, ro_0_3, ro_0_4, ro_0_5, ro_0_6, ro_0_7, ro_0_8, ro_0_9, ro_0_10, ro_0_11, ro_0_12, ro_1_0, ro_1_1, ro_2_0, ro_4_0, ro_6_0, ro_6_1, ro_6_2, ro_6_3, ro_6_4, ro_6_5, ro_6_6, ro_6_7, ro_6_8, ro_8_0, ro_10_0, ro_12_0, ro_14_0, ro_16_0, ro_18_0, ro_20_0, ro_22_0, ro_22_1, ro_22_2, ro_23_0, ro_25_0, ro_27_0, ro_29_0, ro_29_1, ro_29_2, ro_29_3, ro_29_4, ro_29_5, ro_29_6, ro_29_7, ro_29_8, ro_31_0, ro_33_0, ro_35_0, ro_37_0, ro_39_0, ro_41_0, ro_43_0, ro_45_0, ro_45_1, ro_45_2, ro_46_0, ro_48_0, ro_50_0, ro_52_0, ro_52_1, ro_52_2, ro_52_3, ro_53_0, ro_55_0, ro_57_0, ro_59_0, ro_61_0, ro_61_1, ro_61_2, ro_61_3, ro_62_0, ro_64_0, ro_66_0, ro_68_0, ro_70_0, ro_70_1, ro_70_2, ro_70_3, ro_70_4, ro_70_5, ro_70_6, ro_70_7, ro_70_8, ro_70_9, ro_71_0, ro_73_0, ro_75_0, ro_77_0, ro_79_0, ro_81_0, ro_83_0, ro_85_0, ro_87_0, ro_89_0, ro_91_0, ro_91_1, ro_91_2, ro_91_3, ro_91_4, ro_91_5, ro_91_6, ro_91_7, ro_91_8, ro_91_9, ro_92_0, ro_94_0, ro_96_0, ro_98_0, ro_100_0, ro_102_0, ro_104_0, ro_106_0, ro_108_0, ro_110_0, ro_112_0, ro_112_1, ro_112_2, ro_112_3, ro_112_4, ro_112_5, ro_112_6, ro_112_7, ro_112_8, ro_112_9, ro_113_0, ro_115_0, ro_117_0, ro_119_0, ro_121_0, ro_123_0, ro_125_0, ro_127_0, ro_129_0, ro_131_0, ro_133_0, ro_133_1, ro_133_2, ro_133_3, ro_133_4, ro_133_5, ro_133_6, ro_133_7, ro_133_8, ro_133_9, ro_134_0, ro_136_0, ro_138_0, ro_140_0, ro_142_0, ro_144_0, ro_146_0, ro_148_0, ro_150_0, ro_152_0, ro_154_0, ro_155_0, ro_157_0, ro_157_1, ro_157_2, ro_157_3, ro_157_4, ro_157_5, ro_157_6, ro_157_7, ro_157_8, ro_157_9, ro_158_0, ro_160_0, ro_162_0, ro_164_0, ro_166_0, ro_168_0, ro_170_0, ro_172_0, ro_174_0, ro_176_0, ro_178_0, ro_180_0, ro_182_1, ro_182_4, ro_182_5, ro_182_6, ro_182_9, ro_182_10, ro_182_11, ro_182_13, ro_182_14, ro_182_15, ro_182_16, ro_182_17, ro_182_20, ro_182_21, ro_182_22, ro_182_23, ro_182_24, ro_182_26, ro_182_27, ro_182_28, lo_3, lo_5, lo_7, lo_9, lo_11, lo_13, lo_15, lo_17, lo_19, lo_21, lo_24, lo_26, lo_28, lo_30, lo_32, lo_34, lo_36, lo_38, lo_40, lo_42, lo_44, lo_47, lo_49, lo_51, lo_54, lo_56, lo_58, lo_60, lo_63, lo_65, lo_67, lo_69, lo_72, lo_74, lo_76, lo_78, lo_80, lo_82, lo_84, lo_86, lo_88, lo_90, lo_93, lo_95, lo_97, lo_99, lo_101, lo_103, lo_105, lo_107, lo_109, lo_111, lo_114, lo_116, lo_118, lo_120, lo_122, lo_124, lo_126, lo_128, lo_130, lo_132, lo_135, lo_137, lo_139, lo_141, lo_143, lo_145, lo_147, lo_149, lo_151, lo_153, lo_156, lo_159, lo_161, lo_163, lo_165, lo_167, lo_169, lo_171, lo_173, lo_175, lo_177, lo_179, lo_181, lo_183, lo_184, lo_185, lo_186, lo_187, lo_188, lo_189, lo_190, lo_191, lo_192, lo_193, lo_194, lo_195, lo_196, lo_197, lo_198, lo_199, lo_200, lo_201, lo_202, lo_203, jp_nn, jp_eq, jp_e1, Classical.not_not, ji0, ji1, ji2, jl_0, jl_1, jl_2, jl_3, jl_4, jl_5, jl_6, jl_7, jl_8, jl_9, jl_10, jl_11, jl_12, jl_13, jl_14, jl_15, jl_16, jl_17, jl_18, jl_19, jl_20, jl_21, jl_22, jl_23, jl_24, jl_25, jl_26, jl_27, jl_28, jl_29, jl_30, jl_31, jl_32, jl_33, jl_34, jl_35, jl_36, jl_37, jl_38, jl_39, jl_40, jl_95, jl_96, jl_97, jl_98, jl_99, jl_100, jl_101, jl_102, jl_103, jl_104, jl_105, jl_106, jl_107, jl_108, jl_109, jl_110, jl_111, jl_112, jl_113, jl_114, jl_186, jl_1100, jr, ju, jpT, jpF, tnc, Nat.reduceEqDiff, reduceIte, and_false, false_and, not_true_eq_false, not_false_eq_true, or_false, gt_iff_lt, ge_iff_le, Int.lt_irrefl, Int.le_refl, j355, j356, y, y2, ek, ei, ei1, f2_w, f3_w, w1_w, w2_w]
          intros
          exact ⟨k + 1, k, _, rfl, by omega, Or.inr ⟨by omega, by omega⟩⟩
        · simp only [qe_1, qe_3, qe_4, qe_5, qe_7, qe_72, qe_10, qe_102, qe_13, qe_14, qe_15, qe_16, qe_17, qe_18, qe_20, qe_22, qe_23, qe_21, qe_24, qe_25, qe_26, qe_27, qe_28, qe_30, qe_31, qe_32, qc_20, qc_22, qc_23, qc_21, qc_24, qc_25, qc_26, qc_27, qc_1, qc_3, qc_4, qc_7, qc_13, qc_28, qc_32, qs_1, qs_2, qs_3, qs_4, qs_5, qs_6, qs_9, qs_10, qs_11, qs_14, qs_15, qs_16, qs_27, qs_17, qs_18, qs_19, qs_20, qs_22, qs_23, qs_28, qs_25, qs_26, qs_7, qs_8, kc_1, kn_1, kc_2, kn_2, kc_3, kn_3, kc_4, kn_4, kc_5, kn_5, kc_6, kn_6, kc_7, kn_7, kc_8, kn_8, kc_9, kn_9, kc_10, kn_10, kc_11, kn_11, kc_12, kn_12, kc_13, kn_13, kc_14, kn_14, kc_15, kn_15, kc_16, kc_17, kc_18, kc_19, kc_20, kc_21, kc_22, kc_23, kc_30, kc_32, kc_40, kc_43, kc_45, kc_48, kc_52, kc_56, kc_57, kc_59, kc_60, kc_61, kc_63, kc_64, kc_72, kc_78, kc_97, kc_99, kc_122, kc_126, kc_128, kc_192, kc_200, kc_255, kc_999, kc_1000, kc_9999, kn_9999, kc_10000, kc_12345, kc_65536, kc_252645135, kc_858993459, kc_1103515245, kc_1431655765, kc_2147483647, kc_0, kc_24, kc_28, kc_37, kc_41, kc_42, kc_73, kc_91, kc_95, kc_96, kc_98, kc_100, kc_112, kc_125, kc_150, kc_162, kc_163, kc_168, kc_186, kc_190, kc_250, kc_355, kc_356, kc_404, kc_405, kc_429, kc_573, kc_1002, kc_1100, kc_1891, kc_2200, kc_4719, kc_4869, kc_4881, kc_5148, kc_19741, kc_25433, kc_320403, kc_628412, kc_629093, kc_660401, kc_679843, kc_918640, kc_979410, kc_1178088, kc_6232410, kc_24644941, kc_36238189, kc_38270444, kc_392531318, kc_425693491, kc_1342154595, kc_2147483648, kc_42328242873, kc_891704255789, kc_1722105685577, kc_1858726030364, ct_0, ct_1, ct_2, ct_3, ct_4, ct_5, cf_0, cf_1, cf_2, cf_3, cf_4, cf_5, w_ty6, w_ty7, m_sv, m_z0, m_hd, m_g0, m_gs, m_s0, m_ss, m_ap, m_an, forall_const, true_and, and_true, ne_eq, not_true_eq_false, not_false_eq_true, false_implies, true_implies, implies_true, eq_self, reduceCtorEq, Nat.reduceDiv, Nat.reduceMod, Int.reduceToNat, or_true, true_or, or_false, false_or, or_self, m_it, m_if, m_c1, m_01, m_02, m_03, m_04, m_10, m_12, m_13, m_14, m_20, m_21, m_23, m_24, m_30, m_31, m_32, m_34, m_40, m_41, m_42, m_43, Int.reduceLE, Int.reduceLT, Int.reduceGE, Int.reduceGT, Int.reduceNeg, Int.reduceAdd, Int.reduceSub, Int.reduceMul, Int.reduceEq, Int.reduceNe, Nat.reduceAdd, jun2, ro_0_0, ro_0_1, ro_0_2, ro_0_3, ro_0_4, ro_0_5, ro_0_6, ro_0_7, ro_0_8, ro_0_9, ro_0_10, ro_0_11, ro_0_12, ro_1_0, ro_1_1, ro_2_0, ro_4_0, ro_6_0, ro_6_1, ro_6_2, ro_6_3, ro_6_4, ro_6_5, ro_6_6, ro_6_7, ro_6_8, ro_8_0, ro_10_0, ro_12_0, ro_14_0, ro_16_0, ro_18_0, ro_20_0, ro_22_0, ro_22_1, ro_22_2, ro_23_0, ro_25_0, ro_27_0, ro_29_0, ro_29_1, ro_29_2, ro_29_3, ro_29_4, ro_29_5, ro_29_6, ro_29_7, ro_29_8, ro_31_0, ro_33_0, ro_35_0, ro_37_0, ro_39_0, ro_41_0, ro_43_0, ro_45_0, ro_45_1, ro_45_2, ro_46_0, ro_48_0, ro_50_0, ro_52_0, ro_52_1, ro_52_2, ro_52_3, ro_53_0, ro_55_0, ro_57_0, ro_59_0, ro_61_0, ro_61_1, ro_61_2, ro_61_3, ro_62_0, ro_64_0, ro_66_0, ro_68_0, ro_70_0, ro_70_1, ro_70_2, ro_70_3, ro_70_4, ro_70_5, ro_70_6, ro_70_7, ro_70_8, ro_70_9, ro_71_0, ro_73_0, ro_75_0, ro_77_0, ro_79_0, ro_81_0, ro_83_0, ro_85_0, ro_87_0, ro_89_0, ro_91_0, ro_91_1, ro_91_2, ro_91_3, ro_91_4, ro_91_5, ro_91_6, ro_91_7, ro_91_8, ro_91_9, ro_92_0, ro_94_0, ro_96_0, ro_98_0, ro_100_0, ro_102_0, ro_104_0, ro_106_0, ro_108_0, ro_110_0, ro_112_0, ro_112_1, ro_112_2, ro_112_3, ro_112_4, ro_112_5, ro_112_6, ro_112_7, ro_112_8, ro_112_9, ro_113_0, ro_115_0, ro_117_0, ro_119_0, ro_121_0, ro_123_0, ro_125_0, ro_127_0, ro_129_0, ro_131_0, ro_133_0, ro_133_1, ro_133_2, ro_133_3, ro_133_4, ro_133_5, ro_133_6, ro_133_7, ro_133_8, ro_133_9, ro_134_0, ro_136_0, ro_138_0, ro_140_0, ro_142_0, ro_144_0, ro_146_0, ro_148_0, ro_150_0, ro_152_0, ro_154_0, ro_155_0, ro_157_0, ro_157_1, ro_157_2, ro_157_3, ro_157_4, ro_157_5, ro_157_6, ro_157_7, ro_157_8, ro_157_9, ro_158_0, ro_160_0, ro_162_0, ro_164_0, ro_166_0, ro_168_0, ro_170_0, ro_172_0, ro_174_0, ro_176_0, ro_178_0, ro_180_0, ro_182_1, ro_182_4, ro_182_5, ro_182_6, ro_182_9, ro_182_10, ro_182_11, ro_182_13, ro_182_14, ro_182_15, ro_182_16, ro_182_17, ro_182_20, ro_182_21, ro_182_22, ro_182_23, ro_182_24, ro_182_26, ro_182_27, ro_182_28, lo_3, lo_5, lo_7, lo_9, lo_11, lo_13, lo_15, lo_17, lo_19, lo_21, lo_24, lo_26, lo_28, lo_30, lo_32, lo_34, lo_36, lo_38, lo_40, lo_42, lo_44, lo_47, lo_49, lo_51, lo_54, lo_56, lo_58, lo_60, lo_63, lo_65, lo_67, lo_69, lo_72, lo_74, lo_76, lo_78, lo_80, lo_82, lo_84, lo_86, lo_88, lo_90, lo_93, lo_95, lo_97, lo_99, lo_101, lo_103, lo_105, lo_107, lo_109, lo_111, lo_114, lo_116, lo_118, lo_120, lo_122, lo_124, lo_126, lo_128, lo_130, lo_132, lo_135, lo_137, lo_139, lo_141, lo_143, lo_145, lo_147, lo_149, lo_151, lo_153, lo_156, lo_159, lo_161, lo_163, lo_165, lo_167, lo_169, lo_171, lo_173, lo_175, lo_177, lo_179, lo_181, lo_183, lo_184, lo_185, lo_186, lo_187, lo_188, lo_189, lo_190, lo_191, lo_192, lo_193, lo_194, lo_195, lo_196, lo_197, lo_198, lo_199, lo_200, lo_201, lo_202, lo_203, jp_nn, jp_eq, jp_e1, Classical.not_not, ji0, ji1, ji2, jl_0, jl_1, jl_2, jl_3, jl_4, jl_5, jl_6, jl_7, jl_8, jl_9, jl_10, jl_11, jl_12, jl_13, jl_14, jl_15, jl_16, jl_17, jl_18, jl_19, jl_20, jl_21, jl_22, jl_23, jl_24, jl_25, jl_26, jl_27, jl_28, jl_29, jl_30, jl_31, jl_32, jl_33, jl_34, jl_35, jl_36, jl_37, jl_38, jl_39, jl_40, jl_95, jl_96, jl_97, jl_98, jl_99, jl_100, jl_101, jl_102, jl_103, jl_104, jl_105, jl_106, jl_107, jl_108, jl_109, jl_110, jl_111, jl_112, jl_113, jl_114, jl_186, jl_1100, jr, ju, jpT, jpF, tnc, Nat.reduceEqDiff, reduceIte, and_false, false_and, not_true_eq_false, not_false_eq_true, or_false, gt_iff_lt, ge_iff_le, Int.lt_irrefl, Int.le_refl, j355, j356, y, y2, ek, ei, ei1, f2_w, f3_w, w1_w, w2_w]
          intros
          refine ⟨k + 1, a, _, rfl, by omega, ?_⟩
          rcases z3 with ⟨za, z4⟩ | z5
          · exact Or.inl ⟨za, fun j z => go_w j z (by omega) z4⟩
          · exact Or.inr z5
      · simp only [qe_1, qe_3, qe_4, qe_5, qe_7, qe_72, qe_10, qe_102, qe_13, qe_14, qe_15, qe_16, qe_17, qe_18, qe_20, qe_22, qe_23, qe_21, qe_24, qe_25, qe_26, qe_27, qe_28, qe_30, qe_31, qe_32, qc_20, qc_22, qc_23, qc_21, qc_24, qc_25, qc_26, qc_27, qc_1, qc_3, qc_4, qc_7, qc_13, qc_28, qc_32, qs_1, qs_2, qs_3, qs_4, qs_5, qs_6, qs_9, qs_10, qs_11, qs_14, qs_15, qs_16, qs_27, qs_17, qs_18, qs_19, qs_20, qs_22, qs_23, qs_28, qs_25, qs_26, qs_7, qs_8, kc_1, kn_1, kc_2, kn_2, kc_3, kn_3, kc_4, kn_4, kc_5, kn_5, kc_6, kn_6, kc_7, kn_7, kc_8, kn_8, kc_9, kn_9, kc_10, kn_10, kc_11, kn_11, kc_12, kn_12, kc_13, kn_13, kc_14, kn_14, kc_15, kn_15, kc_16, kc_17, kc_18, kc_19, kc_20, kc_21, kc_22, kc_23, kc_30, kc_32, kc_40, kc_43, kc_45, kc_48, kc_52, kc_56, kc_57, kc_59, kc_60, kc_61, kc_63, kc_64, kc_72, kc_78, kc_97, kc_99, kc_122, kc_126, kc_128, kc_192, kc_200, kc_255, kc_999, kc_1000, kc_9999, kn_9999, kc_10000, kc_12345, kc_65536, kc_252645135, kc_858993459, kc_1103515245, kc_1431655765, kc_2147483647, kc_0, kc_24, kc_28, kc_37, kc_41, kc_42, kc_73, kc_91, kc_95, kc_96, kc_98, kc_100, kc_112, kc_125, kc_150, kc_162, kc_163, kc_168, kc_186, kc_190, kc_250, kc_355, kc_356, kc_404, kc_405, kc_429, kc_573, kc_1002, kc_1100, kc_1891, kc_2200, kc_4719, kc_4869, kc_4881, kc_5148, kc_19741, kc_25433, kc_320403, kc_628412, kc_629093, kc_660401, kc_679843, kc_918640, kc_979410, kc_1178088, kc_6232410, kc_24644941, kc_36238189, kc_38270444, kc_392531318, kc_425693491, kc_1342154595, kc_2147483648, kc_42328242873, kc_891704255789, kc_1722105685577, kc_1858726030364, ct_0, ct_1, ct_2, ct_3, ct_4, ct_5, cf_0, cf_1, cf_2, cf_3, cf_4, cf_5, w_ty6, w_ty7, m_sv, m_z0, m_hd, m_g0, m_gs, m_s0, m_ss, m_ap, m_an, forall_const, true_and, and_true, ne_eq, not_true_eq_false, not_false_eq_true, false_implies, true_implies, implies_true, eq_self, reduceCtorEq, Nat.reduceDiv, Nat.reduceMod, Int.reduceToNat, or_true, true_or, or_false, false_or, or_self, m_it, m_if, m_c1, m_01, m_02, m_03, m_04, m_10, m_12, m_13, m_14, m_20, m_21, m_23, m_24, m_30, m_31, m_32, m_34, m_40, m_41, m_42, m_43, Int.reduceLE, Int.reduceLT, Int.reduceGE, Int.reduceGT, Int.reduceNeg, Int.reduceAdd, Int.reduceSub, Int.reduceMul, Int.reduceEq, Int.reduceNe, Nat.reduceAdd, jun2, ro_0_0, ro_0_1, ro_0_2, ro_0_3, ro_0_4, ro_0_5, ro_0_6, ro_0_7, ro_0_8, ro_0_9, ro_0_10, ro_0_11, ro_0_12, ro_1_0, ro_1_1, ro_2_0, ro_4_0, ro_6_0, ro_6_1, ro_6_2, ro_6_3, ro_6_4, ro_6_5, ro_6_6, ro_6_7, ro_6_8, ro_8_0, ro_10_0, ro_12_0, ro_14_0, ro_16_0, ro_18_0, ro_20_0, ro_22_0, ro_22_1, ro_22_2, ro_23_0, ro_25_0, ro_27_0, ro_29_0, ro_29_1, ro_29_2, ro_29_3, ro_29_4, ro_29_5, ro_29_6, ro_29_7, ro_29_8, ro_31_0, ro_33_0, ro_35_0, ro_37_0, ro_39_0, ro_41_0, ro_43_0, ro_45_0, ro_45_1, ro_45_2, ro_46_0, ro_48_0, ro_50_0, ro_52_0, ro_52_1, ro_52_2, ro_52_3, ro_53_0, ro_55_0, ro_57_0, ro_59_0, ro_61_0, ro_61_1, ro_61_2, ro_61_3, ro_62_0, ro_64_0, ro_66_0, ro_68_0, ro_70_0, ro_70_1, ro_70_2, ro_70_3, ro_70_4, ro_70_5, ro_70_6, ro_70_7, ro_70_8, ro_70_9, ro_71_0, ro_73_0, ro_75_0, ro_77_0, ro_79_0, ro_81_0, ro_83_0, ro_85_0, ro_87_0, ro_89_0, ro_91_0, ro_91_1, ro_91_2, ro_91_3, ro_91_4, ro_91_5, ro_91_6, ro_91_7, ro_91_8, ro_91_9, ro_92_0, ro_94_0, ro_96_0, ro_98_0, ro_100_0, ro_102_0, ro_104_0, ro_106_0, ro_108_0, ro_110_0, ro_112_0, ro_112_1, ro_112_2, ro_112_3, ro_112_4, ro_112_5, ro_112_6, ro_112_7, ro_112_8, ro_112_9, ro_113_0, ro_115_0, ro_117_0, ro_119_0, ro_121_0, ro_123_0, ro_125_0, ro_127_0, ro_129_0, ro_131_0, ro_133_0, ro_133_1, ro_133_2, ro_133_3, ro_133_4, ro_133_5, ro_133_6, ro_133_7, ro_133_8, ro_133_9, ro_134_0, ro_136_0, ro_138_0, ro_140_0, ro_142_0, ro_144_0, ro_146_0, ro_148_0, ro_150_0, ro_152_0, ro_154_0, ro_155_0, ro_157_0, ro_157_1, ro_157_2, ro_157_3, ro_157_4, ro_157_5, ro_157_6, ro_157_7, ro_157_8, ro_157_9, ro_158_0, ro_160_0, ro_162_0, ro_164_0, ro_166_0, ro_168_0, ro_170_0, ro_172_0, ro_174_0, ro_176_0, ro_178_0, ro_180_0, ro_182_1, ro_182_4, ro_182_5, ro_182_6, ro_182_9, ro_182_10, ro_182_11, ro_182_13, ro_182_14, ro_182_15, ro_182_16, ro_182_17, ro_182_20, ro_182_21, ro_182_22, ro_182_23, ro_182_24, ro_182_26, ro_182_27, ro_182_28, lo_3, lo_5, lo_7, lo_9, lo_11, lo_13, lo_15, lo_17, lo_19, lo_21, lo_24, lo_26, lo_28, lo_30, lo_32, lo_34, lo_36, lo_38, lo_40, lo_42, lo_44, lo_47, lo_49, lo_51, lo_54, lo_56, lo_58, lo_60, lo_63, lo_65, lo_67, lo_69, lo_72, lo_74, lo_76, lo_78, lo_80, lo_82, lo_84, lo_86, lo_88, lo_90, lo_93, lo_95, lo_97, lo_99, lo_101, lo_103, lo_105, lo_107, lo_109, lo_111, lo_114, lo_116, lo_118, lo_120, lo_122, lo_124, lo_126, lo_128, lo_130, lo_132, lo_135, lo_137, lo_139, lo_141, lo_143, lo_145, lo_147, lo_149, lo_151, lo_153, lo_156, lo_159, lo_161, lo_163, lo_165, lo_167, lo_169, lo_171, lo_173, lo_175, lo_177, lo_179, lo_181, lo_183, lo_184, lo_185, lo_186, lo_187, lo_188, lo_189, lo_190, lo_191, lo_192, lo_193, lo_194, lo_195, lo_196, lo_197, lo_198, lo_199, lo_200, lo_201, lo_202, lo_203, jp_nn, jp_eq, jp_e1, Classical.not_not, ji0, ji1, ji2, jl_0, jl_1, jl_2, jl_3, jl_4, jl_5, jl_6, jl_7, jl_8, jl_9, jl_10, jl_11, jl_12, jl_13, jl_14, jl_15, jl_16, jl_17, jl_18, jl_19, jl_20, jl_21, jl_22, jl_23, jl_24, jl_25, jl_26, jl_27, jl_28, jl_29, jl_30, jl_31, jl_32, jl_33, jl_34, jl_35, jl_36, jl_37, jl_38, jl_39, jl_40, jl_95, jl_96, jl_97, jl_98, jl_99, jl_100, jl_101, jl_102, jl_103, jl_104, jl_105, jl_106, jl_107, jl_108, jl_109, jl_110, jl_111, jl_112, jl_113, jl_114, jl_186, jl_1100, jr, ju, jpT, jpF, tnc, Nat.reduceEqDiff, reduceIte, and_false, false_and, not_true_eq_false, not_false_eq_true, or_false, gt_iff_lt, ge_iff_le, Int.lt_irrefl, Int.le_refl, j355, j356, y, y2, ek, ei, ei1, f2_w, f3_w, w1_w]
        intros
        refine ⟨k + 1, a, _, rfl, by omega, ?_⟩
        rcases z3 with ⟨za, z4⟩ | z5
        · exact Or.inl ⟨za, fun j z => go_w j z (by omega) z4⟩
        · exact Or.inr z5
    · have y2 : (n : Int) ≤ (k : Int) := by omega
      have ek : k = n := by omega
      subst ek
      have ei : j32 (356 + j32 (3 * (a : Int))) = ((356 + 3 * a : Nat) : Int) := by
        rw [jcn (x := 3 * (a : Int)) (n := 3 * a) (by omega) (by omega)]
        exact jcn (by omega) (by omega)
      have ei1 : j32 (((356 + 3 * a : Nat) : Int) + 1) = ((356 + 3 * a + 1 : Nat) : Int) := jcn (by omega) (by omega)
      have ei2 : j32 (((356 + 3 * a : Nat) : Int) + 2) = ((356 + 3 * a + 2 : Nat) : Int) := jcn (by omega) (by omega)
      have m1_w : ¬ 356 + 3 * a = 353 := by omega
      have m2_w : ¬ 356 + 3 * a = 354 := by omega
      have m3_w : ¬ 355 = 356 + 3 * a := by omega
      rcases z3 with ⟨za, z4⟩ | ⟨za, z5⟩
      · subst za
        have ek := jk1 (k := a) (by omega)
        simp only [qe_1, qe_3, qe_4, qe_5, qe_7, qe_72, qe_10, qe_102, qe_13, qe_14, qe_15, qe_16, qe_17, qe_18, qe_20, qe_22, qe_23, qe_21, qe_24, qe_25, qe_26, qe_27, qe_28, qe_30, qe_31, qe_32, qc_20, qc_22, qc_23, qc_21, qc_24, qc_25, qc_26, qc_27, qc_1, qc_3, qc_4, qc_7, qc_13, qc_28, qc_32, qs_1, qs_2, qs_3, qs_4, qs_5, qs_6, qs_9, qs_10, qs_11, qs_14, qs_15, qs_16, qs_27, qs_17, qs_18, qs_19, qs_20, qs_22, qs_23, qs_28, qs_25, qs_26, qs_7, qs_8, kc_1, kn_1, kc_2, kn_2, kc_3, kn_3, kc_4, kn_4, kc_5, kn_5, kc_6, kn_6, kc_7, kn_7, kc_8, kn_8, kc_9, kn_9, kc_10, kn_10, kc_11, kn_11, kc_12, kn_12, kc_13, kn_13, kc_14, kn_14, kc_15, kn_15, kc_16, kc_17, kc_18, kc_19, kc_20, kc_21, kc_22, kc_23, kc_30, kc_32, kc_40, kc_43, kc_45, kc_48, kc_52, kc_56, kc_57, kc_59, kc_60, kc_61, kc_63, kc_64, kc_72, kc_78, kc_97, kc_99, kc_122, kc_126, kc_128, kc_192, kc_200, kc_255, kc_999, kc_1000, kc_9999, kn_9999, kc_10000, kc_12345, kc_65536, kc_252645135, kc_858993459, kc_1103515245, kc_1431655765, kc_2147483647, kc_0, kc_24, kc_28, kc_37, kc_41, kc_42, kc_73, kc_91, kc_95, kc_96, kc_98, kc_100, kc_112, kc_125, kc_150, kc_162, kc_163, kc_168, kc_186, kc_190, kc_250, kc_355, kc_356, kc_404, kc_405, kc_429, kc_573, kc_1002, kc_1100, kc_1891, kc_2200, kc_4719, kc_4869, kc_4881, kc_5148, kc_19741, kc_25433, kc_320403, kc_628412, kc_629093, kc_660401, kc_679843, kc_918640, kc_979410, kc_1178088, kc_6232410, kc_24644941, kc_36238189, kc_38270444, kc_392531318, kc_425693491, kc_1342154595, kc_2147483648, kc_42328242873, kc_891704255789, kc_1722105685577, kc_1858726030364, ct_0, ct_1, ct_2, ct_3, ct_4, ct_5, cf_0, cf_1, cf_2, cf_3, cf_4, cf_5, w_ty6, w_ty7, m_sv, m_z0, m_hd, m_g0, m_gs, m_s0, m_ss, m_ap, m_an, forall_const, true_and, and_true, ne_eq, not_true_eq_false, not_false_eq_true, false_implies, true_implies, implies_true, eq_self, reduceCtorEq, Nat.reduceDiv, Nat.reduceMod, Int.reduceToNat, or_true, true_or, or_false, false_or, or_self, m_it, m_if, m_c1, m_01, m_02, m_03, m_04, m_10, m_12, m_13, m_14, m_20, m_21, m_23, m_24, m_30, m_31, m_32, m_34, m_40, m_41, m_42, m_43, Int.reduceLE, Int.reduceLT, Int.reduceGE, Int.reduceGT, Int.reduceNeg, Int.reduceAdd, Int.reduceSub, Int.reduceMul, Int.reduceEq, Int.reduceNe, Nat.reduceAdd, jun2, ro_0_0, ro_0_1, ro_0_2, ro_0_3, ro_0_4, ro_0_5, ro_0_6, ro_0_7, ro_0_8, ro_0_9, ro_0_10, ro_0_11, ro_0_12, ro_1_0, ro_1_1, ro_2_0, ro_4_0, ro_6_0, ro_6_1, ro_6_2, ro_6_3, ro_6_4, ro_6_5, ro_6_6, ro_6_7, ro_6_8, ro_8_0, ro_10_0, ro_12_0, ro_14_0, ro_16_0, ro_18_0, ro_20_0, ro_22_0, ro_22_1, ro_22_2, ro_23_0, ro_25_0, ro_27_0, ro_29_0, ro_29_1, ro_29_2, ro_29_3, ro_29_4, ro_29_5, ro_29_6, ro_29_7, ro_29_8, ro_31_0, ro_33_0, ro_35_0, ro_37_0, ro_39_0, ro_41_0, ro_43_0, ro_45_0, ro_45_1, ro_45_2, ro_46_0, ro_48_0, ro_50_0, ro_52_0, ro_52_1, ro_52_2, ro_52_3, ro_53_0, ro_55_0, ro_57_0, ro_59_0, ro_61_0, ro_61_1, ro_61_2, ro_61_3, ro_62_0, ro_64_0, ro_66_0, ro_68_0, ro_70_0, ro_70_1, ro_70_2, ro_70_3, ro_70_4, ro_70_5, ro_70_6, ro_70_7, ro_70_8, ro_70_9, ro_71_0, ro_73_0, ro_75_0, ro_77_0, ro_79_0, ro_81_0, ro_83_0, ro_85_0, ro_87_0, ro_89_0, ro_91_0, ro_91_1, ro_91_2, ro_91_3, ro_91_4, ro_91_5, ro_91_6, ro_91_7, ro_91_8, ro_91_9, ro_92_0, ro_94_0, ro_96_0, ro_98_0, ro_100_0, ro_102_0, ro_104_0, ro_106_0, ro_108_0, ro_110_0, ro_112_0, ro_112_1, ro_112_2, ro_112_3, ro_112_4, ro_112_5, ro_112_6, ro_112_7, ro_112_8, ro_112_9, ro_113_0, ro_115_0, ro_117_0, ro_119_0, ro_121_0, ro_123_0, ro_125_0, ro_127_0, ro_129_0, ro_131_0, ro_133_0, ro_133_1, ro_133_2, ro_133_3, ro_133_4, ro_133_5, ro_133_6, ro_133_7, ro_133_8, ro_133_9, ro_134_0, ro_136_0, ro_138_0, ro_140_0, ro_142_0, ro_144_0, ro_146_0, ro_148_0, ro_150_0, ro_152_0, ro_154_0, ro_155_0, ro_157_0, ro_157_1, ro_157_2, ro_157_3, ro_157_4, ro_157_5, ro_157_6, ro_157_7, ro_157_8, ro_157_9, ro_158_0, ro_160_0, ro_162_0, ro_164_0, ro_166_0, ro_168_0, ro_170_0, ro_172_0, ro_174_0, ro_176_0, ro_178_0, ro_180_0, ro_182_1, ro_182_4, ro_182_5, ro_182_6, ro_182_9, ro_182_10, ro_182_11, ro_182_13, ro_182_14, ro_182_15, ro_182_16, ro_182_17, ro_182_20, ro_182_21, ro_182_22, ro_182_23, ro_182_24, ro_182_26, ro_182_27, ro_182_28, lo_3, lo_5, lo_7, lo_9, lo_11, lo_13, lo_15, lo_17, lo_19, lo_21, lo_24, lo_26, lo_28, lo_30, lo_32, lo_34, lo_36, lo_38, lo_40, lo_42, lo_44, lo_47, lo_49, lo_51, lo_54, lo_56, lo_58, lo_60, lo_63, lo_65, lo_67, lo_69, lo_72, lo_74, lo_76, lo_78, lo_80, lo_82, lo_84, lo_86, lo_88, lo_90, lo_93, lo_95, lo_97, lo_99, lo_101, lo_103, lo_105, lo_107, lo_109, lo_111, lo_114, lo_116, lo_118, lo_120, lo_122, lo_124, lo_126, lo_128, lo_130, lo_132, lo_135, lo_137, lo_139, lo_141, lo_143, lo_145, lo_147, lo_149, lo_151, lo_153, lo_156, lo_159, lo_161, lo_163, lo_165, lo_167, lo_169, lo_171, lo_173, lo_175, lo_177, lo_179, lo_181, lo_183, lo_184, lo_185, lo_186, lo_187, lo_188, lo_189, lo_190, lo_191, lo_192, lo_193, lo_194, lo_195, lo_196, lo_197, lo_198, lo_199, lo_200, lo_201, lo_202, lo_203, jp_nn, jp_eq, jp_e1, Classical.not_not, ji0, ji1, ji2, jl_0, jl_1, jl_2, jl_3, jl_4, jl_5, jl_6, jl_7, jl_8, jl_9, jl_10, jl_11, jl_12, jl_13, jl_14, jl_15, jl_16, jl_17, jl_18, jl_19, jl_20, jl_21, jl_22, jl_23, jl_24, jl_25, jl_26, jl_27, jl_28, jl_29, jl_30, jl_31, jl_32, jl_33, jl_34, jl_35, jl_36, jl_37, jl_38, jl_39, jl_40, jl_95, jl_96, jl_97, jl_98, jl_99, jl_100, jl_101, jl_102, jl_103, jl_104, jl_105, jl_106, jl_107, jl_108, jl_109, jl_110, jl_111, jl_112, jl_113, jl_114, jl_186, jl_1100, jr, ju, jpT, jpF, tnc, Nat.reduceEqDiff, reduceIte, and_false, false_and, not_true_eq_false, not_false_eq_true, or_false, gt_iff_lt, ge_iff_le, Int.lt_irrefl, Int.le_refl, j355, j356, y, y2, ei, ei1, ei2, m1_w, m2_w, m3_w, hn, ek]
        intros
        have inj : ∀ i j : Nat, i < a + 1 → j < a + 1 → (if i = a then 4 * sn + cn else f i) = (if j = a then 4 * sn + cn else f j) → i = j := fun i j zi zj e => by
          by_cases yi : i = a
          · by_cases yj : j = a
            · omega
            · rw [if_pos yi, if_neg yj] at e
              exact absurd e.symm (z4 j (by omega))
          · by_cases yj : j = a
            · rw [if_neg yi, if_pos yj] at e
              exact absurd e (z4 i (by omega))
            · rw [if_neg yi, if_neg yj] at e
              exact hi_w i j (by omega) (by omega) e
        have n15 : a + 1 ≤ 16 := pig 16 (a + 1) (fun i => if i = a then 4 * sn + cn else f i) (fun i z => by
          show (if i = a then 4 * sn + cn else f i) < 16
          by_cases yi : i = a
          · rw [if_pos yi]
            omega
          · rw [if_neg yi]
            exact (hf i (by omega)).1) inj
        refine hQ _ (fun x q z => ?_) ⟨a + 1, fun i => if i = a then 4 * sn + cn else f i, up_eq, fun i z => ?_, inj⟩
        · rw [up_ne (by omega), up_ne (by omega), up_ne (by omega), up_ne (by omega)]
        · show (if i = a then 4 * sn + cn else f i) < 16 ∧ _ = (((if i = a then 4 * sn + cn else f i) / 4 : Nat) : Int) ∧ _ = (((if i = a then 4 * sn + cn else f i) % 4 : Nat) : Int)
          by_cases yi : i = a
          · subst yi
            rw [if_pos rfl, up_ne (by omega), up_ne (by omega), up_ne (by omega), up_eq, up_ne (by omega), up_ne (by omega), up_eq]
            refine ⟨by omega, ?_, ?_⟩ <;> omega
          · rw [if_neg yi, up_ne (by omega), up_ne (by omega), up_ne (by omega), up_ne (by omega), up_ne (by omega), up_ne (by omega), up_ne (by omega), up_ne (by omega)]
            exact hf i (by omega)
      · have ya : ¬ (a : Int) = (k : Int) := by omega
        have e0 : j32 ((k : Int) + 0) = (k : Int) := jcn (by omega) (by omega)
        simp only [qe_1, qe_3, qe_4, qe_5, qe_7, qe_72, qe_10, qe_102, qe_13, qe_14, qe_15, qe_16, qe_17, qe_18, qe_20, qe_22, qe_23, qe_21, qe_24, qe_25, qe_26, qe_27, qe_28, qe_30, qe_31, qe_32, qc_20, qc_22, qc_23, qc_21, qc_24, qc_25, qc_26, qc_27, qc_1, qc_3, qc_4, qc_7, qc_13, qc_28, qc_32, qs_1, qs_2, qs_3, qs_4, qs_5, qs_6, qs_9, qs_10, qs_11, qs_14, qs_15, qs_16, qs_27, qs_17, qs_18, qs_19, qs_20, qs_22, qs_23, qs_28, qs_25, qs_26, qs_7, qs_8, kc_1, kn_1, kc_2, kn_2, kc_3, kn_3, kc_4, kn_4, kc_5, kn_5, kc_6, kn_6, kc_7, kn_7, kc_8, kn_8, kc_9, kn_9, kc_10, kn_10, kc_11, kn_11, kc_12, kn_12, kc_13, kn_13, kc_14, kn_14, kc_15, kn_15, kc_16, kc_17, kc_18, kc_19, kc_20, kc_21, kc_22, kc_23, kc_30, kc_32, kc_40, kc_43, kc_45, kc_48, kc_52, kc_56, kc_57, kc_59, kc_60, kc_61, kc_63, kc_64, kc_72, kc_78, kc_97, kc_99, kc_122, kc_126, kc_128, kc_192, kc_200, kc_255, kc_999, kc_1000, kc_9999, kn_9999, kc_10000, kc_12345, kc_65536, kc_252645135, kc_858993459, kc_1103515245, kc_1431655765, kc_2147483647, kc_0, kc_24, kc_28, kc_37, kc_41, kc_42, kc_73, kc_91, kc_95, kc_96, kc_98, kc_100, kc_112, kc_125, kc_150, kc_162, kc_163, kc_168, kc_186, kc_190, kc_250, kc_355, kc_356, kc_404, kc_405, kc_429, kc_573, kc_1002, kc_1100, kc_1891, kc_2200, kc_4719, kc_4869, kc_4881, kc_5148, kc_19741, kc_25433, kc_320403, kc_628412, kc_629093, kc_660401, kc_679843, kc_918640, kc_979410, kc_1178088, kc_6232410, kc_24644941, kc_36238189, kc_38270444, kc_392531318, kc_425693491, kc_1342154595, kc_2147483648, kc_42328242873, kc_891704255789, kc_1722105685577, kc_1858726030364, ct_0, ct_1, ct_2, ct_3, ct_4, ct_5, cf_0, cf_1, cf_2, cf_3, cf_4, cf_5, w_ty6, w_ty7, m_sv, m_z0, m_hd, m_g0, m_gs, m_s0, m_ss, m_ap, m_an, forall_const, true_and, and_true, ne_eq, not_true_eq_false, not_false_eq_true, false_implies, true_implies, implies_true, eq_self, reduceCtorEq, Nat.reduceDiv, Nat.reduceMod, Int.reduceToNat, or_true, true_or, or_false, false_or, or_self, m_it, m_if, m_c1, m_01, m_02, m_03, m_04, m_10, m_12, m_13, m_14, m_20, m_21, m_23, m_24, m_30, m_31, m_32, m_34, m_40, m_41, m_42, m_43, Int.reduceLE, Int.reduceLT, Int.reduceGE, Int.reduceGT, Int.reduceNeg, Int.reduceAdd, Int.reduceSub, Int.reduceMul, Int.reduceEq, Int.reduceNe, Nat.reduceAdd, jun2, ro_0_0, ro_0_1, ro_0_2, ro_0_3, ro_0_4, ro_0_5, ro_0_6, ro_0_7, ro_0_8, ro_0_9, ro_0_10, ro_0_11, ro_0_12, ro_1_0, ro_1_1, ro_2_0, ro_4_0, ro_6_0, ro_6_1, ro_6_2, ro_6_3, ro_6_4, ro_6_5, ro_6_6, ro_6_7, ro_6_8, ro_8_0, ro_10_0, ro_12_0, ro_14_0, ro_16_0, ro_18_0, ro_20_0, ro_22_0, ro_22_1, ro_22_2, ro_23_0, ro_25_0, ro_27_0, ro_29_0, ro_29_1, ro_29_2, ro_29_3, ro_29_4, ro_29_5, ro_29_6, ro_29_7, ro_29_8, ro_31_0, ro_33_0, ro_35_0, ro_37_0, ro_39_0, ro_41_0, ro_43_0, ro_45_0, ro_45_1, ro_45_2, ro_46_0, ro_48_0, ro_50_0, ro_52_0, ro_52_1, ro_52_2, ro_52_3, ro_53_0, ro_55_0, ro_57_0, ro_59_0, ro_61_0, ro_61_1, ro_61_2, ro_61_3, ro_62_0, ro_64_0, ro_66_0, ro_68_0, ro_70_0, ro_70_1, ro_70_2, ro_70_3, ro_70_4, ro_70_5, ro_70_6, ro_70_7, ro_70_8, ro_70_9, ro_71_0, ro_73_0, ro_75_0, ro_77_0, ro_79_0, ro_81_0, ro_83_0, ro_85_0, ro_87_0, ro_89_0, ro_91_0, ro_91_1, ro_91_2, ro_91_3, ro_91_4, ro_91_5, ro_91_6, ro_91_7, ro_91_8, ro_91_9, ro_92_0, ro_94_0, ro_96_0, ro_98_0, ro_100_0, ro_102_0, ro_104_0, ro_106_0, ro_108_0, ro_110_0, ro_112_0, ro_112_1, ro_112_2, ro_112_3, ro_112_4, ro_112_5, ro_112_6, ro_112_7, ro_112_8, ro_112_9, ro_113_0, ro_115_0, ro_117_0, ro_119_0, ro_121_0, ro_123_0, ro_125_0, ro_127_0, ro_129_0, ro_131_0, ro_133_0, ro_133_1, ro_133_2, ro_133_3, ro_133_4, ro_133_5, ro_133_6, ro_133_7, ro_133_8, ro_133_9, ro_134_0, ro_136_0, ro_138_0, ro_140_0, ro_142_0, ro_144_0, ro_146_0, ro_148_0, ro_150_0, ro_152_0, ro_154_0, ro_155_0, ro_157_0, ro_157_1, ro_157_2, ro_157_3, ro_157_4, ro_157_5, ro_157_6, ro_157_7, ro_157_8, ro_157_9, ro_158_0, ro_160_0, ro_162_0, ro_164_0, ro_166_0, ro_168_0, ro_170_0, ro_172_0, ro_174_0, ro_176_0, ro_178_0, ro_180_0, ro_182_1, ro_182_4, ro_182_5, ro_182_6, ro_182_9, ro_182_10, ro_182_11, ro_182_13, ro_182_14, ro_182_15, ro_182_16, ro_182_17, ro_182_20, ro_182_21, ro_182_22, ro_182_23, ro_182_24, ro_182_26, ro_182_27, ro_182_28, lo_3, lo_5, lo_7, lo_9, lo_11, lo_13, lo_15, lo_17, lo_19, lo_21, lo_24, lo_26, lo_28, lo_30, lo_32, lo_34, lo_36, lo_38, lo_40, lo_42, lo_44, lo_47, lo_49, lo_51, lo_54, lo_56, lo_58, lo_60, lo_63, lo_65, lo_67, lo_69, lo_72, lo_74, lo_76, lo_78, lo_80, lo_82, lo_84, lo_86, lo_88, lo_90, lo_93, lo_95, lo_97, lo_99, lo_101, lo_103, lo_105, lo_107, lo_109, lo_111, lo_114, lo_116, lo_118, lo_120, lo_122, lo_124, lo_126, lo_128, lo_130, lo_132, lo_135, lo_137, lo_139, lo_141, lo_143, lo_145, lo_147, lo_149, lo_151, lo_153, lo_156, lo_159, lo_161, lo_163, lo_165, lo_167, lo_169, lo_171, lo_173, lo_175, lo_177, lo_179, lo_181, lo_183, lo_184, lo_185, lo_186, lo_187, lo_188, lo_189, lo_190, lo_191, lo_192, lo_193, lo_194, lo_195, lo_196, lo_197, lo_198, lo_199, lo_200, lo_201, lo_202, lo_203, jp_nn, jp_eq, jp_e1, Classical.not_not, ji0, ji1, ji2, jl_0, jl_1, jl_2, jl_3, jl_4, jl_5, jl_6, jl_7, jl_8, jl_9, jl_10, jl_11, jl_12, jl_13, jl_14, jl_15, jl_16, jl_17, jl_18, jl_19, jl_20, jl_21, jl_22, jl_23, jl_24, jl_25, jl_26, jl_27, jl_28, jl_29, jl_30, jl_31, jl_32, jl_33, jl_34, jl_35, jl_36, jl_37, jl_38, jl_39, jl_40, jl_95, jl_96, jl_97, jl_98, jl_99, jl_100, jl_101, jl_102, jl_103, jl_104, jl_105, jl_106, jl_107, jl_108, jl_109, jl_110, jl_111, jl_112, jl_113, jl_114, jl_186, jl_1100, jr, ju, jpT, jpF, tnc, Nat.reduceEqDiff, reduceIte, and_false, false_and, not_true_eq_false, not_false_eq_true, or_false, gt_iff_lt, ge_iff_le, Int.lt_irrefl, Int.le_refl, j355, j356, y, y2, ei, ei1, ei2, m1_w, m2_w, m3_w, ya, hn, e0]
        intros
        refine hQ _ (fun x q z => ?_) ⟨k, f, up_eq, fun i z => ?_, hi_w⟩
        · rw [up_ne (by omega), up_ne (by omega), up_ne (by omega), up_ne (by omega)]
        · have t := hf i z
          refine ⟨t.1, ?_, ?_⟩
          · by_cases yi : i = a
            · subst yi
              rw [up_ne (by omega), up_ne (by omega), up_ne (by omega), up_eq]
              omega
            · rw [up_ne (by omega), up_ne (by omega), up_ne (by omega), up_ne (by omega)]
              exact t.2.1
          · by_cases yi : i = a
            · subst yi
              rw [up_ne (by omega), up_ne (by omega), up_eq]
              omega
            · rw [up_ne (by omega), up_ne (by omega), up_ne (by omega), up_ne (by omega)]
              exact t.2.2
  · exact hQ.elim
theorem snd_39 {xs : Nat → Int} {L K : Nat} : ∀ n, SndC CS39 (evF xs L g_ck K g_cW g_M n) := snd_all snd_38 (fun f av h Q hQ => by
  unfold CS39 at hQ
  split at hQ
  · exact Or.inr m_269
  · exact Or.inl hQ)
end
section
/-! ===== contracts: the reference's run, whole_w ===== -/
def RUH (S U M r : Nat) (h : XH) : Prop := h 188 0 = (S : Int) ∧ S ≤ 12 ∧ h 188 2 = (U : Int) ∧ U ≤ 4 ∧ h 188 3 = (M : Int) ∧ M ≤ 6 ∧ (∀ m : Nat, m < M → ∃ c : Nat, c < 4 ∧ h 188 (74 + 3 * m) = (c : Int)) ∧ (∀ q : Nat, 78 ≤ q → q < 150 → ∃ s : Nat, s < 4 ∧ h 194 q = (s : Int)) ∧ h 194 162 = (r : Int) ∧ r ≤ 4
def k270 : KT := fun av h Q => match av with
  | [t, b] => t = 182 ∧ b = 0 ∧ ∃ S U M r : Nat, RUH S U M r h ∧ r < 4 ∧ ∀ h', Fr (m_W 270) h h' → (∀ q : Nat, q < 162 ∨ 404 ≤ q → h' 194 q = h 194 q) → h' 194 162 = ((r + 1 : Nat) : Int) → Q 1 [] h'
  | _ => False
def k271 : KT := fun av h Q => match av with
  | [t] => t = 182 ∧ ∃ S U M r n : Nat, RUH S U M r h ∧ h 182 18 = (n : Int) ∧ n ≤ 8 ∧ (r = 4 → Q 1 [-1] (thz h)) ∧ (r < 4 → ∀ h1 h', RKP n (thz h) h1 → Fr (m_W 270) h1 h' → (∀ q : Nat, q < 162 ∨ 404 ≤ q → h' 194 q = h1 194 q) → h' 194 162 = ((r + 1 : Nat) : Int) → Q 1 [(r : Int)] h')
  | _ => False
section KKFM
variable {h h1 h2 h' : XH} {Q : Nat → List Int → XH → Prop}
theorem kk_270 : k270 [182, 0] h Q = ∃ S U M r : Nat, RUH S U M r h ∧ r < 4 ∧ ∀ h', Fr (m_W 270) h h' → (∀ q : Nat, q < 162 ∨ 404 ≤ q → h' 194 q = h 194 q) → h' 194 162 = ((r + 1 : Nat) : Int) → Q 1 [] h' := propext ⟨fun a => a.2.2, fun a => ⟨rfl, rfl, a⟩⟩
theorem kk_271 : k271 [182] h Q = ∃ S U M r n : Nat, RUH S U M r h ∧ h 182 18 = (n : Int) ∧ n ≤ 8 ∧ (r = 4 → Q 1 [-1] (thz h)) ∧ (r < 4 → ∀ h1 h', RKP n (thz h) h1 → Fr (m_W 270) h1 h' → (∀ q : Nat, q < 162 ∨ 404 ≤ q → h' 194 q = h1 194 q) → h' 194 162 = ((r + 1 : Nat) : Int) → Q 1 [(r : Int)] h') := propext ⟨fun a => a.2, fun a => ⟨rfl, a⟩⟩
end KKFM
def CS42 : CSt := fun f => match f with
  | 270 => k270
  | _ => CS39 f
theorem cs42_54 {av : List Int} {h : XH} {Q : Nat → List Int → XH → Prop} : CS42 54 av h Q = k54 av h Q := id rfl
theorem cs42_55 {av : List Int} {h : XH} {Q : Nat → List Int → XH → Prop} : CS42 55 av h Q = k55 av h Q := id rfl
theorem cs42_68 {av : List Int} {h : XH} {Q : Nat → List Int → XH → Prop} : CS42 68 av h Q = k68 av h Q := id rfl
theorem cs42_69 {av : List Int} {h : XH} {Q : Nat → List Int → XH → Prop} : CS42 69 av h Q = k69 av h Q := id rfl
theorem cs42_70 {av : List Int} {h : XH} {Q : Nat → List Int → XH → Prop} : CS42 70 av h Q = k70 av h Q := id rfl
theorem cs42_71 {av : List Int} {h : XH} {Q : Nat → List Int → XH → Prop} : CS42 71 av h Q = k71 av h Q := id rfl
theorem cs42_72 {av : List Int} {h : XH} {Q : Nat → List Int → XH → Prop} : CS42 72 av h Q = k72 av h Q := id rfl
theorem cs42_73 {av : List Int} {h : XH} {Q : Nat → List Int → XH → Prop} : CS42 73 av h Q = k73 av h Q := id rfl
theorem cs42_74 {av : List Int} {h : XH} {Q : Nat → List Int → XH → Prop} : CS42 74 av h Q = k74 av h Q := id rfl
theorem cs42_75 {av : List Int} {h : XH} {Q : Nat → List Int → XH → Prop} : CS42 75 av h Q = k75 av h Q := id rfl
theorem cs42_186 {av : List Int} {h : XH} {Q : Nat → List Int → XH → Prop} : CS42 186 av h Q = k186 av h Q := id rfl
theorem cs42_187 {av : List Int} {h : XH} {Q : Nat → List Int → XH → Prop} : CS42 187 av h Q = k187 av h Q := id rfl
theorem cs42_188 {av : List Int} {h : XH} {Q : Nat → List Int → XH → Prop} : CS42 188 av h Q = k188 av h Q := id rfl
theorem cs42_189 {av : List Int} {h : XH} {Q : Nat → List Int → XH → Prop} : CS42 189 av h Q = k189 av h Q := id rfl
theorem cs42_191 {av : List Int} {h : XH} {Q : Nat → List Int → XH → Prop} : CS42 191 av h Q = k191 av h Q := id rfl
theorem cs42_192 {av : List Int} {h : XH} {Q : Nat → List Int → XH → Prop} : CS42 192 av h Q = k192 av h Q := id rfl
theorem cs42_193 {av : List Int} {h : XH} {Q : Nat → List Int → XH → Prop} : CS42 193 av h Q = k193 av h Q := id rfl
theorem cs42_198 {av : List Int} {h : XH} {Q : Nat → List Int → XH → Prop} : CS42 198 av h Q = k198 av h Q := id rfl
theorem cs42_207 {av : List Int} {h : XH} {Q : Nat → List Int → XH → Prop} : CS42 207 av h Q = k207 av h Q := id rfl
theorem cs42_195 {av : List Int} {h : XH} {Q : Nat → List Int → XH → Prop} : CS42 195 av h Q = k195 av h Q := id rfl
theorem cs42_196 {av : List Int} {h : XH} {Q : Nat → List Int → XH → Prop} : CS42 196 av h Q = k196 av h Q := id rfl
theorem cs42_201 {av : List Int} {h : XH} {Q : Nat → List Int → XH → Prop} : CS42 201 av h Q = k201 av h Q := id rfl
theorem cs42_203 {av : List Int} {h : XH} {Q : Nat → List Int → XH → Prop} : CS42 203 av h Q = k203 av h Q := id rfl
theorem cs42_204 {av : List Int} {h : XH} {Q : Nat → List Int → XH → Prop} : CS42 204 av h Q = k204 av h Q := id rfl
theorem cs42_194 {av : List Int} {h : XH} {Q : Nat → List Int → XH → Prop} : CS42 194 av h Q = k194 av h Q := id rfl
theorem cs42_197 {av : List Int} {h : XH} {Q : Nat → List Int → XH → Prop} : CS42 197 av h Q = k197 av h Q := id rfl
theorem cs42_200 {av : List Int} {h : XH} {Q : Nat → List Int → XH → Prop} : CS42 200 av h Q = k200 av h Q := id rfl
theorem cs42_202 {av : List Int} {h : XH} {Q : Nat → List Int → XH → Prop} : CS42 202 av h Q = k202 av h Q := id rfl
theorem cs42_205 {av : List Int} {h : XH} {Q : Nat → List Int → XH → Prop} : CS42 205 av h Q = k205 av h Q := id rfl
theorem cs42_208 {av : List Int} {h : XH} {Q : Nat → List Int → XH → Prop} : CS42 208 av h Q = k208 av h Q := id rfl
theorem cs42_209 {av : List Int} {h : XH} {Q : Nat → List Int → XH → Prop} : CS42 209 av h Q = k209 av h Q := id rfl
theorem cs42_211 {av : List Int} {h : XH} {Q : Nat → List Int → XH → Prop} : CS42 211 av h Q = k211 av h Q := id rfl
theorem cs42_216 {av : List Int} {h : XH} {Q : Nat → List Int → XH → Prop} : CS42 216 av h Q = k216 av h Q := id rfl
theorem cs42_217 {av : List Int} {h : XH} {Q : Nat → List Int → XH → Prop} : CS42 217 av h Q = k217 av h Q := id rfl
theorem cs42_218 {av : List Int} {h : XH} {Q : Nat → List Int → XH → Prop} : CS42 218 av h Q = k218 av h Q := id rfl
theorem cs42_219 {av : List Int} {h : XH} {Q : Nat → List Int → XH → Prop} : CS42 219 av h Q = k219 av h Q := id rfl
theorem cs42_220 {av : List Int} {h : XH} {Q : Nat → List Int → XH → Prop} : CS42 220 av h Q = k220 av h Q := id rfl
theorem cs42_221 {av : List Int} {h : XH} {Q : Nat → List Int → XH → Prop} : CS42 221 av h Q = k221 av h Q := id rfl
theorem cs42_210 {av : List Int} {h : XH} {Q : Nat → List Int → XH → Prop} : CS42 210 av h Q = k210 av h Q := id rfl
theorem cs42_212 {av : List Int} {h : XH} {Q : Nat → List Int → XH → Prop} : CS42 212 av h Q = k212 av h Q := id rfl
theorem cs42_213 {av : List Int} {h : XH} {Q : Nat → List Int → XH → Prop} : CS42 213 av h Q = k213 av h Q := id rfl
theorem cs42_190 {av : List Int} {h : XH} {Q : Nat → List Int → XH → Prop} : CS42 190 av h Q = k190 av h Q := id rfl
theorem cs42_199 {av : List Int} {h : XH} {Q : Nat → List Int → XH → Prop} : CS42 199 av h Q = k199 av h Q := id rfl
theorem cs42_225 {av : List Int} {h : XH} {Q : Nat → List Int → XH → Prop} : CS42 225 av h Q = k225 av h Q := id rfl
theorem cs42_226 {av : List Int} {h : XH} {Q : Nat → List Int → XH → Prop} : CS42 226 av h Q = k226 av h Q := id rfl
theorem cs42_227 {av : List Int} {h : XH} {Q : Nat → List Int → XH → Prop} : CS42 227 av h Q = k227 av h Q := id rfl
theorem cs42_228 {av : List Int} {h : XH} {Q : Nat → List Int → XH → Prop} : CS42 228 av h Q = k228 av h Q := id rfl
theorem cs42_333 {av : List Int} {h : XH} {Q : Nat → List Int → XH → Prop} : CS42 333 av h Q = k333 av h Q := id rfl
theorem cs42_67 {av : List Int} {h : XH} {Q : Nat → List Int → XH → Prop} : CS42 67 av h Q = k67 av h Q := id rfl
theorem cs42_65 {av : List Int} {h : XH} {Q : Nat → List Int → XH → Prop} : CS42 65 av h Q = k65 av h Q := id rfl
theorem cs42_66 {av : List Int} {h : XH} {Q : Nat → List Int → XH → Prop} : CS42 66 av h Q = k66 av h Q := id rfl
theorem cs42_64 {av : List Int} {h : XH} {Q : Nat → List Int → XH → Prop} : CS42 64 av h Q = k64 av h Q := id rfl
theorem cs42_63 {av : List Int} {h : XH} {Q : Nat → List Int → XH → Prop} : CS42 63 av h Q = k63 av h Q := id rfl
theorem cs42_77 {av : List Int} {h : XH} {Q : Nat → List Int → XH → Prop} : CS42 77 av h Q = k77 av h Q := id rfl
theorem cs42_76 {av : List Int} {h : XH} {Q : Nat → List Int → XH → Prop} : CS42 76 av h Q = k76 av h Q := id rfl
theorem cs42_133 {av : List Int} {h : XH} {Q : Nat → List Int → XH → Prop} : CS42 133 av h Q = k133 av h Q := id rfl
theorem cs42_134 {av : List Int} {h : XH} {Q : Nat → List Int → XH → Prop} : CS42 134 av h Q = k134 av h Q := id rfl
theorem cs42_135 {av : List Int} {h : XH} {Q : Nat → List Int → XH → Prop} : CS42 135 av h Q = k135 av h Q := id rfl
theorem cs42_136 {av : List Int} {h : XH} {Q : Nat → List Int → XH → Prop} : CS42 136 av h Q = k136 av h Q := id rfl
theorem cs42_138 {av : List Int} {h : XH} {Q : Nat → List Int → XH → Prop} : CS42 138 av h Q = k138 av h Q := id rfl
theorem cs42_139 {av : List Int} {h : XH} {Q : Nat → List Int → XH → Prop} : CS42 139 av h Q = k139 av h Q := id rfl
theorem cs42_105 {av : List Int} {h : XH} {Q : Nat → List Int → XH → Prop} : CS42 105 av h Q = k105 av h Q := id rfl
theorem cs42_102 {av : List Int} {h : XH} {Q : Nat → List Int → XH → Prop} : CS42 102 av h Q = k102 av h Q := id rfl
theorem cs42_103 {av : List Int} {h : XH} {Q : Nat → List Int → XH → Prop} : CS42 103 av h Q = k103 av h Q := id rfl
theorem cs42_104 {av : List Int} {h : XH} {Q : Nat → List Int → XH → Prop} : CS42 104 av h Q = k104 av h Q := id rfl
theorem cs42_106 {av : List Int} {h : XH} {Q : Nat → List Int → XH → Prop} : CS42 106 av h Q = k106 av h Q := id rfl
theorem cs42_140 {av : List Int} {h : XH} {Q : Nat → List Int → XH → Prop} : CS42 140 av h Q = k140 av h Q := id rfl
theorem cs42_137 {av : List Int} {h : XH} {Q : Nat → List Int → XH → Prop} : CS42 137 av h Q = k137 av h Q := id rfl
theorem cs42_127 {av : List Int} {h : XH} {Q : Nat → List Int → XH → Prop} : CS42 127 av h Q = k127 av h Q := id rfl
theorem cs42_56 {av : List Int} {h : XH} {Q : Nat → List Int → XH → Prop} : CS42 56 av h Q = k56 av h Q := id rfl
theorem cs42_57 {av : List Int} {h : XH} {Q : Nat → List Int → XH → Prop} : CS42 57 av h Q = k57 av h Q := id rfl
theorem cs42_79 {av : List Int} {h : XH} {Q : Nat → List Int → XH → Prop} : CS42 79 av h Q = k79 av h Q := id rfl
theorem cs42_101 {av : List Int} {h : XH} {Q : Nat → List Int → XH → Prop} : CS42 101 av h Q = k101 av h Q := id rfl
theorem cs42_96 {av : List Int} {h : XH} {Q : Nat → List Int → XH → Prop} : CS42 96 av h Q = k96 av h Q := id rfl
theorem cs42_99 {av : List Int} {h : XH} {Q : Nat → List Int → XH → Prop} : CS42 99 av h Q = k99c av h Q := id rfl
theorem cs42_100 {av : List Int} {h : XH} {Q : Nat → List Int → XH → Prop} : CS42 100 av h Q = k100 av h Q := id rfl
theorem cs42_98 {av : List Int} {h : XH} {Q : Nat → List Int → XH → Prop} : CS42 98 av h Q = k98 av h Q := id rfl
theorem cs42_122 {av : List Int} {h : XH} {Q : Nat → List Int → XH → Prop} : CS42 122 av h Q = k122 av h Q := id rfl
theorem cs42_123 {av : List Int} {h : XH} {Q : Nat → List Int → XH → Prop} : CS42 123 av h Q = k123 av h Q := id rfl
theorem cs42_124 {av : List Int} {h : XH} {Q : Nat → List Int → XH → Prop} : CS42 124 av h Q = k124 av h Q := id rfl
theorem cs42_125 {av : List Int} {h : XH} {Q : Nat → List Int → XH → Prop} : CS42 125 av h Q = k125 av h Q := id rfl
theorem cs42_126 {av : List Int} {h : XH} {Q : Nat → List Int → XH → Prop} : CS42 126 av h Q = k126 av h Q := id rfl
theorem cs42_84 {av : List Int} {h : XH} {Q : Nat → List Int → XH → Prop} : CS42 84 av h Q = k84 av h Q := id rfl
theorem cs42_82 {av : List Int} {h : XH} {Q : Nat → List Int → XH → Prop} : CS42 82 av h Q = k82 av h Q := id rfl
theorem cs42_83 {av : List Int} {h : XH} {Q : Nat → List Int → XH → Prop} : CS42 83 av h Q = k83 av h Q := id rfl
theorem cs42_85 {av : List Int} {h : XH} {Q : Nat → List Int → XH → Prop} : CS42 85 av h Q = k85 av h Q := id rfl
theorem cs42_89 {av : List Int} {h : XH} {Q : Nat → List Int → XH → Prop} : CS42 89 av h Q = k89 av h Q := id rfl
theorem cs42_90 {av : List Int} {h : XH} {Q : Nat → List Int → XH → Prop} : CS42 90 av h Q = k90 av h Q := id rfl
theorem cs42_91 {av : List Int} {h : XH} {Q : Nat → List Int → XH → Prop} : CS42 91 av h Q = k91 av h Q := id rfl
theorem cs42_88 {av : List Int} {h : XH} {Q : Nat → List Int → XH → Prop} : CS42 88 av h Q = k88 av h Q := id rfl
theorem cs42_86 {av : List Int} {h : XH} {Q : Nat → List Int → XH → Prop} : CS42 86 av h Q = k86 av h Q := id rfl
theorem cs42_87 {av : List Int} {h : XH} {Q : Nat → List Int → XH → Prop} : CS42 87 av h Q = k87 av h Q := id rfl
theorem cs42_81 {av : List Int} {h : XH} {Q : Nat → List Int → XH → Prop} : CS42 81 av h Q = k81 av h Q := id rfl
theorem cs42_128 {av : List Int} {h : XH} {Q : Nat → List Int → XH → Prop} : CS42 128 av h Q = k128 av h Q := id rfl
theorem cs42_119 {av : List Int} {h : XH} {Q : Nat → List Int → XH → Prop} : CS42 119 av h Q = k119 av h Q := id rfl
theorem cs42_58 {av : List Int} {h : XH} {Q : Nat → List Int → XH → Prop} : CS42 58 av h Q = k58 av h Q := id rfl
theorem cs42_80 {av : List Int} {h : XH} {Q : Nat → List Int → XH → Prop} : CS42 80 av h Q = k80 av h Q := id rfl
theorem cs42_97 {av : List Int} {h : XH} {Q : Nat → List Int → XH → Prop} : CS42 97 av h Q = k97s av h Q := id rfl
theorem cs42_156 {av : List Int} {h : XH} {Q : Nat → List Int → XH → Prop} : CS42 156 av h Q = k156 av h Q := id rfl
theorem cs42_142 {av : List Int} {h : XH} {Q : Nat → List Int → XH → Prop} : CS42 142 av h Q = k142 av h Q := id rfl
theorem cs42_3 {av : List Int} {h : XH} {Q : Nat → List Int → XH → Prop} : CS42 3 av h Q = k3s av h Q := id rfl
theorem cs42_61 {av : List Int} {h : XH} {Q : Nat → List Int → XH → Prop} : CS42 61 av h Q = k61z av h Q := id rfl
theorem cs42_2 {av : List Int} {h : XH} {Q : Nat → List Int → XH → Prop} : CS42 2 av h Q = k2s av h Q := id rfl
theorem cs42_240 {av : List Int} {h : XH} {Q : Nat → List Int → XH → Prop} : CS42 240 av h Q = k240s av h Q := id rfl
theorem cs42_241 {av : List Int} {h : XH} {Q : Nat → List Int → XH → Prop} : CS42 241 av h Q = k241s av h Q := id rfl
theorem cs42_206 {av : List Int} {h : XH} {Q : Nat → List Int → XH → Prop} : CS42 206 av h Q = k206s av h Q := id rfl
theorem cs42_113 {av : List Int} {h : XH} {Q : Nat → List Int → XH → Prop} : CS42 113 av h Q = k113 av h Q := id rfl
theorem cs42_114 {av : List Int} {h : XH} {Q : Nat → List Int → XH → Prop} : CS42 114 av h Q = k114 av h Q := id rfl
theorem cs42_116 {av : List Int} {h : XH} {Q : Nat → List Int → XH → Prop} : CS42 116 av h Q = k116 av h Q := id rfl
theorem cs42_117 {av : List Int} {h : XH} {Q : Nat → List Int → XH → Prop} : CS42 117 av h Q = k117 av h Q := id rfl
theorem cs42_121 {av : List Int} {h : XH} {Q : Nat → List Int → XH → Prop} : CS42 121 av h Q = k121 av h Q := id rfl
theorem cs42_129 {av : List Int} {h : XH} {Q : Nat → List Int → XH → Prop} : CS42 129 av h Q = k129 av h Q := id rfl
theorem cs42_130 {av : List Int} {h : XH} {Q : Nat → List Int → XH → Prop} : CS42 130 av h Q = k130 av h Q := id rfl
theorem cs42_131 {av : List Int} {h : XH} {Q : Nat → List Int → XH → Prop} : CS42 131 av h Q = k131 av h Q := id rfl
theorem cs42_132 {av : List Int} {h : XH} {Q : Nat → List Int → XH → Prop} : CS42 132 av h Q = k132 av h Q := id rfl
theorem cs42_120 {av : List Int} {h : XH} {Q : Nat → List Int → XH → Prop} : CS42 120 av h Q = k120 av h Q := id rfl
theorem cs42_4 {av : List Int} {h : XH} {Q : Nat → List Int → XH → Prop} : CS42 4 av h Q = k4 av h Q := id rfl
theorem cs42_229 {av : List Int} {h : XH} {Q : Nat → List Int → XH → Prop} : CS42 229 av h Q = k229 av h Q := id rfl
theorem cs42_233 {av : List Int} {h : XH} {Q : Nat → List Int → XH → Prop} : CS42 233 av h Q = k233 av h Q := id rfl
theorem cs42_234 {av : List Int} {h : XH} {Q : Nat → List Int → XH → Prop} : CS42 234 av h Q = k234 av h Q := id rfl
theorem cs42_215 {av : List Int} {h : XH} {Q : Nat → List Int → XH → Prop} : CS42 215 av h Q = k215 av h Q := id rfl
theorem cs42_214 {av : List Int} {h : XH} {Q : Nat → List Int → XH → Prop} : CS42 214 av h Q = k214 av h Q := id rfl
theorem cs42_146 {av : List Int} {h : XH} {Q : Nat → List Int → XH → Prop} : CS42 146 av h Q = k146 av h Q := id rfl
theorem cs42_147 {av : List Int} {h : XH} {Q : Nat → List Int → XH → Prop} : CS42 147 av h Q = k147 av h Q := id rfl
theorem cs42_149 {av : List Int} {h : XH} {Q : Nat → List Int → XH → Prop} : CS42 149 av h Q = k149 av h Q := id rfl
theorem cs42_155 {av : List Int} {h : XH} {Q : Nat → List Int → XH → Prop} : CS42 155 av h Q = k155 av h Q := id rfl
theorem cs42_157 {av : List Int} {h : XH} {Q : Nat → List Int → XH → Prop} : CS42 157 av h Q = k157 av h Q := id rfl
theorem cs42_165 {av : List Int} {h : XH} {Q : Nat → List Int → XH → Prop} : CS42 165 av h Q = k165 av h Q := id rfl
theorem cs42_59 {av : List Int} {h : XH} {Q : Nat → List Int → XH → Prop} : CS42 59 av h Q = k59 av h Q := id rfl
theorem cs42_107 {av : List Int} {h : XH} {Q : Nat → List Int → XH → Prop} : CS42 107 av h Q = k107 av h Q := id rfl
theorem cs42_108 {av : List Int} {h : XH} {Q : Nat → List Int → XH → Prop} : CS42 108 av h Q = k108 av h Q := id rfl
theorem cs42_109 {av : List Int} {h : XH} {Q : Nat → List Int → XH → Prop} : CS42 109 av h Q = k109 av h Q := id rfl
theorem cs42_110 {av : List Int} {h : XH} {Q : Nat → List Int → XH → Prop} : CS42 110 av h Q = k110 av h Q := id rfl
theorem cs42_111 {av : List Int} {h : XH} {Q : Nat → List Int → XH → Prop} : CS42 111 av h Q = k111 av h Q := id rfl
theorem cs42_112 {av : List Int} {h : XH} {Q : Nat → List Int → XH → Prop} : CS42 112 av h Q = k112 av h Q := id rfl
theorem cs42_143 {av : List Int} {h : XH} {Q : Nat → List Int → XH → Prop} : CS42 143 av h Q = k143 av h Q := id rfl
theorem cs42_170 {av : List Int} {h : XH} {Q : Nat → List Int → XH → Prop} : CS42 170 av h Q = k170 av h Q := id rfl
theorem cs42_168 {av : List Int} {h : XH} {Q : Nat → List Int → XH → Prop} : CS42 168 av h Q = k168 av h Q := id rfl
theorem cs42_169 {av : List Int} {h : XH} {Q : Nat → List Int → XH → Prop} : CS42 169 av h Q = k169 av h Q := id rfl
theorem cs42_181 {av : List Int} {h : XH} {Q : Nat → List Int → XH → Prop} : CS42 181 av h Q = k181 av h Q := id rfl
theorem cs42_5 {av : List Int} {h : XH} {Q : Nat → List Int → XH → Prop} : CS42 5 av h Q = k5 av h Q := id rfl
theorem cs42_6 {av : List Int} {h : XH} {Q : Nat → List Int → XH → Prop} : CS42 6 av h Q = k6 av h Q := id rfl
theorem cs42_7 {av : List Int} {h : XH} {Q : Nat → List Int → XH → Prop} : CS42 7 av h Q = k7 av h Q := id rfl
theorem cs42_8 {av : List Int} {h : XH} {Q : Nat → List Int → XH → Prop} : CS42 8 av h Q = k8 av h Q := id rfl
theorem cs42_9 {av : List Int} {h : XH} {Q : Nat → List Int → XH → Prop} : CS42 9 av h Q = k9 av h Q := id rfl
theorem cs42_10 {av : List Int} {h : XH} {Q : Nat → List Int → XH → Prop} : CS42 10 av h Q = k10s av h Q := id rfl
theorem cs42_11 {av : List Int} {h : XH} {Q : Nat → List Int → XH → Prop} : CS42 11 av h Q = k11 av h Q := id rfl
theorem cs42_12 {av : List Int} {h : XH} {Q : Nat → List Int → XH → Prop} : CS42 12 av h Q = k12s av h Q := id rfl
theorem cs42_40 {av : List Int} {h : XH} {Q : Nat → List Int → XH → Prop} : CS42 40 av h Q = k40s av h Q := id rfl
theorem cs42_49 {av : List Int} {h : XH} {Q : Nat → List Int → XH → Prop} : CS42 49 av h Q = k49 av h Q := id rfl
theorem cs42_50 {av : List Int} {h : XH} {Q : Nat → List Int → XH → Prop} : CS42 50 av h Q = k50 av h Q := id rfl
theorem cs42_48 {av : List Int} {h : XH} {Q : Nat → List Int → XH → Prop} : CS42 48 av h Q = k48 av h Q := id rfl
theorem cs42_224 {av : List Int} {h : XH} {Q : Nat → List Int → XH → Prop} : CS42 224 av h Q = k224s av h Q := id rfl
theorem cs42_230 {av : List Int} {h : XH} {Q : Nat → List Int → XH → Prop} : CS42 230 av h Q = k230 av h Q := id rfl
theorem cs42_235 {av : List Int} {h : XH} {Q : Nat → List Int → XH → Prop} : CS42 235 av h Q = k235 av h Q := id rfl
theorem cs42_236 {av : List Int} {h : XH} {Q : Nat → List Int → XH → Prop} : CS42 236 av h Q = k236 av h Q := id rfl
theorem cs42_237 {av : List Int} {h : XH} {Q : Nat → List Int → XH → Prop} : CS42 237 av h Q = k237 av h Q := id rfl
theorem cs42_238 {av : List Int} {h : XH} {Q : Nat → List Int → XH → Prop} : CS42 238 av h Q = k238 av h Q := id rfl
theorem cs42_243 {av : List Int} {h : XH} {Q : Nat → List Int → XH → Prop} : CS42 243 av h Q = k243 av h Q := id rfl
theorem cs42_256 {av : List Int} {h : XH} {Q : Nat → List Int → XH → Prop} : CS42 256 av h Q = k256 av h Q := id rfl
theorem cs42_264 {av : List Int} {h : XH} {Q : Nat → List Int → XH → Prop} : CS42 264 av h Q = k264 av h Q := id rfl
theorem cs42_266 {av : List Int} {h : XH} {Q : Nat → List Int → XH → Prop} : CS42 266 av h Q = k266 av h Q := id rfl
theorem cs42_239 {av : List Int} {h : XH} {Q : Nat → List Int → XH → Prop} : CS42 239 av h Q = k239 av h Q := id rfl
theorem cs42_242 {av : List Int} {h : XH} {Q : Nat → List Int → XH → Prop} : CS42 242 av h Q = k242s av h Q := id rfl
theorem cs42_260 {av : List Int} {h : XH} {Q : Nat → List Int → XH → Prop} : CS42 260 av h Q = k260 av h Q := id rfl
theorem cs42_261 {av : List Int} {h : XH} {Q : Nat → List Int → XH → Prop} : CS42 261 av h Q = k261 av h Q := id rfl
theorem cs42_262 {av : List Int} {h : XH} {Q : Nat → List Int → XH → Prop} : CS42 262 av h Q = k262 av h Q := id rfl
theorem cs42_263 {av : List Int} {h : XH} {Q : Nat → List Int → XH → Prop} : CS42 263 av h Q = k263 av h Q := id rfl
theorem cs42_265 {av : List Int} {h : XH} {Q : Nat → List Int → XH → Prop} : CS42 265 av h Q = k265 av h Q := id rfl
theorem cs42_267 {av : List Int} {h : XH} {Q : Nat → List Int → XH → Prop} : CS42 267 av h Q = k267 av h Q := id rfl
theorem cs42_268 {av : List Int} {h : XH} {Q : Nat → List Int → XH → Prop} : CS42 268 av h Q = k268 av h Q := id rfl
theorem cs42_272 {av : List Int} {h : XH} {Q : Nat → List Int → XH → Prop} : CS42 272 av h Q = k272 av h Q := id rfl
theorem cs42_304 {av : List Int} {h : XH} {Q : Nat → List Int → XH → Prop} : CS42 304 av h Q = k304 av h Q := id rfl
theorem cs42_311 {av : List Int} {h : XH} {Q : Nat → List Int → XH → Prop} : CS42 311 av h Q = k311 av h Q := id rfl
theorem cs42_254 {av : List Int} {h : XH} {Q : Nat → List Int → XH → Prop} : CS42 254 av h Q = k254f av h Q := id rfl
theorem cs42_257 {av : List Int} {h : XH} {Q : Nat → List Int → XH → Prop} : CS42 257 av h Q = k257f av h Q := id rfl
theorem cs42_269 {av : List Int} {h : XH} {Q : Nat → List Int → XH → Prop} : CS42 269 av h Q = k269 av h Q := id rfl
theorem cs42_270 {av : List Int} {h : XH} {Q : Nat → List Int → XH → Prop} : CS42 270 av h Q = k270 av h Q := id rfl
theorem m_270 : BodyOK CS42 CS42 270 := fun av h Q hQ => by
  rw [cs42_270] at hQ
  unfold k270 at hQ
  split at hQ
  · rename_i t b
    obtain ⟨rfl, rfl, S, U, M, r, ⟨eS, hS_w, eU, hU, eM_w, hM_w, hC, hW, er, -⟩, r4, hQ⟩ := hQ
    show pS CS42 bb_270 [182, 0, 0, 0, 0] h _
    unfold bb_270
    have j162 : j32 162 = 162 := rfl
    have j163 : j32 163 = 163 := rfl
    have j355 : j32 355 = 355 := rfl
    have sb_w : ∀ {h1 h2 : XH}, Fr (m_W 254) h1 h2 → Fr (m_W 270) h1 h2 := fun f => Fr.sub (by decide) f
    have sc_w : ∀ {h1 h2 : XH}, Fr (m_W 257) h1 h2 → ∀ o k : Nat, h2 o k = h1 o k := fun f o k => f o k (fun _ => rfl) rfl
    have s8 : ∀ {h1 h2 : XH}, Fr (m_W 270) h1 h2 → h2 188 = h1 188 := fun f => f.row rfl (by decide)
    have s4_w : ∀ {h1 h2 : XH}, Fr (m_W 254) h1 h2 → h2 194 = h1 194 := fun f => f.row rfl (by decide)
    simp only [qe_1, qe_3, qe_4, qe_5, qe_7, qe_72, qe_10, qe_102, qe_13, qe_14, qe_15, qe_16, qe_17, qe_18, qe_20, qe_22, qe_23, qe_21, qe_24, qe_25, qe_26, qe_27, qe_28, qe_30, qe_31, qe_32, qc_20, qc_22, qc_23, qc_21, qc_24, qc_25, qc_26, qc_27, qc_1, qc_3, qc_4, qc_7, qc_13, qc_28, qc_32, qs_1, qs_2, qs_3, qs_4, qs_5, qs_6, qs_9, qs_10, qs_11, qs_14, qs_15, qs_16, qs_27, qs_17, qs_18, qs_19, qs_20, qs_22, qs_23, qs_28, qs_25, qs_26, qs_7, qs_8, kc_1, kn_1, kc_2, kn_2, kc_3, kn_3, kc_4, kn_4, kc_5, kn_5, kc_6, kn_6, kc_7, kn_7, kc_8, kn_8, kc_9, kn_9, kc_10, kn_10, kc_11, kn_11, kc_12, kn_12, kc_13, kn_13, kc_14, kn_14, kc_15, kn_15, kc_16, kc_17, kc_18, kc_19, kc_20, kc_21, kc_22, kc_23, kc_30, kc_32, kc_40, kc_43, kc_45, kc_48, kc_52, kc_56, kc_57, kc_59, kc_60, kc_61, kc_63, kc_64, kc_72, kc_78, kc_97, kc_99, kc_122, kc_126, kc_128, kc_192, kc_200, kc_255, kc_999, kc_1000, kc_9999, kn_9999, kc_10000, kc_12345, kc_65536, kc_252645135, kc_858993459, kc_1103515245, kc_1431655765, kc_2147483647, kc_0, kc_24, kc_28, kc_37, kc_41, kc_42, kc_73, kc_91, kc_95, kc_96, kc_98, kc_100, kc_112, kc_125, kc_150, kc_162, kc_163, kc_168, kc_186, kc_190, kc_250, kc_355, kc_356, kc_404, kc_405, kc_429, kc_573, kc_1002, kc_1100, kc_1891, kc_2200, kc_4719, kc_4869, kc_4881, kc_5148, kc_19741, kc_25433, kc_320403, kc_628412, kc_629093, kc_660401, kc_679843, kc_918640, kc_979410, kc_1178088, kc_6232410, kc_24644941, kc_36238189, kc_38270444, kc_392531318, kc_425693491, kc_1342154595, kc_2147483648, kc_42328242873, kc_891704255789, kc_1722105685577, kc_1858726030364, ct_0, ct_1, ct_2, ct_3, ct_4, ct_5, cf_0, cf_1, cf_2, cf_3, cf_4, cf_5, w_ty6, w_ty7, m_sv, m_z0, m_hd, m_g0, m_gs, m_s0, m_ss, m_ap, m_an, forall_const, true_and, and_true, ne_eq, not_true_eq_false, not_false_eq_true, false_implies, true_implies, implies_true, eq_self, reduceCtorEq, Nat.reduceDiv, Nat.reduceMod, Int.reduceToNat, or_true, true_or, or_false, false_or, or_self, m_it, m_if, m_c1, m_01, m_02, m_03, m_04, m_10, m_12, m_13, m_14, m_20, m_21, m_23, m_24, m_30, m_31, m_32, m_34, m_40, m_41, m_42, m_43, Int.reduceLE, Int.reduceLT, Int.reduceGE, Int.reduceGT, Int.reduceNeg, Int.reduceAdd, Int.reduceSub, Int.reduceMul, Int.reduceEq, Int.reduceNe, Nat.reduceAdd, jun2, ro_0_0, ro_0_1, ro_0_2, ro_0_3, ro_0_4, ro_0_5, ro_0_6, ro_0_7, ro_0_8, ro_0_9, ro_0_10, ro_0_11, ro_0_12, ro_1_0, ro_1_1, ro_2_0, ro_4_0, ro_6_0, ro_6_1, ro_6_2, ro_6_3, ro_6_4, ro_6_5, ro_6_6, ro_6_7, ro_6_8, ro_8_0, ro_10_0, ro_12_0, ro_14_0, ro_16_0, ro_18_0, ro_20_0, ro_22_0, ro_22_1, ro_22_2, ro_23_0, ro_25_0, ro_27_0, ro_29_0, ro_29_1, ro_29_2, ro_29_3, ro_29_4, ro_29_5, ro_29_6, ro_29_7, ro_29_8, ro_31_0, ro_33_0, ro_35_0, ro_37_0, ro_39_0, ro_41_0, ro_43_0, ro_45_0, ro_45_1, ro_45_2, ro_46_0, ro_48_0, ro_50_0, ro_52_0, ro_52_1, ro_52_2, ro_52_3, ro_53_0, ro_55_0, ro_57_0, ro_59_0, ro_61_0, ro_61_1, ro_61_2, ro_61_3, ro_62_0, ro_64_0, ro_66_0, ro_68_0, ro_70_0, ro_70_1, ro_70_2, ro_70_3, ro_70_4, ro_70_5, ro_70_6, ro_70_7, ro_70_8, ro_70_9, ro_71_0, ro_73_0, ro_75_0, ro_77_0, ro_79_0, ro_81_0, ro_83_0, ro_85_0, ro_87_0, ro_89_0, ro_91_0, ro_91_1, ro_91_2, ro_91_3, ro_91_4, ro_91_5, ro_91_6, ro_91_7, ro_91_8, ro_91_9, ro_92_0, ro_94_0, ro_96_0, ro_98_0, ro_100_0, ro_102_0, ro_104_0, ro_106_0, ro_108_0, ro_110_0, ro_112_0, ro_112_1, ro_112_2, ro_112_3, ro_112_4, ro_112_5, ro_112_6, ro_112_7, ro_112_8, ro_112_9, ro_113_0, ro_115_0, ro_117_0, ro_119_0, ro_121_0, ro_123_0, ro_125_0, ro_127_0, ro_129_0, ro_131_0, ro_133_0, ro_133_1, ro_133_2, ro_133_3, ro_133_4, ro_133_5, ro_133_6, ro_133_7, ro_133_8, ro_133_9, ro_134_0, ro_136_0, ro_138_0, ro_140_0, ro_142_0, ro_144_0, ro_146_0, ro_148_0, ro_150_0, ro_152_0, ro_154_0, ro_155_0, ro_157_0, ro_157_1, ro_157_2, ro_157_3, ro_157_4, ro_157_5, ro_157_6, ro_157_7, ro_157_8, ro_157_9, ro_158_0, ro_160_0, ro_162_0, ro_164_0, ro_166_0, ro_168_0, ro_170_0, ro_172_0, ro_174_0, ro_176_0, ro_178_0, ro_180_0, ro_182_1, ro_182_4, ro_182_5, ro_182_6, ro_182_9, ro_182_10, ro_182_11, ro_182_13, ro_182_14, ro_182_15, ro_182_16, ro_182_17, ro_182_20, ro_182_21, ro_182_22, ro_182_23, ro_182_24, ro_182_26, ro_182_27, ro_182_28, lo_3, lo_5, lo_7, lo_9, lo_11, lo_13, lo_15, lo_17, lo_19, lo_21, lo_24, lo_26, lo_28, lo_30, lo_32, lo_34, lo_36, lo_38, lo_40, lo_42, lo_44, lo_47, lo_49, lo_51, lo_54, lo_56, lo_58, lo_60, lo_63, lo_65, lo_67, lo_69, lo_72, lo_74, lo_76, lo_78, lo_80, lo_82, lo_84, lo_86, lo_88, lo_90, lo_93, lo_95, lo_97, lo_99, lo_101, lo_103, lo_105, lo_107, lo_109, lo_111, lo_114, lo_116, lo_118, lo_120, lo_122, lo_124, lo_126, lo_128, lo_130, lo_132, lo_135, lo_137, lo_139, lo_141, lo_143, lo_145, lo_147, lo_149, lo_151, lo_153, lo_156, lo_159, lo_161, lo_163, lo_165, lo_167, lo_169, lo_171, lo_173, lo_175, lo_177, lo_179, lo_181, lo_183, lo_184, lo_185, lo_186, lo_187, lo_188, lo_189, lo_190, lo_191, lo_192, lo_193, lo_194, lo_195, lo_196, lo_197, lo_198, lo_199, lo_200, lo_201, lo_202, lo_203, jp_nn, jp_eq, jp_e1, Classical.not_not, ji0, ji1, ji2, cs42_225, kk_225, cs42_227, kk_227, cs42_228, kk_228, cs42_230, kk_230, cs42_256, kk_256, cs42_254, kk_254f, cs42_257, kk_257f, cs42_269, kk_269, jl_0, jl_1, jl_2, jl_3, jl_4, jl_5, jl_6, jl_7, jl_8, jl_9, jl_10, jl_11, jl_12, jl_13, jl_14, jl_15, jl_16, jl_17, jl_18, jl_19, jl_20, jl_21, jl_22, jl_23, jl_24, jl_25, jl_26, jl_27, jl_28, jl_29, jl_30, jl_31, jl_32, jl_33, jl_34, jl_35, jl_36, jl_37, jl_38, jl_39, jl_40, jl_95, jl_96, jl_97, jl_98, jl_99, jl_100, jl_101, jl_102, jl_103, jl_104, jl_105, jl_106, jl_107, jl_108, jl_109, jl_110, jl_111, jl_112, jl_113, jl_114, jl_186, jl_1100, jr, ju, jpT, jpF, tnc, Nat.reduceEqDiff, reduceIte, and_false, false_and, not_true_eq_false, not_false_eq_true, or_false, gt_iff_lt, ge_iff_le, Int.lt_irrefl, Int.le_refl, j162, er]
    intros
    refine qp_lp (fun en h' => ∃ (s : Nat) (w : Int), en = [182, 0, (r : Int), (s : Int), w] ∧ s ≤ S ∧ Fr (m_W 270) h h' ∧ ∀ q : Nat, q ≤ 162 ∨ 355 ≤ q → h' 194 q = h 194 q) ⟨0, 0, rfl, Nat.zero_le _, Fr.rf, fun _ _ => rfl⟩ ?_
    intro en h1 ⟨s, w, e1_w, z1, z2, z3⟩
    subst e1_w
    have eS1 : h1 188 0 = (S : Int) := by rw [s8 z2]; exact eS
    by_cases y : (s : Int) < (S : Int)
    · have y2 : ¬ (S : Int) ≤ (s : Int) := by omega
      simp only [qe_1, qe_3, qe_4, qe_5, qe_7, qe_72, qe_10, qe_102, qe_13, qe_14, qe_15, qe_16, qe_17, qe_18, qe_20, qe_22, qe_23, qe_21, qe_24, qe_25, qe_26, qe_27, qe_28, qe_30, qe_31, qe_32, qc_20, qc_22, qc_23, qc_21, qc_24, qc_25, qc_26, qc_27, qc_1, qc_3, qc_4, qc_7, qc_13, qc_28, qc_32, qs_1, qs_2, qs_3, qs_4, qs_5, qs_6, qs_9, qs_10, qs_11, qs_14, qs_15, qs_16, qs_27, qs_17, qs_18, qs_19, qs_20, qs_22, qs_23, qs_28, qs_25, qs_26, qs_7, qs_8, kc_1, kn_1, kc_2, kn_2, kc_3, kn_3, kc_4, kn_4, kc_5, kn_5, kc_6, kn_6, kc_7, kn_7, kc_8, kn_8, kc_9, kn_9, kc_10, kn_10, kc_11, kn_11, kc_12, kn_12, kc_13, kn_13, kc_14, kn_14, kc_15, kn_15, kc_16, kc_17, kc_18, kc_19, kc_20, kc_21, kc_22, kc_23, kc_30, kc_32, kc_40, kc_43, kc_45, kc_48, kc_52, kc_56, kc_57, kc_59, kc_60, kc_61, kc_63, kc_64, kc_72, kc_78, kc_97, kc_99, kc_122, kc_126, kc_128, kc_192, kc_200, kc_255, kc_999, kc_1000, kc_9999, kn_9999, kc_10000, kc_12345, kc_65536, kc_252645135, kc_858993459, kc_1103515245, kc_1431655765, kc_2147483647, kc_0, kc_24, kc_28, kc_37, kc_41, kc_42, kc_73, kc_91, kc_95, kc_96, kc_98, kc_100, kc_112, kc_125, kc_150, kc_162, kc_163, kc_168, kc_186, kc_190, kc_250, kc_355, kc_356, kc_404, kc_405, kc_429, kc_573, kc_1002, kc_1100, kc_1891, kc_2200, kc_4719, kc_4869, kc_4881, kc_5148, kc_19741, kc_25433, kc_320403, kc_628412, kc_629093, kc_660401, kc_679843, kc_918640, kc_979410, kc_1178088, kc_6232410, kc_24644941, kc_36238189, kc_38270444, kc_392531318, kc_425693491, kc_1342154595, kc_2147483648, kc_42328242873, kc_891704255789, kc_1722105685577, kc_1858726030364, ct_0, ct_1, ct_2, ct_3, ct_4, ct_5, cf_0, cf_1, cf_2, cf_3, cf_4, cf_5, w_ty6, w_ty7, m_sv, m_z0, m_hd, m_g0, m_gs, m_s0, m_ss, m_ap, m_an, forall_const, true_and, and_true, ne_eq, not_true_eq_false, not_false_eq_true, false_implies, true_implies, implies_true, eq_self, reduceCtorEq, Nat.reduceDiv, Nat.reduceMod, Int.reduceToNat, or_true, true_or, or_false, false_or, or_self, m_it, m_if, m_c1, m_01, m_02, m_03, m_04, m_10, m_12, m_13, m_14, m_20, m_21, m_23, m_24, m_30, m_31, m_32, m_34, m_40, m_41, m_42, m_43, Int.reduceLE, Int.reduceLT, Int.reduceGE, Int.reduceGT, Int.reduceNeg, Int.reduceAdd, Int.reduceSub, Int.reduceMul, Int.reduceEq, Int.reduceNe, Nat.reduceAdd, jun2, ro_0_0, ro_0_1, ro_0_2, ro_0_3, ro_0_4, ro_0_5, ro_0_6, ro_0_7, ro_0_8, ro_0_9, ro_0_10, ro_0_11, ro_0_12, ro_1_0, ro_1_1, ro_2_0, ro_4_0, ro_6_0, ro_6_1, ro_6_2, ro_6_3, ro_6_4, ro_6_5, ro_6_6, ro_6_7, ro_6_8, ro_8_0, ro_10_0, ro_12_0, ro_14_0, ro_16_0, ro_18_0, ro_20_0, ro_22_0, ro_22_1, ro_22_2, ro_23_0, ro_25_0, ro_27_0, ro_29_0, ro_29_1, ro_29_2, ro_29_3, ro_29_4, ro_29_5, ro_29_6, ro_29_7, ro_29_8, ro_31_0, ro_33_0, ro_35_0, ro_37_0, ro_39_0, ro_41_0, ro_43_0, ro_45_0, ro_45_1, ro_45_2, ro_46_0, ro_48_0, ro_50_0, ro_52_0, ro_52_1, ro_52_2, ro_52_3, ro_53_0, ro_55_0, ro_57_0, ro_59_0, ro_61_0, ro_61_1, ro_61_2, ro_61_3, ro_62_0, ro_64_0, ro_66_0, ro_68_0, ro_70_0, ro_70_1, ro_70_2, ro_70_3, ro_70_4, ro_70_5, ro_70_6, ro_70_7, ro_70_8, ro_70_9, ro_71_0, ro_73_0, ro_75_0, ro_77_0, ro_79_0, ro_81_0, ro_83_0, ro_85_0, ro_87_0, ro_89_0, ro_91_0, ro_91_1, ro_91_2, ro_91_3, ro_91_4, ro_91_5, ro_91_6, ro_91_7, ro_91_8, ro_91_9, ro_92_0, ro_94_0, ro_96_0, ro_98_0, ro_100_0, ro_102_0, ro_104_0, ro_106_0, ro_108_0, ro_110_0, ro_112_0, ro_112_1, ro_112_2, ro_112_3, ro_112_4, ro_112_5, ro_112_6, ro_112_7, ro_112_8, ro_112_9, ro_113_0, ro_115_0, ro_117_0, ro_119_0, ro_121_0, ro_123_0, ro_125_0, ro_127_0, ro_129_0, ro_131_0, ro_133_0, ro_133_1, ro_133_2, ro_133_3, ro_133_4, ro_133_5, ro_133_6, ro_133_7, ro_133_8, ro_133_9, ro_134_0, ro_136_0, ro_138_0, ro_140_0, ro_142_0, ro_144_0, ro_146_0, ro_148_0, ro_150_0, ro_152_0, ro_154_0, ro_155_0, ro_157_0, ro_157_1, ro_157_2, ro_157_3, ro_157_4, ro_157_5, ro_157_6, ro_157_7, ro_157_8, ro_157_9, ro_158_0, ro_160_0, ro_162_0, ro_164_0, ro_166_0, ro_168_0, ro_170_0, ro_172_0, ro_174_0, ro_176_0, ro_178_0, ro_180_0, ro_182_1, ro_182_4, ro_182_5, ro_182_6, ro_182_9, ro_182_10, ro_182_11, ro_182_13, ro_182_14, ro_182_15, ro_182_16, ro_182_17, ro_182_20, ro_182_21, ro_182_22, ro_182_23, ro_182_24, ro_182_26, ro_182_27, ro_182_28, lo_3, lo_5, lo_7, lo_9, lo_11, lo_13, lo_15, lo_17, lo_19, lo_21, lo_24, lo_26, lo_28, lo_30, lo_32, lo_34, lo_36, lo_38, lo_40, lo_42, lo_44, lo_47, lo_49, lo_51, lo_54, lo_56, lo_58, lo_60, lo_63, lo_65, lo_67, lo_69, lo_72, lo_74, lo_76, lo_78, lo_80, lo_82, lo_84, lo_86, lo_88, lo_90, lo_93, lo_95, lo_97, lo_99, lo_101, lo_103, lo_105, lo_107, lo_109, lo_111, lo_114, lo_116, lo_118, lo_120, lo_122, lo_124, lo_126, lo_128, lo_130, lo_132, lo_135, lo_137, lo_139, lo_141, lo_143, lo_145, lo_147, lo_149, lo_151, lo_153, lo_156, lo_159, lo_161, lo_163, lo_165, lo_167, lo_169, lo_171, lo_173, lo_175, lo_177, lo_179, lo_181, lo_183, lo_184, lo_185, lo_186, lo_187, lo_188, lo_189, lo_190, lo_191, lo_192, lo_193, lo_194, lo_195, lo_196, lo_197, lo_198, lo_199, lo_200, lo_201, lo_202, lo_203, jp_nn, jp_eq, jp_e1, Classical.not_not, ji0, ji1, ji2, cs42_225, kk_225, cs42_227, kk_227, cs42_228, kk_228, cs42_230, kk_230, cs42_256, kk_256, cs42_254, kk_254f, cs42_257, kk_257f, cs42_269, kk_269, jl_0, jl_1, jl_2, jl_3, jl_4, jl_5, jl_6, jl_7, jl_8, jl_9, jl_10, jl_11, jl_12, jl_13, jl_14, jl_15, jl_16, jl_17, jl_18, jl_19, jl_20, jl_21, jl_22, jl_23, jl_24, jl_25, jl_26, jl_27, jl_28, jl_29, jl_30, jl_31, jl_32, jl_33, jl_34, jl_35, jl_36, jl_37, jl_38, jl_39, jl_40, jl_95, jl_96, jl_97, jl_98, jl_99, jl_100, jl_101, jl_102, jl_103, jl_104, jl_105, jl_106, jl_107, jl_108, jl_109, jl_110, jl_111, jl_112, jl_113, jl_114, jl_186, jl_1100, jr, ju, jpT, jpF, tnc, Nat.reduceEqDiff, reduceIte, and_false, false_and, not_true_eq_false, not_false_eq_true, or_false, gt_iff_lt, ge_iff_le, Int.lt_irrefl, Int.le_refl, eS1, y, y2]
      intro _ h2 f2_w _
      refine qp_lp (fun en h' => ∃ u : Nat, en = [182, 0, (r : Int), (s : Int), (u : Int)] ∧ u ≤ U ∧ Fr (m_W 270) h h' ∧ ∀ q : Nat, q ≤ 162 ∨ 355 ≤ q → h' 194 q = h 194 q) ⟨0, rfl, Nat.zero_le _, Fr.tr z2 (sb_w f2_w), fun q z => by rw [s4_w f2_w]; exact z3 q z⟩ ?_
      intro en h3 ⟨u, e3_w, u1, u2_w, u3⟩
      subst e3_w
      have eU3 : h3 188 2 = (U : Int) := by rw [s8 u2_w]; exact eU
      by_cases yu : (u : Int) < (U : Int)
      · have yu2 : ¬ (U : Int) ≤ (u : Int) := by omega
        have ek := jk1 (k := u) (by omega)
        have ei : j32 (j32 (j32 (163 + j32 (48 * (r : Int))) + j32 (12 * (u : Int))) + (s : Int)) = ((163 + 48 * r + 12 * u + s : Nat) : Int) := by
          rw [jcn (x := 48 * (r : Int)) (n := 48 * r) (by omega) (by omega), jcn (x := 163 + ((48 * r : Nat) : Int)) (n := 163 + 48 * r) (by omega) (by omega), jcn (x := 12 * (u : Int)) (n := 12 * u) (by omega) (by omega), jcn (x := ((163 + 48 * r : Nat) : Int) + ((12 * u : Nat) : Int)) (n := 163 + 48 * r + 12 * u) (by omega) (by omega)]
          exact jcn (by omega) (by omega)
        simp only [qe_1, qe_3, qe_4, qe_5, qe_7, qe_72, qe_10, qe_102, qe_13, qe_14, qe_15, qe_16, qe_17, qe_18, qe_20, qe_22, qe_23, qe_21, qe_24, qe_25, qe_26, qe_27, qe_28, qe_30, qe_31, qe_32, qc_20, qc_22, qc_23, qc_21, qc_24, qc_25, qc_26, qc_27, qc_1, qc_3, qc_4, qc_7, qc_13, qc_28, qc_32, qs_1, qs_2, qs_3, qs_4, qs_5, qs_6, qs_9, qs_10, qs_11, qs_14, qs_15, qs_16, qs_27, qs_17, qs_18, qs_19, qs_20, qs_22, qs_23, qs_28, qs_25, qs_26, qs_7, qs_8, kc_1, kn_1, kc_2, kn_2, kc_3, kn_3, kc_4, kn_4, kc_5, kn_5, kc_6, kn_6, kc_7, kn_7, kc_8, kn_8, kc_9, kn_9, kc_10, kn_10, kc_11, kn_11, kc_12, kn_12, kc_13, kn_13, kc_14, kn_14, kc_15, kn_15, kc_16, kc_17, kc_18, kc_19, kc_20, kc_21, kc_22, kc_23, kc_30, kc_32, kc_40, kc_43, kc_45, kc_48, kc_52, kc_56, kc_57, kc_59, kc_60, kc_61, kc_63, kc_64, kc_72, kc_78, kc_97, kc_99, kc_122, kc_126, kc_128, kc_192, kc_200, kc_255, kc_999, kc_1000, kc_9999, kn_9999, kc_10000, kc_12345, kc_65536, kc_252645135, kc_858993459, kc_1103515245, kc_1431655765, kc_2147483647, kc_0, kc_24, kc_28, kc_37, kc_41, kc_42, kc_73, kc_91, kc_95, kc_96, kc_98, kc_100, kc_112, kc_125, kc_150, kc_162, kc_163, kc_168, kc_186, kc_190, kc_250, kc_355, kc_356, kc_404, kc_405, kc_429, kc_573, kc_1002, kc_1100, kc_1891, kc_2200, kc_4719, kc_4869, kc_4881, kc_5148, kc_19741, kc_25433, kc_320403, kc_628412, kc_629093, kc_660401, kc_679843, kc_918640, kc_979410, kc_1178088, kc_6232410, kc_24644941, kc_36238189, kc_38270444, kc_392531318, kc_425693491, kc_1342154595, kc_2147483648, kc_42328242873, kc_891704255789, kc_1722105685577, kc_1858726030364, ct_0, ct_1, ct_2, ct_3, ct_4, ct_5, cf_0, cf_1, cf_2, cf_3, cf_4, cf_5, w_ty6, w_ty7, m_sv, m_z0, m_hd, m_g0, m_gs, m_s0, m_ss, m_ap, m_an, forall_const, true_and, and_true, ne_eq, not_true_eq_false, not_false_eq_true, false_implies, true_implies, implies_true, eq_self, reduceCtorEq, Nat.reduceDiv, Nat.reduceMod, Int.reduceToNat, or_true, true_or, or_false, false_or, or_self, m_it, m_if, m_c1, m_01, m_02, m_03, m_04, m_10, m_12, m_13, m_14, m_20, m_21, m_23, m_24, m_30, m_31, m_32, m_34, m_40, m_41, m_42, m_43, Int.reduceLE, Int.reduceLT, Int.reduceGE, Int.reduceGT, Int.reduceNeg, Int.reduceAdd, Int.reduceSub, Int.reduceMul, Int.reduceEq, Int.reduceNe, Nat.reduceAdd, jun2, ro_0_0, ro_0_1, ro_0_2, ro_0_3, ro_0_4, ro_0_5, ro_0_6, ro_0_7, ro_0_8, ro_0_9, ro_0_10, ro_0_11, ro_0_12, ro_1_0, ro_1_1, ro_2_0, ro_4_0, ro_6_0, ro_6_1, ro_6_2, ro_6_3, ro_6_4, ro_6_5, ro_6_6, ro_6_7, ro_6_8, ro_8_0, ro_10_0, ro_12_0, ro_14_0, ro_16_0, ro_18_0, ro_20_0, ro_22_0, ro_22_1, ro_22_2, ro_23_0, ro_25_0, ro_27_0, ro_29_0, ro_29_1, ro_29_2, ro_29_3, ro_29_4, ro_29_5, ro_29_6, ro_29_7, ro_29_8, ro_31_0, ro_33_0, ro_35_0, ro_37_0, ro_39_0, ro_41_0, ro_43_0, ro_45_0, ro_45_1, ro_45_2, ro_46_0, ro_48_0, ro_50_0, ro_52_0, ro_52_1, ro_52_2, ro_52_3, ro_53_0, ro_55_0, ro_57_0, ro_59_0, ro_61_0, ro_61_1, ro_61_2, ro_61_3, ro_62_0, ro_64_0, ro_66_0, ro_68_0, ro_70_0, ro_70_1, ro_70_2, ro_70_3, ro_70_4, ro_70_5, ro_70_6, ro_70_7, ro_70_8, ro_70_9, ro_71_0, ro_73_0, ro_75_0, ro_77_0, ro_79_0, ro_81_0, ro_83_0, ro_85_0, ro_87_0, ro_89_0, ro_91_0, ro_91_1, ro_91_2, ro_91_3, ro_91_4, ro_91_5, ro_91_6, ro_91_7, ro_91_8, ro_91_9, ro_92_0, ro_94_0, ro_96_0, ro_98_0, ro_100_0, ro_102_0, ro_104_0, ro_106_0, ro_108_0, ro_110_0, ro_112_0, ro_112_1, ro_112_2, ro_112_3, ro_112_4, ro_112_5, ro_112_6, ro_112_7, ro_112_8, ro_112_9, ro_113_0, ro_115_0, ro_117_0, ro_119_0, ro_121_0, ro_123_0, ro_125_0, ro_127_0, ro_129_0, ro_131_0, ro_133_0, ro_133_1, ro_133_2, ro_133_3, ro_133_4, ro_133_5, ro_133_6, ro_133_7, ro_133_8, ro_133_9, ro_134_0, ro_136_0, ro_138_0, ro_140_0, ro_142_0, ro_144_0, ro_146_0, ro_148_0, ro_150_0, ro_152_0, ro_154_0, ro_155_0, ro_157_0, ro_157_1, ro_157_2, ro_157_3, ro_157_4, ro_157_5, ro_157_6, ro_157_7, ro_157_8, ro_157_9, ro_158_0, ro_160_0, ro_162_0, ro_164_0, ro_166_0, ro_168_0, ro_170_0, ro_172_0, ro_174_0, ro_176_0, ro_178_0, ro_180_0, ro_182_1, ro_182_4, ro_182_5, ro_182_6, ro_182_9, ro_182_10, ro_182_11, ro_182_13, ro_182_14, ro_182_15, ro_182_16, ro_182_17, ro_182_20, ro_182_21, ro_182_22, ro_182_23, ro_182_24, ro_182_26, ro_182_27, ro_182_28, lo_3, lo_5, lo_7, lo_9, lo_11, lo_13, lo_15, lo_17, lo_19, lo_21, lo_24, lo_26, lo_28, lo_30, lo_32, lo_34, lo_36, lo_38, lo_40, lo_42, lo_44, lo_47, lo_49, lo_51, lo_54, lo_56, lo_58, lo_60, lo_63, lo_65, lo_67, lo_69, lo_72, lo_74, lo_76, lo_78, lo_80, lo_82, lo_84, lo_86, lo_88, lo_90, lo_93, lo_95, lo_97, lo_99, lo_101, lo_103, lo_105, lo_107, lo_109, lo_111, lo_114, lo_116, lo_118, lo_120, lo_122, lo_124, lo_126, lo_128, lo_130, lo_132, lo_135, lo_137, lo_139, lo_141, lo_143, lo_145, lo_147, lo_149, lo_151, lo_153, lo_156, lo_159, lo_161, lo_163, lo_165, lo_167, lo_169, lo_171, lo_173, lo_175, lo_177, lo_179, lo_181, lo_183, lo_184, lo_185, lo_186, lo_187, lo_188, lo_189, lo_190, lo_191, lo_192, lo_193, lo_194, lo_195, lo_196, lo_197, lo_198, lo_199, lo_200, lo_201, lo_202, lo_203, jp_nn, jp_eq, jp_e1, Classical.not_not, ji0, ji1, ji2, cs42_225, kk_225, cs42_227, kk_227, cs42_228, kk_228, cs42_230, kk_230, cs42_256, kk_256, cs42_254, kk_254f, cs42_257, kk_257f, cs42_269, kk_269, jl_0, jl_1, jl_2, jl_3, jl_4, jl_5, jl_6, jl_7, jl_8, jl_9, jl_10, jl_11, jl_12, jl_13, jl_14, jl_15, jl_16, jl_17, jl_18, jl_19, jl_20, jl_21, jl_22, jl_23, jl_24, jl_25, jl_26, jl_27, jl_28, jl_29, jl_30, jl_31, jl_32, jl_33, jl_34, jl_35, jl_36, jl_37, jl_38, jl_39, jl_40, jl_95, jl_96, jl_97, jl_98, jl_99, jl_100, jl_101, jl_102, jl_103, jl_104, jl_105, jl_106, jl_107, jl_108, jl_109, jl_110, jl_111, jl_112, jl_113, jl_114, jl_186, jl_1100, jr, ju, jpT, jpF, tnc, Nat.reduceEqDiff, reduceIte, and_false, false_and, not_true_eq_false, not_false_eq_true, or_false, gt_iff_lt, ge_iff_le, Int.lt_irrefl, Int.le_refl, eU3, yu, yu2, ek, j163, ei]
        intro _ v h4 f4_w _
        intros
        refine ⟨u + 1, rfl, by omega, Fr.tr u2_w (Fr.tr (Fr.sub (by decide) f4_w) (Fr.arr rfl)), fun q z => ?_⟩
        rw [if_neg (by omega), sc_w f4_w]
        exact u3 q z
      · have yu2 : (U : Int) ≤ (u : Int) := by omega
        have ek := jk1 (k := s) (by omega)
        simp only [qe_1, qe_3, qe_4, qe_5, qe_7, qe_72, qe_10, qe_102, qe_13, qe_14, qe_15, qe_16, qe_17, qe_18, qe_20, qe_22, qe_23, qe_21, qe_24, qe_25, qe_26, qe_27, qe_28, qe_30, qe_31, qe_32, qc_20, qc_22, qc_23, qc_21, qc_24, qc_25, qc_26, qc_27, qc_1, qc_3, qc_4, qc_7, qc_13, qc_28, qc_32, qs_1, qs_2, qs_3, qs_4, qs_5, qs_6, qs_9, qs_10, qs_11, qs_14, qs_15, qs_16, qs_27, qs_17, qs_18, qs_19, qs_20, qs_22, qs_23, qs_28, qs_25, qs_26, qs_7, qs_8, kc_1, kn_1, kc_2, kn_2, kc_3, kn_3, kc_4, kn_4, kc_5, kn_5, kc_6, kn_6, kc_7, kn_7, kc_8, kn_8, kc_9, kn_9, kc_10, kn_10, kc_11, kn_11, kc_12, kn_12, kc_13, kn_13, kc_14, kn_14, kc_15, kn_15, kc_16, kc_17, kc_18, kc_19, kc_20, kc_21, kc_22, kc_23, kc_30, kc_32, kc_40, kc_43, kc_45, kc_48, kc_52, kc_56, kc_57, kc_59, kc_60, kc_61, kc_63, kc_64, kc_72, kc_78, kc_97, kc_99, kc_122, kc_126, kc_128, kc_192, kc_200, kc_255, kc_999, kc_1000, kc_9999, kn_9999, kc_10000, kc_12345, kc_65536, kc_252645135, kc_858993459, kc_1103515245, kc_1431655765, kc_2147483647, kc_0, kc_24, kc_28, kc_37, kc_41, kc_42, kc_73, kc_91, kc_95, kc_96, kc_98, kc_100, kc_112, kc_125, kc_150, kc_162, kc_163, kc_168, kc_186, kc_190, kc_250, kc_355, kc_356, kc_404, kc_405, kc_429, kc_573, kc_1002, kc_1100, kc_1891, kc_2200, kc_4719, kc_4869, kc_4881, kc_5148, kc_19741, kc_25433, kc_320403, kc_628412, kc_629093, kc_660401, kc_679843, kc_918640, kc_979410, kc_1178088, kc_6232410, kc_24644941, kc_36238189, kc_38270444, kc_392531318, kc_425693491, kc_1342154595, kc_2147483648, kc_42328242873, kc_891704255789, kc_1722105685577, kc_1858726030364, ct_0, ct_1, ct_2, ct_3, ct_4, ct_5, cf_0, cf_1, cf_2, cf_3, cf_4, cf_5, w_ty6, w_ty7, m_sv, m_z0, m_hd, m_g0, m_gs, m_s0, m_ss, m_ap, m_an, forall_const, true_and, and_true, ne_eq, not_true_eq_false, not_false_eq_true, false_implies, true_implies, implies_true, eq_self, reduceCtorEq, Nat.reduceDiv, Nat.reduceMod, Int.reduceToNat, or_true, true_or, or_false, false_or, or_self, m_it, m_if, m_c1, m_01, m_02, m_03, m_04, m_10, m_12, m_13, m_14, m_20, m_21, m_23, m_24, m_30, m_31, m_32, m_34, m_40, m_41, m_42, m_43, Int.reduceLE, Int.reduceLT, Int.reduceGE, Int.reduceGT, Int.reduceNeg, Int.reduceAdd, Int.reduceSub, Int.reduceMul, Int.reduceEq, Int.reduceNe, Nat.reduceAdd, jun2, ro_0_0, ro_0_1, ro_0_2, ro_0_3, ro_0_4, ro_0_5, ro_0_6, ro_0_7, ro_0_8, ro_0_9, ro_0_10, ro_0_11, ro_0_12, ro_1_0, ro_1_1, ro_2_0, ro_4_0, ro_6_0, ro_6_1, ro_6_2, ro_6_3, ro_6_4, ro_6_5, ro_6_6, ro_6_7, ro_6_8, ro_8_0, ro_10_0, ro_12_0, ro_14_0, ro_16_0, ro_18_0, ro_20_0, ro_22_0, ro_22_1, ro_22_2, ro_23_0, ro_25_0, ro_27_0, ro_29_0, ro_29_1, ro_29_2, ro_29_3, ro_29_4, ro_29_5, ro_29_6, ro_29_7, ro_29_8, ro_31_0, ro_33_0, ro_35_0, ro_37_0, ro_39_0, ro_41_0, ro_43_0, ro_45_0, ro_45_1, ro_45_2, ro_46_0, ro_48_0, ro_50_0, ro_52_0, ro_52_1, ro_52_2, ro_52_3, ro_53_0, ro_55_0, ro_57_0, ro_59_0, ro_61_0, ro_61_1, ro_61_2, ro_61_3, ro_62_0, ro_64_0, ro_66_0, ro_68_0, ro_70_0, ro_70_1, ro_70_2, ro_70_3, ro_70_4, ro_70_5, ro_70_6, ro_70_7, ro_70_8, ro_70_9, ro_71_0, ro_73_0, ro_75_0, ro_77_0, ro_79_0, ro_81_0, ro_83_0, ro_85_0, ro_87_0, ro_89_0, ro_91_0, ro_91_1, ro_91_2, ro_91_3, ro_91_4, ro_91_5, ro_91_6, ro_91_7, ro_91_8, ro_91_9, ro_92_0, ro_94_0, ro_96_0, ro_98_0, ro_100_0, ro_102_0, ro_104_0, ro_106_0, ro_108_0, ro_110_0, ro_112_0, ro_112_1, ro_112_2, ro_112_3, ro_112_4, ro_112_5, ro_112_6, ro_112_7, ro_112_8, ro_112_9, ro_113_0, ro_115_0, ro_117_0, ro_119_0, ro_121_0, ro_123_0, ro_125_0, ro_127_0, ro_129_0, ro_131_0, ro_133_0, ro_133_1, ro_133_2, ro_133_3, ro_133_4, ro_133_5, ro_133_6, ro_133_7, ro_133_8, ro_133_9, ro_134_0, ro_136_0, ro_138_0, ro_140_0, ro_142_0, ro_144_0, ro_146_0, ro_148_0, ro_150_0, ro_152_0, ro_154_0, ro_155_0, ro_157_0, ro_157_1, ro_157_2, ro_157_3, ro_157_4, ro_157_5, ro_157_6, ro_157_7, ro_157_8, ro_157_9, ro_158_0, ro_160_0, ro_162_0, ro_164_0, ro_166_0, ro_168_0, ro_170_0, ro_172_0, ro_174_0, ro_176_0, ro_178_0, ro_180_0, ro_182_1, ro_182_4, ro_182_5, ro_182_6, ro_182_9, ro_182_10, ro_182_11, ro_182_13, ro_182_14, ro_182_15, ro_182_16, ro_182_17, ro_182_20, ro_182_21, ro_182_22, ro_182_23, ro_182_24, ro_182_26, ro_182_27, ro_182_28, lo_3, lo_5, lo_7, lo_9, lo_11, lo_13, lo_15, lo_17, lo_19, lo_21, lo_24, lo_26, lo_28, lo_30, lo_32, lo_34, lo_36, lo_38, lo_40, lo_42, lo_44, lo_47, lo_49, lo_51, lo_54, lo_56, lo_58, lo_60, lo_63, lo_65, lo_67, lo_69, lo_72, lo_74, lo_76, lo_78, lo_80, lo_82, lo_84, lo_86, lo_88, lo_90, lo_93, lo_95, lo_97, lo_99, lo_101, lo_103, lo_105, lo_107, lo_109, lo_111, lo_114, lo_116, lo_118, lo_120, lo_122, lo_124, lo_126, lo_128, lo_130, lo_132, lo_135, lo_137, lo_139, lo_141, lo_143, lo_145, lo_147, lo_149, lo_151, lo_153, lo_156, lo_159, lo_161, lo_163, lo_165, lo_167, lo_169, lo_171, lo_173, lo_175, lo_177, lo_179, lo_181, lo_183, lo_184, lo_185, lo_186, lo_187, lo_188, lo_189, lo_190, lo_191, lo_192, lo_193, lo_194, lo_195, lo_196, lo_197, lo_198, lo_199, lo_200, lo_201, lo_202, lo_203, jp_nn, jp_eq, jp_e1, Classical.not_not, ji0, ji1, ji2, cs42_225, kk_225, cs42_227, kk_227, cs42_228, kk_228, cs42_230, kk_230, cs42_256, kk_256, cs42_254, kk_254f, cs42_257, kk_257f, cs42_269, kk_269, jl_0, jl_1, jl_2, jl_3, jl_4, jl_5, jl_6, jl_7, jl_8, jl_9, jl_10, jl_11, jl_12, jl_13, jl_14, jl_15, jl_16, jl_17, jl_18, jl_19, jl_20, jl_21, jl_22, jl_23, jl_24, jl_25, jl_26, jl_27, jl_28, jl_29, jl_30, jl_31, jl_32, jl_33, jl_34, jl_35, jl_36, jl_37, jl_38, jl_39, jl_40, jl_95, jl_96, jl_97, jl_98, jl_99, jl_100, jl_101, jl_102, jl_103, jl_104, jl_105, jl_106, jl_107, jl_108, jl_109, jl_110, jl_111, jl_112, jl_113, jl_114, jl_186, jl_1100, jr, ju, jpT, jpF, tnc, Nat.reduceEqDiff, reduceIte, and_false, false_and, not_true_eq_false, not_false_eq_true, or_false, gt_iff_lt, ge_iff_le, Int.lt_irrefl, Int.le_refl, eU3, yu, yu2, ek]
        exact ⟨s + 1, _, rfl, by omega, u2_w, u3⟩
    · have y2 : (S : Int) ≤ (s : Int) := by omega
      simp only [qe_1, qe_3, qe_4, qe_5, qe_7, qe_72, qe_10, qe_102, qe_13, qe_14, qe_15, qe_16, qe_17, qe_18, qe_20, qe_22, qe_23, qe_21, qe_24, qe_25, qe_26, qe_27, qe_28, qe_30, qe_31, qe_32, qc_20, qc_22, qc_23, qc_21, qc_24, qc_25, qc_26, qc_27, qc_1, qc_3, qc_4, qc_7, qc_13, qc_28, qc_32, qs_1, qs_2, qs_3, qs_4, qs_5, qs_6, qs_9, qs_10, qs_11, qs_14, qs_15, qs_16, qs_27, qs_17, qs_18, qs_19, qs_20, qs_22, qs_23, qs_28, qs_25, qs_26, qs_7, qs_8, kc_1, kn_1, kc_2, kn_2, kc_3, kn_3, kc_4, kn_4, kc_5, kn_5, kc_6, kn_6, kc_7, kn_7, kc_8, kn_8, kc_9, kn_9, kc_10, kn_10, kc_11, kn_11, kc_12, kn_12, kc_13, kn_13, kc_14, kn_14, kc_15, kn_15, kc_16, kc_17, kc_18, kc_19, kc_20, kc_21, kc_22, kc_23, kc_30, kc_32, kc_40, kc_43, kc_45, kc_48, kc_52, kc_56, kc_57, kc_59, kc_60, kc_61, kc_63, kc_64, kc_72, kc_78, kc_97, kc_99, kc_122, kc_126, kc_128, kc_192, kc_200, kc_255, kc_999, kc_1000, kc_9999, kn_9999, kc_10000, kc_12345, kc_65536, kc_252645135, kc_858993459, kc_1103515245, kc_1431655765, kc_2147483647, kc_0, kc_24, kc_28, kc_37, kc_41, kc_42, kc_73, kc_91, kc_95, kc_96, kc_98, kc_100, kc_112, kc_125, kc_150, kc_162, kc_163, kc_168, kc_186, kc_190, kc_250, kc_355, kc_356, kc_404, kc_405, kc_429, kc_573, kc_1002, kc_1100, kc_1891, kc_2200, kc_4719, kc_4869, kc_4881, kc_5148, kc_19741, kc_25433, kc_320403, kc_628412, kc_629093, kc_660401, kc_679843, kc_918640, kc_979410, kc_1178088, kc_6232410, kc_24644941, kc_36238189, kc_38270444, kc_392531318, kc_425693491, kc_1342154595, kc_2147483648, kc_42328242873, kc_891704255789, kc_1722105685577, kc_1858726030364, ct_0, ct_1, ct_2, ct_3, ct_4, ct_5, cf_0, cf_1, cf_2, cf_3, cf_4, cf_5, w_ty6, w_ty7, m_sv, m_z0, m_hd, m_g0, m_gs, m_s0, m_ss, m_ap, m_an, forall_const, true_and, and_true, ne_eq, not_true_eq_false, not_false_eq_true, false_implies, true_implies, implies_true, eq_self, reduceCtorEq, Nat.reduceDiv, Nat.reduceMod, Int.reduceToNat, or_true, true_or, or_false, false_or, or_self, m_it, m_if, m_c1, m_01, m_02, m_03, m_04, m_10, m_12, m_13, m_14, m_20, m_21, m_23, m_24, m_30, m_31, m_32, m_34, m_40, m_41, m_42, m_43, Int.reduceLE, Int.reduceLT, Int.reduceGE, Int.reduceGT, Int.reduceNeg, Int.reduceAdd, Int.reduceSub, Int.reduceMul, Int.reduceEq, Int.reduceNe, Nat.reduceAdd, jun2, ro_0_0, ro_0_1, ro_0_2, ro_0_3, ro_0_4, ro_0_5, ro_0_6, ro_0_7, ro_0_8, ro_0_9, ro_0_10, ro_0_11, ro_0_12, ro_1_0, ro_1_1, ro_2_0, ro_4_0, ro_6_0, ro_6_1, ro_6_2, ro_6_3, ro_6_4, ro_6_5, ro_6_6, ro_6_7, ro_6_8, ro_8_0, ro_10_0, ro_12_0, ro_14_0, ro_16_0, ro_18_0, ro_20_0, ro_22_0, ro_22_1, ro_22_2, ro_23_0, ro_25_0, ro_27_0, ro_29_0, ro_29_1, ro_29_2, ro_29_3, ro_29_4, ro_29_5, ro_29_6, ro_29_7, ro_29_8, ro_31_0, ro_33_0, ro_35_0, ro_37_0, ro_39_0, ro_41_0, ro_43_0, ro_45_0, ro_45_1, ro_45_2, ro_46_0, ro_48_0, ro_50_0, ro_52_0, ro_52_1, ro_52_2, ro_52_3, ro_53_0, ro_55_0, ro_57_0, ro_59_0, ro_61_0, ro_61_1, ro_61_2, ro_61_3, ro_62_0, ro_64_0, ro_66_0, ro_68_0, ro_70_0, ro_70_1, ro_70_2, ro_70_3, ro_70_4, ro_70_5, ro_70_6, ro_70_7, ro_70_8, ro_70_9, ro_71_0, ro_73_0, ro_75_0, ro_77_0, ro_79_0, ro_81_0, ro_83_0, ro_85_0, ro_87_0, ro_89_0, ro_91_0, ro_91_1, ro_91_2, ro_91_3, ro_91_4, ro_91_5, ro_91_6, ro_91_7, ro_91_8, ro_91_9, ro_92_0, ro_94_0, ro_96_0, ro_98_0, ro_100_0, ro_102_0, ro_104_0, ro_106_0, ro_108_0, ro_110_0, ro_112_0, ro_112_1, ro_112_2, ro_112_3, ro_112_4, ro_112_5, ro_112_6, ro_112_7, ro_112_8, ro_112_9, ro_113_0, ro_115_0, ro_117_0, ro_119_0, ro_121_0, ro_123_0, ro_125_0, ro_127_0, ro_129_0, ro_131_0, ro_133_0, ro_133_1, ro_133_2, ro_133_3, ro_133_4, ro_133_5, ro_133_6, ro_133_7, ro_133_8, ro_133_9, ro_134_0, ro_136_0, ro_138_0, ro_140_0, ro_142_0, ro_144_0, ro_146_0, ro_148_0, ro_150_0, ro_152_0, ro_154_0, ro_155_0, ro_157_0, ro_157_1, ro_157_2, ro_157_3, ro_157_4, ro_157_5, ro_157_6, ro_157_7, ro_157_8, ro_157_9, ro_158_0, ro_160_0, ro_162_0, ro_164_0, ro_166_0, ro_168_0, ro_170_0, ro_172_0, ro_174_0, ro_176_0, ro_178_0, ro_180_0, ro_182_1, ro_182_4, ro_182_5, ro_182_6, ro_182_9, ro_182_10, ro_182_11, ro_182_13, ro_182_14, ro_182_15, ro_182_16, ro_182_17, ro_182_20, ro_182_21, ro_182_22, ro_182_23, ro_182_24, ro_182_26, ro_182_27, ro_182_28, lo_3, lo_5, lo_7, lo_9, lo_11, lo_13, lo_15, lo_17, lo_19, lo_21, lo_24, lo_26, lo_28, lo_30, lo_32, lo_34, lo_36, lo_38, lo_40, lo_42, lo_44, lo_47, lo_49, lo_51, lo_54, lo_56, lo_58, lo_60, lo_63, lo_65, lo_67, lo_69, lo_72, lo_74, lo_76, lo_78, lo_80, lo_82, lo_84, lo_86, lo_88, lo_90, lo_93, lo_95, lo_97, lo_99, lo_101, lo_103, lo_105, lo_107, lo_109, lo_111, lo_114, lo_116, lo_118, lo_120, lo_122, lo_124, lo_126, lo_128, lo_130, lo_132, lo_135, lo_137, lo_139, lo_141, lo_143, lo_145, lo_147, lo_149, lo_151, lo_153, lo_156, lo_159, lo_161, lo_163, lo_165, lo_167, lo_169, lo_171, lo_173, lo_175, lo_177, lo_179, lo_181, lo_183, lo_184, lo_185, lo_186, lo_187, lo_188, lo_189, lo_190, lo_191, lo_192, lo_193, lo_194, lo_195, lo_196, lo_197, lo_198, lo_199, lo_200, lo_201, lo_202, lo_203, jp_nn, jp_eq, jp_e1, Classical.not_not, ji0, ji1, ji2, cs42_225, kk_225, cs42_227, kk_227, cs42_228, kk_228, cs42_230, kk_230, cs42_256, kk_256, cs42_254, kk_254f, cs42_257, kk_257f, cs42_269, kk_269, jl_0, jl_1, jl_2, jl_3, jl_4, jl_5, jl_6, jl_7, jl_8, jl_9, jl_10, jl_11, jl_12, jl_13, jl_14, jl_15, jl_16, jl_17, jl_18, jl_19, jl_20, jl_21, jl_22, jl_23, jl_24, jl_25, jl_26, jl_27, jl_28, jl_29, jl_30, jl_31, jl_32, jl_33, jl_34, jl_35, jl_36, jl_37, jl_38, jl_39, jl_40, jl_95, jl_96, jl_97, jl_98, jl_99, jl_100, jl_101, jl_102, jl_103, jl_104, jl_105, jl_106, jl_107, jl_108, jl_109, jl_110, jl_111, jl_112, jl_113, jl_114, jl_186, jl_1100, jr, ju, jpT, jpF, tnc, Nat.reduceEqDiff, reduceIte, and_false, false_and, not_true_eq_false, not_false_eq_true, or_false, gt_iff_lt, ge_iff_le, Int.lt_irrefl, Int.le_refl, eS1, y, y2, j355]
      intros
      refine qp_lp (fun en h' => ∃ (m : Nat) (w : Int), en = [182, 0, (r : Int), (m : Int), w] ∧ m ≤ M ∧ Fr (m_W 270) h h' ∧ (∀ q : Nat, q ≤ 162 ∨ 404 ≤ q → h' 194 q = h 194 q) ∧ ACt h') ⟨0, w, rfl, Nat.zero_le _, Fr.tr z2 (Fr.arr rfl), fun q z => (up_ne (by omega)).trans (z3 q (by omega)), ⟨0, fun _ => 0, up_eq, fun k z => by omega, fun i j z => by omega⟩⟩ ?_
      intro en h2 ⟨m, w2_w, e2_w, m1_w, m2_w, m3_w, m4_w⟩
      subst e2_w
      have eM2 : h2 188 3 = (M : Int) := by rw [s8 m2_w]; exact eM_w
      by_cases ym : (m : Int) < (M : Int)
      · have ym2 : ¬ (M : Int) ≤ (m : Int) := by omega
        simp only [qe_1, qe_3, qe_4, qe_5, qe_7, qe_72, qe_10, qe_102, qe_13, qe_14, qe_15, qe_16, qe_17, qe_18, qe_20, qe_22, qe_23, qe_21, qe_24, qe_25, qe_26, qe_27, qe_28, qe_30, qe_31, qe_32, qc_20, qc_22, qc_23, qc_21, qc_24, qc_25, qc_26, qc_27, qc_1, qc_3, qc_4, qc_7, qc_13, qc_28, qc_32, qs_1, qs_2, qs_3, qs_4, qs_5, qs_6, qs_9, qs_10, qs_11, qs_14, qs_15, qs_16, qs_27, qs_17, qs_18, qs_19, qs_20, qs_22, qs_23, qs_28, qs_25, qs_26, qs_7, qs_8, kc_1, kn_1, kc_2, kn_2, kc_3, kn_3, kc_4, kn_4, kc_5, kn_5, kc_6, kn_6, kc_7, kn_7, kc_8, kn_8, kc_9, kn_9, kc_10, kn_10, kc_11, kn_11, kc_12, kn_12, kc_13, kn_13, kc_14, kn_14, kc_15, kn_15, kc_16, kc_17, kc_18, kc_19, kc_20, kc_21, kc_22, kc_23, kc_30, kc_32, kc_40, kc_43, kc_45, kc_48, kc_52, kc_56, kc_57, kc_59, kc_60, kc_61, kc_63, kc_64, kc_72, kc_78, kc_97, kc_99, kc_122, kc_126, kc_128, kc_192, kc_200, kc_255, kc_999, kc_1000, kc_9999, kn_9999, kc_10000, kc_12345, kc_65536, kc_252645135, kc_858993459, kc_1103515245, kc_1431655765, kc_2147483647, kc_0, kc_24, kc_28, kc_37, kc_41, kc_42, kc_73, kc_91, kc_95, kc_96, kc_98, kc_100, kc_112, kc_125, kc_150, kc_162, kc_163, kc_168, kc_186, kc_190, kc_250, kc_355, kc_356, kc_404, kc_405, kc_429, kc_573, kc_1002, kc_1100, kc_1891, kc_2200, kc_4719, kc_4869, kc_4881, kc_5148, kc_19741, kc_25433, kc_320403, kc_628412, kc_629093, kc_660401, kc_679843, kc_918640, kc_979410, kc_1178088, kc_6232410, kc_24644941, kc_36238189, kc_38270444, kc_392531318, kc_425693491, kc_1342154595, kc_2147483648, kc_42328242873, kc_891704255789, kc_1722105685577, kc_1858726030364, ct_0, ct_1, ct_2, ct_3, ct_4, ct_5, cf_0, cf_1, cf_2, cf_3, cf_4, cf_5, w_ty6, w_ty7, m_sv, m_z0, m_hd, m_g0, m_gs, m_s0, m_ss, m_ap, m_an, forall_const, true_and, and_true, ne_eq, not_true_eq_false, not_false_eq_true, false_implies, true_implies, implies_true, eq_self, reduceCtorEq, Nat.reduceDiv, Nat.reduceMod, Int.reduceToNat, or_true, true_or, or_false, false_or, or_self, m_it, m_if, m_c1, m_01, m_02, m_03, m_04, m_10, m_12, m_13, m_14, m_20, m_21, m_23, m_24, m_30, m_31, m_32, m_34, m_40, m_41, m_42, m_43, Int.reduceLE, Int.reduceLT, Int.reduceGE, Int.reduceGT, Int.reduceNeg, Int.reduceAdd, Int.reduceSub, Int.reduceMul, Int.reduceEq, Int.reduceNe, Nat.reduceAdd, jun2, ro_0_0, ro_0_1, ro_0_2, ro_0_3, ro_0_4, ro_0_5, ro_0_6, ro_0_7, ro_0_8, ro_0_9, ro_0_10, ro_0_11, ro_0_12, ro_1_0, ro_1_1, ro_2_0, ro_4_0, ro_6_0, ro_6_1, ro_6_2, ro_6_3, ro_6_4, ro_6_5, ro_6_6, ro_6_7, ro_6_8, ro_8_0, ro_10_0, ro_12_0, ro_14_0, ro_16_0, ro_18_0, ro_20_0, ro_22_0, ro_22_1, ro_22_2, ro_23_0, ro_25_0, ro_27_0, ro_29_0, ro_29_1, ro_29_2, ro_29_3, ro_29_4, ro_29_5, ro_29_6, ro_29_7, ro_29_8, ro_31_0, ro_33_0, ro_35_0, ro_37_0, ro_39_0, ro_41_0, ro_43_0, ro_45_0, ro_45_1, ro_45_2, ro_46_0, ro_48_0, ro_50_0, ro_52_0, ro_52_1, ro_52_2, ro_52_3, ro_53_0, ro_55_0, ro_57_0, ro_59_0, ro_61_0, ro_61_1, ro_61_2, ro_61_3, ro_62_0, ro_64_0, ro_66_0, ro_68_0, ro_70_0, ro_70_1, ro_70_2, ro_70_3, ro_70_4, ro_70_5, ro_70_6, ro_70_7, ro_70_8, ro_70_9, ro_71_0, ro_73_0, ro_75_0, ro_77_0, ro_79_0, ro_81_0, ro_83_0, ro_85_0, ro_87_0, ro_89_0, ro_91_0, ro_91_1, ro_91_2, ro_91_3, ro_91_4, ro_91_5, ro_91_6, ro_91_7, ro_91_8, ro_91_9, ro_92_0, ro_94_0, ro_96_0, ro_98_0, ro_100_0, ro_102_0, ro_104_0, ro_106_0, ro_108_0, ro_110_0, ro_112_0, ro_112_1, ro_112_2, ro_112_3, ro_112_4, ro_112_5, ro_112_6, ro_112_7, ro_112_8, ro_112_9, ro_113_0, ro_115_0, ro_117_0, ro_119_0, ro_121_0, ro_123_0, ro_125_0, ro_127_0, ro_129_0, ro_131_0, ro_133_0, ro_133_1, ro_133_2, ro_133_3, ro_133_4, ro_133_5, ro_133_6, ro_133_7, ro_133_8, ro_133_9, ro_134_0, ro_136_0, ro_138_0, ro_140_0, ro_142_0, ro_144_0, ro_146_0, ro_148_0, ro_150_0, ro_152_0, ro_154_0, ro_155_0, ro_157_0, ro_157_1, ro_157_2, ro_157_3, ro_157_4, ro_157_5, ro_157_6, ro_157_7, ro_157_8, ro_157_9, ro_158_0, ro_160_0, ro_162_0, ro_164_0, ro_166_0, ro_168_0, ro_170_0, ro_172_0, ro_174_0, ro_176_0, ro_178_0, ro_180_0, ro_182_1, ro_182_4, ro_182_5, ro_182_6, ro_182_9, ro_182_10, ro_182_11, ro_182_13, ro_182_14, ro_182_15, ro_182_16, ro_182_17, ro_182_20, ro_182_21, ro_182_22, ro_182_23, ro_182_24, ro_182_26, ro_182_27, ro_182_28, lo_3, lo_5, lo_7, lo_9, lo_11, lo_13, lo_15, lo_17, lo_19, lo_21, lo_24, lo_26, lo_28, lo_30, lo_32, lo_34, lo_36, lo_38, lo_40, lo_42, lo_44, lo_47, lo_49, lo_51, lo_54, lo_56, lo_58, lo_60, lo_63, lo_65, lo_67, lo_69, lo_72, lo_74, lo_76, lo_78, lo_80, lo_82, lo_84, lo_86, lo_88, lo_90, lo_93, lo_95, lo_97, lo_99, lo_101, lo_103, lo_105, lo_107, lo_109, lo_111, lo_114, lo_116, lo_118, lo_120, lo_122, lo_124, lo_126, lo_128, lo_130, lo_132, lo_135, lo_137, lo_139, lo_141, lo_143, lo_145, lo_147, lo_149, lo_151, lo_153, lo_156, lo_159, lo_161, lo_163, lo_165, lo_167, lo_169, lo_171, lo_173, lo_175, lo_177, lo_179, lo_181, lo_183, lo_184, lo_185, lo_186, lo_187, lo_188, lo_189, lo_190, lo_191, lo_192, lo_193, lo_194, lo_195, lo_196, lo_197, lo_198, lo_199, lo_200, lo_201, lo_202, lo_203, jp_nn, jp_eq, jp_e1, Classical.not_not, ji0, ji1, ji2, cs42_225, kk_225, cs42_227, kk_227, cs42_228, kk_228, cs42_230, kk_230, cs42_256, kk_256, cs42_254, kk_254f, cs42_257, kk_257f, cs42_269, kk_269, jl_0, jl_1, jl_2, jl_3, jl_4, jl_5, jl_6, jl_7, jl_8, jl_9, jl_10, jl_11, jl_12, jl_13, jl_14, jl_15, jl_16, jl_17, jl_18, jl_19, jl_20, jl_21, jl_22, jl_23, jl_24, jl_25, jl_26, jl_27, jl_28, jl_29, jl_30, jl_31, jl_32, jl_33, jl_34, jl_35, jl_36, jl_37, jl_38, jl_39, jl_40, jl_95, jl_96, jl_97, jl_98, jl_99, jl_100, jl_101, jl_102, jl_103, jl_104, jl_105, jl_106, jl_107, jl_108, jl_109, jl_110, jl_111, jl_112, jl_113, jl_114, jl_186, jl_1100, jr, ju, jpT, jpF, tnc, Nat.reduceEqDiff, reduceIte, and_false, false_and, not_true_eq_false, not_false_eq_true, or_false, gt_iff_lt, ge_iff_le, Int.lt_irrefl, Int.le_refl, eM2, ym, ym2]
        refine qp_lp (fun en h' => ∃ s : Nat, en = [182, 0, (r : Int), (m : Int), (s : Int)] ∧ s ≤ S ∧ Fr (m_W 270) h h' ∧ (∀ q : Nat, q ≤ 162 ∨ 404 ≤ q → h' 194 q = h 194 q) ∧ ACt h') ⟨0, rfl, Nat.zero_le _, m2_w, m3_w, m4_w⟩ ?_
        intro en h3 ⟨s3_w, e3_w, u1, u2_w, u3, u4_w⟩
        subst e3_w
        have eS3 : h3 188 0 = (S : Int) := by rw [s8 u2_w]; exact eS
        by_cases yu : (s3_w : Int) < (S : Int)
        · have yu2 : ¬ (S : Int) ≤ (s3_w : Int) := by omega
          have ek := jk1 (k := s3_w) (by omega)
          simp only [qe_1, qe_3, qe_4, qe_5, qe_7, qe_72, qe_10, qe_102, qe_13, qe_14, qe_15, qe_16, qe_17, qe_18, qe_20, qe_22, qe_23, qe_21, qe_24, qe_25, qe_26, qe_27, qe_28, qe_30, qe_31, qe_32, qc_20, qc_22, qc_23, qc_21, qc_24, qc_25, qc_26, qc_27, qc_1, qc_3, qc_4, qc_7, qc_13, qc_28, qc_32, qs_1, qs_2, qs_3, qs_4, qs_5, qs_6, qs_9, qs_10, qs_11, qs_14, qs_15, qs_16, qs_27, qs_17, qs_18, qs_19, qs_20, qs_22, qs_23, qs_28, qs_25, qs_26, qs_7, qs_8, kc_1, kn_1, kc_2, kn_2, kc_3, kn_3, kc_4, kn_4, kc_5, kn_5, kc_6, kn_6, kc_7, kn_7, kc_8, kn_8, kc_9, kn_9, kc_10, kn_10, kc_11, kn_11, kc_12, kn_12, kc_13, kn_13, kc_14, kn_14, kc_15, kn_15, kc_16, kc_17, kc_18, kc_19, kc_20, kc_21, kc_22, kc_23, kc_30, kc_32, kc_40, kc_43, kc_45, kc_48, kc_52, kc_56, kc_57, kc_59, kc_60, kc_61, kc_63, kc_64, kc_72, kc_78, kc_97, kc_99, kc_122, kc_126, kc_128, kc_192, kc_200, kc_255, kc_999, kc_1000, kc_9999, kn_9999, kc_10000, kc_12345, kc_65536, kc_252645135, kc_858993459, kc_1103515245, kc_1431655765, kc_2147483647, kc_0, kc_24, kc_28, kc_37, kc_41, kc_42, kc_73, kc_91, kc_95, kc_96, kc_98, kc_100, kc_112, kc_125, kc_150, kc_162, kc_163, kc_168, kc_186, kc_190, kc_250, kc_355, kc_356, kc_404, kc_405, kc_429, kc_573, kc_1002, kc_1100, kc_1891, kc_2200, kc_4719, kc_4869, kc_4881, kc_5148, kc_19741, kc_25433, kc_320403, kc_628412, kc_629093, kc_660401, kc_679843, kc_918640, kc_979410, kc_1178088, kc_6232410, kc_24644941, kc_36238189, kc_38270444, kc_392531318, kc_425693491, kc_1342154595, kc_2147483648, kc_42328242873, kc_891704255789, kc_1722105685577, kc_1858726030364, ct_0, ct_1, ct_2, ct_3, ct_4, ct_5, cf_0, cf_1, cf_2, cf_3, cf_4, cf_5, w_ty6, w_ty7, m_sv, m_z0, m_hd, m_g0, m_gs, m_s0, m_ss, m_ap, m_an, forall_const, true_and, and_true, ne_eq, not_true_eq_false, not_false_eq_true, false_implies, true_implies, implies_true, eq_self, reduceCtorEq, Nat.reduceDiv, Nat.reduceMod, Int.reduceToNat, or_true, true_or, or_false, false_or, or_self, m_it, m_if, m_c1, m_01, m_02, m_03, m_04, m_10, m_12, m_13, m_14, m_20, m_21, m_23, m_24, m_30, m_31, m_32, m_34, m_40, m_41, m_42, m_43, Int.reduceLE, Int.reduceLT, Int.reduceGE, Int.reduceGT, Int.reduceNeg, Int.reduceAdd, Int.reduceSub, Int.reduceMul, Int.reduceEq, Int.reduceNe, Nat.reduceAdd, jun2, ro_0_0, ro_0_1, ro_0_2, ro_0_3, ro_0_4, ro_0_5, ro_0_6, ro_0_7, ro_0_8, ro_0_9, ro_0_10, ro_0_11, ro_0_12, ro_1_0, ro_1_1, ro_2_0, ro_4_0, ro_6_0, ro_6_1, ro_6_2, ro_6_3, ro_6_4, ro_6_5, ro_6_6, ro_6_7, ro_6_8, ro_8_0, ro_10_0, ro_12_0, ro_14_0, ro_16_0, ro_18_0, ro_20_0, ro_22_0, ro_22_1, ro_22_2, ro_23_0, ro_25_0, ro_27_0, ro_29_0, ro_29_1, ro_29_2, ro_29_3, ro_29_4, ro_29_5, ro_29_6, ro_29_7, ro_29_8, ro_31_0, ro_33_0, ro_35_0, ro_37_0, ro_39_0, ro_41_0, ro_43_0, ro_45_0, ro_45_1, ro_45_2, ro_46_0, ro_48_0, ro_50_0, ro_52_0, ro_52_1, ro_52_2, ro_52_3, ro_53_0, ro_55_0, ro_57_0, ro_59_0, ro_61_0, ro_61_1, ro_61_2, ro_61_3, ro_62_0, ro_64_0, ro_66_0, ro_68_0, ro_70_0, ro_70_1, ro_70_2, ro_70_3, ro_70_4, ro_70_5, ro_70_6, ro_70_7, ro_70_8, ro_70_9, ro_71_0, ro_73_0, ro_75_0, ro_77_0, ro_79_0, ro_81_0, ro_83_0, ro_85_0, ro_87_0, ro_89_0, ro_91_0, ro_91_1, ro_91_2, ro_91_3, ro_91_4, ro_91_5, ro_91_6, ro_91_7, ro_91_8, ro_91_9, ro_92_0, ro_94_0, ro_96_0, ro_98_0, ro_100_0, ro_102_0, ro_104_0, ro_106_0, ro_108_0, ro_110_0, ro_112_0, ro_112_1, ro_112_2, ro_112_3, ro_112_4, ro_112_5, ro_112_6, ro_112_7, ro_112_8, ro_112_9, ro_113_0, ro_115_0, ro_117_0, ro_119_0, ro_121_0, ro_123_0, ro_125_0, ro_127_0, ro_129_0, ro_131_0, ro_133_0, ro_133_1, ro_133_2, ro_133_3, ro_133_4, ro_133_5, ro_133_6, ro_133_7, ro_133_8, ro_133_9, ro_134_0, ro_136_0, ro_138_0, ro_140_0, ro_142_0, ro_144_0, ro_146_0, ro_148_0, ro_150_0, ro_152_0, ro_154_0, ro_155_0, ro_157_0, ro_157_1, ro_157_2, ro_157_3, ro_157_4, ro_157_5, ro_157_6, ro_157_7, ro_157_8, ro_157_9, ro_158_0, ro_160_0, ro_162_0, ro_164_0, ro_166_0, ro_168_0, ro_170_0, ro_172_0, ro_174_0, ro_176_0, ro_178_0, ro_180_0, ro_182_1, ro_182_4, ro_182_5, ro_182_6, ro_182_9, ro_182_10, ro_182_11, ro_182_13, ro_182_14, ro_182_15, ro_182_16, ro_182_17, ro_182_20, ro_182_21, ro_182_22, ro_182_23, ro_182_24, ro_182_26, ro_182_27, ro_182_28, lo_3, lo_5, lo_7, lo_9, lo_11, lo_13, lo_15, lo_17, lo_19, lo_21, lo_24, lo_26, lo_28, lo_30, lo_32, lo_34, lo_36, lo_38, lo_40, lo_42, lo_44, lo_47, lo_49, lo_51, lo_54, lo_56, lo_58, lo_60, lo_63, lo_65, lo_67, lo_69, lo_72, lo_74, lo_76, lo_78, lo_80, lo_82, lo_84, lo_86, lo_88, lo_90, lo_93, lo_95, lo_97, lo_99, lo_101, lo_103, lo_105, lo_107, lo_109, lo_111, lo_114, lo_116, lo_118, lo_120, lo_122, lo_124, lo_126, lo_128, lo_130, lo_132, lo_135, lo_137, lo_139, lo_141, lo_143, lo_145, lo_147, lo_149, lo_151, lo_153, lo_156, lo_159, lo_161, lo_163, lo_165, lo_167, lo_169, lo_171, lo_173, lo_175, lo_177, lo_179, lo_181, lo_183, lo_184, lo_185, lo_186, lo_187, lo_188, lo_189, lo_190, lo_191, lo_192, lo_193, lo_194, lo_195, lo_196, lo_197, lo_198, lo_199, lo_200, lo_201, lo_202, lo_203, jp_nn, jp_eq, jp_e1, Classical.not_not, ji0, ji1, ji2, cs42_225, kk_225, cs42_227, kk_227, cs42_228, kk_228, cs42_230, kk_230, cs42_256, kk_256, cs42_254, kk_254f, cs42_257, kk_257f, cs42_269, kk_269, jl_0, jl_1, jl_2, jl_3, jl_4, jl_5, jl_6, jl_7, jl_8, jl_9, jl_10, jl_11, jl_12, jl_13, jl_14, jl_15, jl_16, jl_17, jl_18, jl_19, jl_20, jl_21, jl_22, jl_23, jl_24, jl_25, jl_26, jl_27, jl_28, jl_29, jl_30, jl_31, jl_32, jl_33, jl_34, jl_35, jl_36, jl_37, jl_38, jl_39, jl_40, jl_95, jl_96, jl_97, jl_98, jl_99, jl_100, jl_101, jl_102, jl_103, jl_104, jl_105, jl_106, jl_107, jl_108, jl_109, jl_110, jl_111, jl_112, jl_113, jl_114, jl_186, jl_1100, jr, ju, jpT, jpF, tnc, Nat.reduceEqDiff, reduceIte, and_false, false_and, not_true_eq_false, not_false_eq_true, or_false, gt_iff_lt, ge_iff_le, Int.lt_irrefl, Int.le_refl, eS3, yu, yu2, ek]
          intro _ h4 f4_w _
          have r4' : h4 194 = h3 194 := s4_w f4_w
          have F4 : Fr (m_W 270) h h4 := Fr.tr u2_w (sb_w f4_w)
          obtain ⟨sn, sn4, esn⟩ := hW (78 + (12 * m + s3_w)) (by omega) (by omega)
          obtain ⟨cn, cn4, ecn⟩ := hC m (by omega)
          refine ⟨0, m, s3_w, rfl, by decide, rfl, by omega, rfl, by omega, m, rfl, by omega, ?_⟩
          intros
          have e5_w : h4 194 (0 + (78 + (12 * m + s3_w))) = (sn : Int) := by
            rw [Nat.zero_add, r4', u3 _ (by omega)]
            exact esn
          have e6_w : h4 188 (74 + 3 * m) = (cn : Int) := by
            rw [s8 F4]
            exact ecn
          have ac4 : ACt h4 := by
            obtain ⟨n, f, a1_w, a2, a3⟩ := u4_w
            exact ⟨n, f, by rw [r4']; exact a1_w, fun k z => by rw [r4']; exact a2 k z, a3⟩
          refine ⟨sn, cn, e5_w, sn4, e6_w, cn4, ac4, fun h5 f5_w ac5 => ⟨s3_w + 1, rfl, by omega, ?_, fun q z => ?_, ac5⟩⟩
          · refine Fr.tr F4 (fun o k a b => f5_w o k (fun z => ?_))
            rw [z.1] at b
            exact absurd b (by decide)
          · rw [f5_w 194 q (by omega), r4']
            exact u3 q z
        · have yu2 : (S : Int) ≤ (s3_w : Int) := by omega
          have ek := jk1 (k := m) (by omega)
          simp only [qe_1, qe_3, qe_4, qe_5, qe_7, qe_72, qe_10, qe_102, qe_13, qe_14, qe_15, qe_16, qe_17, qe_18, qe_20, qe_22, qe_23, qe_21, qe_24, qe_25, qe_26, qe_27, qe_28, qe_30, qe_31, qe_32, qc_20, qc_22, qc_23, qc_21, qc_24, qc_25, qc_26, qc_27, qc_1, qc_3, qc_4, qc_7, qc_13, qc_28, qc_32, qs_1, qs_2, qs_3, qs_4, qs_5, qs_6, qs_9, qs_10, qs_11, qs_14, qs_15, qs_16, qs_27, qs_17, qs_18, qs_19, qs_20, qs_22, qs_23, qs_28, qs_25, qs_26, qs_7, qs_8, kc_1, kn_1, kc_2, kn_2, kc_3, kn_3, kc_4, kn_4, kc_5, kn_5, kc_6, kn_6, kc_7, kn_7, kc_8, kn_8, kc_9, kn_9, kc_10, kn_10, kc_11, kn_11, kc_12, kn_12, kc_13, kn_13, kc_14, kn_14, kc_15, kn_15, kc_16, kc_17, kc_18, kc_19, kc_20, kc_21, kc_22, kc_23, kc_30, kc_32, kc_40, kc_43, kc_45, kc_48, kc_52, kc_56, kc_57, kc_59, kc_60, kc_61, kc_63, kc_64, kc_72, kc_78, kc_97, kc_99, kc_122, kc_126, kc_128, kc_192, kc_200, kc_255, kc_999, kc_1000, kc_9999, kn_9999, kc_10000, kc_12345, kc_65536, kc_252645135, kc_858993459, kc_1103515245, kc_1431655765, kc_2147483647, kc_0, kc_24, kc_28, kc_37, kc_41, kc_42, kc_73, kc_91, kc_95, kc_96, kc_98, kc_100, kc_112, kc_125, kc_150, kc_162, kc_163, kc_168, kc_186, kc_190, kc_250, kc_355, kc_356, kc_404, kc_405, kc_429, kc_573, kc_1002, kc_1100, kc_1891, kc_2200, kc_4719, kc_4869, kc_4881, kc_5148, kc_19741, kc_25433, kc_320403, kc_628412, kc_629093, kc_660401, kc_679843, kc_918640, kc_979410, kc_1178088, kc_6232410, kc_24644941, kc_36238189, kc_38270444, kc_392531318, kc_425693491, kc_1342154595, kc_2147483648, kc_42328242873, kc_891704255789, kc_1722105685577, kc_1858726030364, ct_0, ct_1, ct_2, ct_3, ct_4, ct_5, cf_0, cf_1, cf_2, cf_3, cf_4, cf_5, w_ty6, w_ty7, m_sv, m_z0, m_hd, m_g0, m_gs, m_s0, m_ss, m_ap, m_an, forall_const, true_and, and_true, ne_eq, not_true_eq_false, not_false_eq_true, false_implies, true_implies, implies_true, eq_self, reduceCtorEq, Nat.reduceDiv, Nat.reduceMod, Int.reduceToNat, or_true, true_or, or_false, false_or, or_self, m_it, m_if, m_c1, m_01, m_02, m_03, m_04, m_10, m_12, m_13, m_14, m_20, m_21, m_23, m_24, m_30, m_31, m_32, m_34, m_40, m_41, m_42, m_43, Int.reduceLE, Int.reduceLT, Int.reduceGE, Int.reduceGT, Int.reduceNeg, Int.reduceAdd, Int.reduceSub, Int.reduceMul, Int.reduceEq, Int.reduceNe, Nat.reduceAdd, jun2, ro_0_0, ro_0_1, ro_0_2, ro_0_3, ro_0_4, ro_0_5, ro_0_6, ro_0_7, ro_0_8, ro_0_9, ro_0_10, ro_0_11, ro_0_12, ro_1_0, ro_1_1, ro_2_0, ro_4_0, ro_6_0, ro_6_1, ro_6_2, ro_6_3, ro_6_4, ro_6_5, ro_6_6, ro_6_7, ro_6_8, ro_8_0, ro_10_0, ro_12_0, ro_14_0, ro_16_0, ro_18_0, ro_20_0, ro_22_0, ro_22_1, ro_22_2, ro_23_0, ro_25_0, ro_27_0, ro_29_0, ro_29_1, ro_29_2, ro_29_3, ro_29_4, ro_29_5, ro_29_6, ro_29_7, ro_29_8, ro_31_0, ro_33_0, ro_35_0, ro_37_0, ro_39_0, ro_41_0, ro_43_0, ro_45_0, ro_45_1, ro_45_2, ro_46_0, ro_48_0, ro_50_0, ro_52_0, ro_52_1, ro_52_2, ro_52_3, ro_53_0, ro_55_0, ro_57_0, ro_59_0, ro_61_0, ro_61_1, ro_61_2, ro_61_3, ro_62_0, ro_64_0, ro_66_0, ro_68_0, ro_70_0, ro_70_1, ro_70_2, ro_70_3, ro_70_4, ro_70_5, ro_70_6, ro_70_7, ro_70_8, ro_70_9, ro_71_0, ro_73_0, ro_75_0, ro_77_0, ro_79_0, ro_81_0, ro_83_0, ro_85_0, ro_87_0, ro_89_0, ro_91_0, ro_91_1, ro_91_2, ro_91_3, ro_91_4, ro_91_5, ro_91_6, ro_91_7, ro_91_8, ro_91_9, ro_92_0, ro_94_0, ro_96_0, ro_98_0, ro_100_0, ro_102_0, ro_104_0, ro_106_0, ro_108_0, ro_110_0, ro_112_0, ro_112_1, ro_112_2, ro_112_3, ro_112_4, ro_112_5, ro_112_6, ro_112_7, ro_112_8, ro_112_9, ro_113_0, ro_115_0, ro_117_0, ro_119_0, ro_121_0, ro_123_0, ro_125_0, ro_127_0, ro_129_0, ro_131_0, ro_133_0, ro_133_1, ro_133_2, ro_133_3, ro_133_4, ro_133_5, ro_133_6, ro_133_7, ro_133_8, ro_133_9, ro_134_0, ro_136_0, ro_138_0, ro_140_0, ro_142_0, ro_144_0, ro_146_0, ro_148_0, ro_150_0, ro_152_0, ro_154_0, ro_155_0, ro_157_0, ro_157_1, ro_157_2, ro_157_3, ro_157_4, ro_157_5, ro_157_6, ro_157_7, ro_157_8, ro_157_9, ro_158_0, ro_160_0, ro_162_0, ro_164_0, ro_166_0, ro_168_0, ro_170_0, ro_172_0, ro_174_0, ro_176_0, ro_178_0, ro_180_0, ro_182_1, ro_182_4, ro_182_5, ro_182_6, ro_182_9, ro_182_10, ro_182_11, ro_182_13, ro_182_14, ro_182_15, ro_182_16, ro_182_17, ro_182_20, ro_182_21, ro_182_22, ro_182_23, ro_182_24, ro_182_26, ro_182_27, ro_182_28, lo_3, lo_5, lo_7, lo_9, lo_11, lo_13, lo_15, lo_17, lo_19, lo_21, lo_24, lo_26, lo_28, lo_30, lo_32, lo_34, lo_36, lo_38, lo_40, lo_42, lo_44, lo_47, lo_49, lo_51, lo_54, lo_56, lo_58, lo_60, lo_63, lo_65, lo_67, lo_69, lo_72, lo_74, lo_76, lo_78, lo_80, lo_82, lo_84, lo_86, lo_88, lo_90, lo_93, lo_95, lo_97, lo_99, lo_101, lo_103, lo_105, lo_107, lo_109, lo_111, lo_114, lo_116, lo_118, lo_120, lo_122, lo_124, lo_126, lo_128, lo_130, lo_132, lo_135, lo_137, lo_139, lo_141, lo_143, lo_145, lo_147, lo_149, lo_151, lo_153, lo_156, lo_159, lo_161, lo_163, lo_165, lo_167, lo_169, lo_171, lo_173, lo_175, lo_177, lo_179, lo_181, lo_183, lo_184, lo_185, lo_186, lo_187, lo_188, lo_189, lo_190, lo_191, lo_192, lo_193, lo_194, lo_195, lo_196, lo_197, lo_198, lo_199, lo_200, lo_201, lo_202, lo_203, jp_nn, jp_eq, jp_e1, Classical.not_not, ji0, ji1, ji2, cs42_225, kk_225, cs42_227, kk_227, cs42_228, kk_228, cs42_230, kk_230, cs42_256, kk_256, cs42_254, kk_254f, cs42_257, kk_257f, cs42_269, kk_269, jl_0, jl_1, jl_2, jl_3, jl_4, jl_5, jl_6, jl_7, jl_8, jl_9, jl_10, jl_11, jl_12, jl_13, jl_14, jl_15, jl_16, jl_17, jl_18, jl_19, jl_20, jl_21, jl_22, jl_23, jl_24, jl_25, jl_26, jl_27, jl_28, jl_29, jl_30, jl_31, jl_32, jl_33, jl_34, jl_35, jl_36, jl_37, jl_38, jl_39, jl_40, jl_95, jl_96, jl_97, jl_98, jl_99, jl_100, jl_101, jl_102, jl_103, jl_104, jl_105, jl_106, jl_107, jl_108, jl_109, jl_110, jl_111, jl_112, jl_113, jl_114, jl_186, jl_1100, jr, ju, jpT, jpF, tnc, Nat.reduceEqDiff, reduceIte, and_false, false_and, not_true_eq_false, not_false_eq_true, or_false, gt_iff_lt, ge_iff_le, Int.lt_irrefl, Int.le_refl, eS3, yu, yu2, ek]
          exact ⟨m + 1, _, rfl, by omega, u2_w, u3, u4_w⟩
      · have ym2 : (M : Int) ≤ (m : Int) := by omega
        have e7_w : h2 194 162 = (r : Int) := (m3_w 162 (by omega)).trans er
        have ek := jk1 (k := r) (by omega)
        simp only [qe_1, qe_3, qe_4, qe_5, qe_7, qe_72, qe_10, qe_102, qe_13, qe_14, qe_15, qe_16, qe_17, qe_18, qe_20, qe_22, qe_23, qe_21, qe_24, qe_25, qe_26, qe_27, qe_28, qe_30, qe_31, qe_32, qc_20, qc_22, qc_23, qc_21, qc_24, qc_25, qc_26, qc_27, qc_1, qc_3, qc_4, qc_7, qc_13, qc_28, qc_32, qs_1, qs_2, qs_3, qs_4, qs_5, qs_6, qs_9, qs_10, qs_11, qs_14, qs_15, qs_16, qs_27, qs_17, qs_18, qs_19, qs_20, qs_22, qs_23, qs_28, qs_25, qs_26, qs_7, qs_8, kc_1, kn_1, kc_2, kn_2, kc_3, kn_3, kc_4, kn_4, kc_5, kn_5, kc_6, kn_6, kc_7, kn_7, kc_8, kn_8, kc_9, kn_9, kc_10, kn_10, kc_11, kn_11, kc_12, kn_12, kc_13, kn_13, kc_14, kn_14, kc_15, kn_15, kc_16, kc_17, kc_18, kc_19, kc_20, kc_21, kc_22, kc_23, kc_30, kc_32, kc_40, kc_43, kc_45, kc_48, kc_52, kc_56, kc_57, kc_59, kc_60, kc_61, kc_63, kc_64, kc_72, kc_78, kc_97, kc_99, kc_122, kc_126, kc_128, kc_192, kc_200, kc_255, kc_999, kc_1000, kc_9999, kn_9999, kc_10000, kc_12345, kc_65536, kc_252645135, kc_858993459, kc_1103515245, kc_1431655765, kc_2147483647, kc_0, kc_24, kc_28, kc_37, kc_41, kc_42, kc_73, kc_91, kc_95, kc_96, kc_98, kc_100, kc_112, kc_125, kc_150, kc_162, kc_163, kc_168, kc_186, kc_190, kc_250, kc_355, kc_356, kc_404, kc_405, kc_429, kc_573, kc_1002, kc_1100, kc_1891, kc_2200, kc_4719, kc_4869, kc_4881, kc_5148, kc_19741, kc_25433, kc_320403, kc_628412, kc_629093, kc_660401, kc_679843, kc_918640, kc_979410, kc_1178088, kc_6232410, kc_24644941, kc_36238189, kc_38270444, kc_392531318, kc_425693491, kc_1342154595, kc_2147483648, kc_42328242873, kc_891704255789, kc_1722105685577, kc_1858726030364, ct_0, ct_1, ct_2, ct_3, ct_4, ct_5, cf_0, cf_1, cf_2, cf_3, cf_4, cf_5, w_ty6, w_ty7, m_sv, m_z0, m_hd, m_g0, m_gs, m_s0, m_ss, m_ap, m_an, forall_const, true_and, and_true, ne_eq, not_true_eq_false, not_false_eq_true, false_implies, true_implies, implies_true, eq_self, reduceCtorEq, Nat.reduceDiv, Nat.reduceMod, Int.reduceToNat, or_true, true_or, or_false, false_or, or_self, m_it, m_if, m_c1, m_01, m_02, m_03, m_04, m_10, m_12, m_13, m_14, m_20, m_21, m_23, m_24, m_30, m_31, m_32, m_34, m_40, m_41, m_42, m_43, Int.reduceLE, Int.reduceLT, Int.reduceGE, Int.reduceGT, Int.reduceNeg, Int.reduceAdd, Int.reduceSub, Int.reduceMul, Int.reduceEq, Int.reduceNe, Nat.reduceAdd, jun2, ro_0_0, ro_0_1, ro_0_2, ro_0_3, ro_0_4, ro_0_5, ro_0_6, ro_0_7, ro_0_8, ro_0_9, ro_0_10, ro_0_11, ro_0_12, ro_1_0, ro_1_1, ro_2_0, ro_4_0, ro_6_0, ro_6_1, ro_6_2, ro_6_3, ro_6_4, ro_6_5, ro_6_6, ro_6_7, ro_6_8, ro_8_0, ro_10_0, ro_12_0, ro_14_0, ro_16_0, ro_18_0, ro_20_0, ro_22_0, ro_22_1, ro_22_2, ro_23_0, ro_25_0, ro_27_0, ro_29_0, ro_29_1, ro_29_2, ro_29_3, ro_29_4, ro_29_5, ro_29_6, ro_29_7, ro_29_8, ro_31_0, ro_33_0, ro_35_0, ro_37_0, ro_39_0, ro_41_0, ro_43_0, ro_45_0, ro_45_1, ro_45_2, ro_46_0, ro_48_0, ro_50_0, ro_52_0, ro_52_1, ro_52_2, ro_52_3, ro_53_0, ro_55_0, ro_57_0, ro_59_0, ro_61_0, ro_61_1, ro_61_2, ro_61_3, ro_62_0, ro_64_0, ro_66_0, ro_68_0, ro_70_0, ro_70_1, ro_70_2, ro_70_3, ro_70_4, ro_70_5, ro_70_6, ro_70_7, ro_70_8, ro_70_9, ro_71_0, ro_73_0, ro_75_0, ro_77_0, ro_79_0, ro_81_0, ro_83_0, ro_85_0, ro_87_0, ro_89_0, ro_91_0, ro_91_1, ro_91_2, ro_91_3, ro_91_4, ro_91_5, ro_91_6, ro_91_7, ro_91_8, ro_91_9, ro_92_0, ro_94_0, ro_96_0, ro_98_0, ro_100_0, ro_102_0, ro_104_0, ro_106_0, ro_108_0, ro_110_0, ro_112_0, ro_112_1, ro_112_2, ro_112_3, ro_112_4, ro_112_5, ro_112_6, ro_112_7, ro_112_8, ro_112_9, ro_113_0, ro_115_0, ro_117_0, ro_119_0, ro_121_0, ro_123_0, ro_125_0, ro_127_0, ro_129_0, ro_131_0, ro_133_0, ro_133_1, ro_133_2, ro_133_3, ro_133_4, ro_133_5, ro_133_6, ro_133_7, ro_133_8, ro_133_9, ro_134_0, ro_136_0, ro_138_0, ro_140_0, ro_142_0, ro_144_0, ro_146_0, ro_148_0, ro_150_0, ro_152_0, ro_154_0, ro_155_0, ro_157_0, ro_157_1, ro_157_2, ro_157_3, ro_157_4, ro_157_5, ro_157_6, ro_157_7, ro_157_8, ro_157_9, ro_158_0, ro_160_0, ro_162_0, ro_164_0, ro_166_0, ro_168_0, ro_170_0, ro_172_0, ro_174_0, ro_176_0, ro_178_0, ro_180_0, ro_182_1, ro_182_4, ro_182_5, ro_182_6, ro_182_9, ro_182_10, ro_182_11, ro_182_13, ro_182_14, ro_182_15, ro_182_16, ro_182_17, ro_182_20, ro_182_21, ro_182_22, ro_182_23, ro_182_24, ro_182_26, ro_182_27, ro_182_28, lo_3, lo_5, lo_7, lo_9, lo_11, lo_13, lo_15, lo_17, lo_19, lo_21, lo_24, lo_26, lo_28, lo_30, lo_32, lo_34, lo_36, lo_38, lo_40, lo_42, lo_44, lo_47, lo_49, lo_51, lo_54, lo_56, lo_58, lo_60, lo_63, lo_65, lo_67, lo_69, lo_72, lo_74, lo_76, lo_78, lo_80, lo_82, lo_84, lo_86, lo_88, lo_90, lo_93, lo_95, lo_97, lo_99, lo_101, lo_103, lo_105, lo_107, lo_109, lo_111, lo_114, lo_116, lo_118, lo_120, lo_122, lo_124, lo_126, lo_128, lo_130, lo_132, lo_135, lo_137, lo_139, lo_141, lo_143, lo_145, lo_147, lo_149, lo_151, lo_153, lo_156, lo_159, lo_161, lo_163, lo_165, lo_167, lo_169, lo_171, lo_173, lo_175, lo_177, lo_179, lo_181, lo_183, lo_184, lo_185, lo_186, lo_187, lo_188, lo_189, lo_190, lo_191, lo_192, lo_193, lo_194, lo_195, lo_196, lo_197, lo_198, lo_199, lo_200, lo_201, lo_202, lo_203, jp_nn, jp_eq, jp_e1, Classical.not_not, ji0, ji1, ji2, cs42_225, kk_225, cs42_227, kk_227, cs42_228, kk_228, cs42_230, kk_230, cs42_256, kk_256, cs42_254, kk_254f, cs42_257, kk_257f, cs42_269, kk_269, jl_0, jl_1, jl_2, jl_3, jl_4, jl_5, jl_6, jl_7, jl_8, jl_9, jl_10, jl_11, jl_12, jl_13, jl_14, jl_15, jl_16, jl_17, jl_18, jl_19, jl_20, jl_21, jl_22, jl_23, jl_24, jl_25, jl_26, jl_27, jl_28, jl_29, jl_30, jl_31, jl_32, jl_33, jl_34, jl_35, jl_36, jl_37, jl_38, jl_39, jl_40, jl_95, jl_96, jl_97, jl_98, jl_99, jl_100, jl_101, jl_102, jl_103, jl_104, jl_105, jl_106, jl_107, jl_108, jl_109, jl_110, jl_111, jl_112, jl_113, jl_114, jl_186, jl_1100, jr, ju, jpT, jpF, tnc, Nat.reduceEqDiff, reduceIte, and_false, false_and, not_true_eq_false, not_false_eq_true, or_false, gt_iff_lt, ge_iff_le, Int.lt_irrefl, Int.le_refl, eM2, ym, ym2, j162, e7_w, ek]
        intros
        refine hQ _ (Fr.tr m2_w (Fr.arr rfl)) (fun q z => ?_) up_eq
        rw [up_ne (by omega)]
        exact m3_w q (by omega)
  · exact hQ.elim
theorem snd_42 {xs : Nat → Int} {L K : Nat} : ∀ n, SndC CS42 (evF xs L g_ck K g_cW g_M n) := snd_all snd_39 (fun f av h Q hQ => by
  unfold CS42 at hQ
  split at hQ
  · exact Or.inr m_270
  · exact Or.inl hQ)
def CS43 : CSt := fun f => match f with
  | 271 => k271
  | _ => CS42 f
theorem cs43_54 {av : List Int} {h : XH} {Q : Nat → List Int → XH → Prop} : CS43 54 av h Q = k54 av h Q := id rfl
theorem cs43_55 {av : List Int} {h : XH} {Q : Nat → List Int → XH → Prop} : CS43 55 av h Q = k55 av h Q := id rfl
theorem cs43_68 {av : List Int} {h : XH} {Q : Nat → List Int → XH → Prop} : CS43 68 av h Q = k68 av h Q := id rfl
theorem cs43_69 {av : List Int} {h : XH} {Q : Nat → List Int → XH → Prop} : CS43 69 av h Q = k69 av h Q := id rfl
theorem cs43_70 {av : List Int} {h : XH} {Q : Nat → List Int → XH → Prop} : CS43 70 av h Q = k70 av h Q := id rfl
theorem cs43_71 {av : List Int} {h : XH} {Q : Nat → List Int → XH → Prop} : CS43 71 av h Q = k71 av h Q := id rfl
theorem cs43_72 {av : List Int} {h : XH} {Q : Nat → List Int → XH → Prop} : CS43 72 av h Q = k72 av h Q := id rfl
theorem cs43_73 {av : List Int} {h : XH} {Q : Nat → List Int → XH → Prop} : CS43 73 av h Q = k73 av h Q := id rfl
theorem cs43_74 {av : List Int} {h : XH} {Q : Nat → List Int → XH → Prop} : CS43 74 av h Q = k74 av h Q := id rfl
theorem cs43_75 {av : List Int} {h : XH} {Q : Nat → List Int → XH → Prop} : CS43 75 av h Q = k75 av h Q := id rfl
theorem cs43_186 {av : List Int} {h : XH} {Q : Nat → List Int → XH → Prop} : CS43 186 av h Q = k186 av h Q := id rfl
theorem cs43_187 {av : List Int} {h : XH} {Q : Nat → List Int → XH → Prop} : CS43 187 av h Q = k187 av h Q := id rfl
theorem cs43_188 {av : List Int} {h : XH} {Q : Nat → List Int → XH → Prop} : CS43 188 av h Q = k188 av h Q := id rfl
theorem cs43_189 {av : List Int} {h : XH} {Q : Nat → List Int → XH → Prop} : CS43 189 av h Q = k189 av h Q := id rfl
theorem cs43_191 {av : List Int} {h : XH} {Q : Nat → List Int → XH → Prop} : CS43 191 av h Q = k191 av h Q := id rfl
theorem cs43_192 {av : List Int} {h : XH} {Q : Nat → List Int → XH → Prop} : CS43 192 av h Q = k192 av h Q := id rfl
theorem cs43_193 {av : List Int} {h : XH} {Q : Nat → List Int → XH → Prop} : CS43 193 av h Q = k193 av h Q := id rfl
theorem cs43_198 {av : List Int} {h : XH} {Q : Nat → List Int → XH → Prop} : CS43 198 av h Q = k198 av h Q := id rfl
theorem cs43_207 {av : List Int} {h : XH} {Q : Nat → List Int → XH → Prop} : CS43 207 av h Q = k207 av h Q := id rfl
theorem cs43_195 {av : List Int} {h : XH} {Q : Nat → List Int → XH → Prop} : CS43 195 av h Q = k195 av h Q := id rfl
theorem cs43_196 {av : List Int} {h : XH} {Q : Nat → List Int → XH → Prop} : CS43 196 av h Q = k196 av h Q := id rfl
theorem cs43_201 {av : List Int} {h : XH} {Q : Nat → List Int → XH → Prop} : CS43 201 av h Q = k201 av h Q := id rfl
theorem cs43_203 {av : List Int} {h : XH} {Q : Nat → List Int → XH → Prop} : CS43 203 av h Q = k203 av h Q := id rfl
theorem cs43_204 {av : List Int} {h : XH} {Q : Nat → List Int → XH → Prop} : CS43 204 av h Q = k204 av h Q := id rfl
theorem cs43_194 {av : List Int} {h : XH} {Q : Nat → List Int → XH → Prop} : CS43 194 av h Q = k194 av h Q := id rfl
theorem cs43_197 {av : List Int} {h : XH} {Q : Nat → List Int → XH → Prop} : CS43 197 av h Q = k197 av h Q := id rfl
theorem cs43_200 {av : List Int} {h : XH} {Q : Nat → List Int → XH → Prop} : CS43 200 av h Q = k200 av h Q := id rfl
theorem cs43_202 {av : List Int} {h : XH} {Q : Nat → List Int → XH → Prop} : CS43 202 av h Q = k202 av h Q := id rfl
theorem cs43_205 {av : List Int} {h : XH} {Q : Nat → List Int → XH → Prop} : CS43 205 av h Q = k205 av h Q := id rfl
theorem cs43_208 {av : List Int} {h : XH} {Q : Nat → List Int → XH → Prop} : CS43 208 av h Q = k208 av h Q := id rfl
theorem cs43_209 {av : List Int} {h : XH} {Q : Nat → List Int → XH → Prop} : CS43 209 av h Q = k209 av h Q := id rfl
theorem cs43_211 {av : List Int} {h : XH} {Q : Nat → List Int → XH → Prop} : CS43 211 av h Q = k211 av h Q := id rfl
theorem cs43_216 {av : List Int} {h : XH} {Q : Nat → List Int → XH → Prop} : CS43 216 av h Q = k216 av h Q := id rfl
theorem cs43_217 {av : List Int} {h : XH} {Q : Nat → List Int → XH → Prop} : CS43 217 av h Q = k217 av h Q := id rfl
theorem cs43_218 {av : List Int} {h : XH} {Q : Nat → List Int → XH → Prop} : CS43 218 av h Q = k218 av h Q := id rfl
theorem cs43_219 {av : List Int} {h : XH} {Q : Nat → List Int → XH → Prop} : CS43 219 av h Q = k219 av h Q := id rfl
theorem cs43_220 {av : List Int} {h : XH} {Q : Nat → List Int → XH → Prop} : CS43 220 av h Q = k220 av h Q := id rfl
theorem cs43_221 {av : List Int} {h : XH} {Q : Nat → List Int → XH → Prop} : CS43 221 av h Q = k221 av h Q := id rfl
theorem cs43_210 {av : List Int} {h : XH} {Q : Nat → List Int → XH → Prop} : CS43 210 av h Q = k210 av h Q := id rfl
theorem cs43_212 {av : List Int} {h : XH} {Q : Nat → List Int → XH → Prop} : CS43 212 av h Q = k212 av h Q := id rfl
theorem cs43_213 {av : List Int} {h : XH} {Q : Nat → List Int → XH → Prop} : CS43 213 av h Q = k213 av h Q := id rfl
theorem cs43_190 {av : List Int} {h : XH} {Q : Nat → List Int → XH → Prop} : CS43 190 av h Q = k190 av h Q := id rfl
theorem cs43_199 {av : List Int} {h : XH} {Q : Nat → List Int → XH → Prop} : CS43 199 av h Q = k199 av h Q := id rfl
theorem cs43_225 {av : List Int} {h : XH} {Q : Nat → List Int → XH → Prop} : CS43 225 av h Q = k225 av h Q := id rfl
theorem cs43_226 {av : List Int} {h : XH} {Q : Nat → List Int → XH → Prop} : CS43 226 av h Q = k226 av h Q := id rfl
theorem cs43_227 {av : List Int} {h : XH} {Q : Nat → List Int → XH → Prop} : CS43 227 av h Q = k227 av h Q := id rfl
theorem cs43_228 {av : List Int} {h : XH} {Q : Nat → List Int → XH → Prop} : CS43 228 av h Q = k228 av h Q := id rfl
theorem cs43_333 {av : List Int} {h : XH} {Q : Nat → List Int → XH → Prop} : CS43 333 av h Q = k333 av h Q := id rfl
theorem cs43_67 {av : List Int} {h : XH} {Q : Nat → List Int → XH → Prop} : CS43 67 av h Q = k67 av h Q := id rfl
theorem cs43_65 {av : List Int} {h : XH} {Q : Nat → List Int → XH → Prop} : CS43 65 av h Q = k65 av h Q := id rfl
theorem cs43_66 {av : List Int} {h : XH} {Q : Nat → List Int → XH → Prop} : CS43 66 av h Q = k66 av h Q := id rfl
theorem cs43_64 {av : List Int} {h : XH} {Q : Nat → List Int → XH → Prop} : CS43 64 av h Q = k64 av h Q := id rfl
theorem cs43_63 {av : List Int} {h : XH} {Q : Nat → List Int → XH → Prop} : CS43 63 av h Q = k63 av h Q := id rfl
theorem cs43_77 {av : List Int} {h : XH} {Q : Nat → List Int → XH → Prop} : CS43 77 av h Q = k77 av h Q := id rfl
theorem cs43_76 {av : List Int} {h : XH} {Q : Nat → List Int → XH → Prop} : CS43 76 av h Q = k76 av h Q := id rfl
theorem cs43_133 {av : List Int} {h : XH} {Q : Nat → List Int → XH → Prop} : CS43 133 av h Q = k133 av h Q := id rfl
theorem cs43_134 {av : List Int} {h : XH} {Q : Nat → List Int → XH → Prop} : CS43 134 av h Q = k134 av h Q := id rfl
theorem cs43_135 {av : List Int} {h : XH} {Q : Nat → List Int → XH → Prop} : CS43 135 av h Q = k135 av h Q := id rfl
theorem cs43_136 {av : List Int} {h : XH} {Q : Nat → List Int → XH → Prop} : CS43 136 av h Q = k136 av h Q := id rfl
theorem cs43_138 {av : List Int} {h : XH} {Q : Nat → List Int → XH → Prop} : CS43 138 av h Q = k138 av h Q := id rfl
theorem cs43_139 {av : List Int} {h : XH} {Q : Nat → List Int → XH → Prop} : CS43 139 av h Q = k139 av h Q := id rfl
theorem cs43_105 {av : List Int} {h : XH} {Q : Nat → List Int → XH → Prop} : CS43 105 av h Q = k105 av h Q := id rfl
theorem cs43_102 {av : List Int} {h : XH} {Q : Nat → List Int → XH → Prop} : CS43 102 av h Q = k102 av h Q := id rfl
theorem cs43_103 {av : List Int} {h : XH} {Q : Nat → List Int → XH → Prop} : CS43 103 av h Q = k103 av h Q := id rfl
theorem cs43_104 {av : List Int} {h : XH} {Q : Nat → List Int → XH → Prop} : CS43 104 av h Q = k104 av h Q := id rfl
theorem cs43_106 {av : List Int} {h : XH} {Q : Nat → List Int → XH → Prop} : CS43 106 av h Q = k106 av h Q := id rfl
theorem cs43_140 {av : List Int} {h : XH} {Q : Nat → List Int → XH → Prop} : CS43 140 av h Q = k140 av h Q := id rfl
theorem cs43_137 {av : List Int} {h : XH} {Q : Nat → List Int → XH → Prop} : CS43 137 av h Q = k137 av h Q := id rfl
theorem cs43_127 {av : List Int} {h : XH} {Q : Nat → List Int → XH → Prop} : CS43 127 av h Q = k127 av h Q := id rfl
theorem cs43_56 {av : List Int} {h : XH} {Q : Nat → List Int → XH → Prop} : CS43 56 av h Q = k56 av h Q := id rfl
theorem cs43_57 {av : List Int} {h : XH} {Q : Nat → List Int → XH → Prop} : CS43 57 av h Q = k57 av h Q := id rfl
theorem cs43_79 {av : List Int} {h : XH} {Q : Nat → List Int → XH → Prop} : CS43 79 av h Q = k79 av h Q := id rfl
theorem cs43_101 {av : List Int} {h : XH} {Q : Nat → List Int → XH → Prop} : CS43 101 av h Q = k101 av h Q := id rfl
theorem cs43_96 {av : List Int} {h : XH} {Q : Nat → List Int → XH → Prop} : CS43 96 av h Q = k96 av h Q := id rfl
theorem cs43_99 {av : List Int} {h : XH} {Q : Nat → List Int → XH → Prop} : CS43 99 av h Q = k99c av h Q := id rfl
theorem cs43_100 {av : List Int} {h : XH} {Q : Nat → List Int → XH → Prop} : CS43 100 av h Q = k100 av h Q := id rfl
theorem cs43_98 {av : List Int} {h : XH} {Q : Nat → List Int → XH → Prop} : CS43 98 av h Q = k98 av h Q := id rfl
theorem cs43_122 {av : List Int} {h : XH} {Q : Nat → List Int → XH → Prop} : CS43 122 av h Q = k122 av h Q := id rfl
theorem cs43_123 {av : List Int} {h : XH} {Q : Nat → List Int → XH → Prop} : CS43 123 av h Q = k123 av h Q := id rfl
theorem cs43_124 {av : List Int} {h : XH} {Q : Nat → List Int → XH → Prop} : CS43 124 av h Q = k124 av h Q := id rfl
theorem cs43_125 {av : List Int} {h : XH} {Q : Nat → List Int → XH → Prop} : CS43 125 av h Q = k125 av h Q := id rfl
theorem cs43_126 {av : List Int} {h : XH} {Q : Nat → List Int → XH → Prop} : CS43 126 av h Q = k126 av h Q := id rfl
theorem cs43_84 {av : List Int} {h : XH} {Q : Nat → List Int → XH → Prop} : CS43 84 av h Q = k84 av h Q := id rfl
theorem cs43_82 {av : List Int} {h : XH} {Q : Nat → List Int → XH → Prop} : CS43 82 av h Q = k82 av h Q := id rfl
theorem cs43_83 {av : List Int} {h : XH} {Q : Nat → List Int → XH → Prop} : CS43 83 av h Q = k83 av h Q := id rfl
theorem cs43_85 {av : List Int} {h : XH} {Q : Nat → List Int → XH → Prop} : CS43 85 av h Q = k85 av h Q := id rfl
theorem cs43_89 {av : List Int} {h : XH} {Q : Nat → List Int → XH → Prop} : CS43 89 av h Q = k89 av h Q := id rfl
theorem cs43_90 {av : List Int} {h : XH} {Q : Nat → List Int → XH → Prop} : CS43 90 av h Q = k90 av h Q := id rfl
theorem cs43_91 {av : List Int} {h : XH} {Q : Nat → List Int → XH → Prop} : CS43 91 av h Q = k91 av h Q := id rfl
theorem cs43_88 {av : List Int} {h : XH} {Q : Nat → List Int → XH → Prop} : CS43 88 av h Q = k88 av h Q := id rfl
theorem cs43_86 {av : List Int} {h : XH} {Q : Nat → List Int → XH → Prop} : CS43 86 av h Q = k86 av h Q := id rfl
theorem cs43_87 {av : List Int} {h : XH} {Q : Nat → List Int → XH → Prop} : CS43 87 av h Q = k87 av h Q := id rfl
theorem cs43_81 {av : List Int} {h : XH} {Q : Nat → List Int → XH → Prop} : CS43 81 av h Q = k81 av h Q := id rfl
theorem cs43_128 {av : List Int} {h : XH} {Q : Nat → List Int → XH → Prop} : CS43 128 av h Q = k128 av h Q := id rfl
theorem cs43_119 {av : List Int} {h : XH} {Q : Nat → List Int → XH → Prop} : CS43 119 av h Q = k119 av h Q := id rfl
theorem cs43_58 {av : List Int} {h : XH} {Q : Nat → List Int → XH → Prop} : CS43 58 av h Q = k58 av h Q := id rfl
theorem cs43_80 {av : List Int} {h : XH} {Q : Nat → List Int → XH → Prop} : CS43 80 av h Q = k80 av h Q := id rfl
theorem cs43_97 {av : List Int} {h : XH} {Q : Nat → List Int → XH → Prop} : CS43 97 av h Q = k97s av h Q := id rfl
theorem cs43_156 {av : List Int} {h : XH} {Q : Nat → List Int → XH → Prop} : CS43 156 av h Q = k156 av h Q := id rfl
theorem cs43_142 {av : List Int} {h : XH} {Q : Nat → List Int → XH → Prop} : CS43 142 av h Q = k142 av h Q := id rfl
theorem cs43_3 {av : List Int} {h : XH} {Q : Nat → List Int → XH → Prop} : CS43 3 av h Q = k3s av h Q := id rfl
theorem cs43_61 {av : List Int} {h : XH} {Q : Nat → List Int → XH → Prop} : CS43 61 av h Q = k61z av h Q := id rfl
theorem cs43_2 {av : List Int} {h : XH} {Q : Nat → List Int → XH → Prop} : CS43 2 av h Q = k2s av h Q := id rfl
theorem cs43_240 {av : List Int} {h : XH} {Q : Nat → List Int → XH → Prop} : CS43 240 av h Q = k240s av h Q := id rfl
theorem cs43_241 {av : List Int} {h : XH} {Q : Nat → List Int → XH → Prop} : CS43 241 av h Q = k241s av h Q := id rfl
theorem cs43_206 {av : List Int} {h : XH} {Q : Nat → List Int → XH → Prop} : CS43 206 av h Q = k206s av h Q := id rfl
theorem cs43_113 {av : List Int} {h : XH} {Q : Nat → List Int → XH → Prop} : CS43 113 av h Q = k113 av h Q := id rfl
theorem cs43_114 {av : List Int} {h : XH} {Q : Nat → List Int → XH → Prop} : CS43 114 av h Q = k114 av h Q := id rfl
theorem cs43_116 {av : List Int} {h : XH} {Q : Nat → List Int → XH → Prop} : CS43 116 av h Q = k116 av h Q := id rfl
theorem cs43_117 {av : List Int} {h : XH} {Q : Nat → List Int → XH → Prop} : CS43 117 av h Q = k117 av h Q := id rfl
theorem cs43_121 {av : List Int} {h : XH} {Q : Nat → List Int → XH → Prop} : CS43 121 av h Q = k121 av h Q := id rfl
theorem cs43_129 {av : List Int} {h : XH} {Q : Nat → List Int → XH → Prop} : CS43 129 av h Q = k129 av h Q := id rfl
theorem cs43_130 {av : List Int} {h : XH} {Q : Nat → List Int → XH → Prop} : CS43 130 av h Q = k130 av h Q := id rfl
theorem cs43_131 {av : List Int} {h : XH} {Q : Nat → List Int → XH → Prop} : CS43 131 av h Q = k131 av h Q := id rfl
theorem cs43_132 {av : List Int} {h : XH} {Q : Nat → List Int → XH → Prop} : CS43 132 av h Q = k132 av h Q := id rfl
theorem cs43_120 {av : List Int} {h : XH} {Q : Nat → List Int → XH → Prop} : CS43 120 av h Q = k120 av h Q := id rfl
theorem cs43_4 {av : List Int} {h : XH} {Q : Nat → List Int → XH → Prop} : CS43 4 av h Q = k4 av h Q := id rfl
theorem cs43_229 {av : List Int} {h : XH} {Q : Nat → List Int → XH → Prop} : CS43 229 av h Q = k229 av h Q := id rfl
theorem cs43_233 {av : List Int} {h : XH} {Q : Nat → List Int → XH → Prop} : CS43 233 av h Q = k233 av h Q := id rfl
theorem cs43_234 {av : List Int} {h : XH} {Q : Nat → List Int → XH → Prop} : CS43 234 av h Q = k234 av h Q := id rfl
theorem cs43_215 {av : List Int} {h : XH} {Q : Nat → List Int → XH → Prop} : CS43 215 av h Q = k215 av h Q := id rfl
theorem cs43_214 {av : List Int} {h : XH} {Q : Nat → List Int → XH → Prop} : CS43 214 av h Q = k214 av h Q := id rfl
theorem cs43_146 {av : List Int} {h : XH} {Q : Nat → List Int → XH → Prop} : CS43 146 av h Q = k146 av h Q := id rfl
theorem cs43_147 {av : List Int} {h : XH} {Q : Nat → List Int → XH → Prop} : CS43 147 av h Q = k147 av h Q := id rfl
theorem cs43_149 {av : List Int} {h : XH} {Q : Nat → List Int → XH → Prop} : CS43 149 av h Q = k149 av h Q := id rfl
theorem cs43_155 {av : List Int} {h : XH} {Q : Nat → List Int → XH → Prop} : CS43 155 av h Q = k155 av h Q := id rfl
theorem cs43_157 {av : List Int} {h : XH} {Q : Nat → List Int → XH → Prop} : CS43 157 av h Q = k157 av h Q := id rfl
theorem cs43_165 {av : List Int} {h : XH} {Q : Nat → List Int → XH → Prop} : CS43 165 av h Q = k165 av h Q := id rfl
theorem cs43_59 {av : List Int} {h : XH} {Q : Nat → List Int → XH → Prop} : CS43 59 av h Q = k59 av h Q := id rfl
theorem cs43_107 {av : List Int} {h : XH} {Q : Nat → List Int → XH → Prop} : CS43 107 av h Q = k107 av h Q := id rfl
theorem cs43_108 {av : List Int} {h : XH} {Q : Nat → List Int → XH → Prop} : CS43 108 av h Q = k108 av h Q := id rfl
theorem cs43_109 {av : List Int} {h : XH} {Q : Nat → List Int → XH → Prop} : CS43 109 av h Q = k109 av h Q := id rfl
theorem cs43_110 {av : List Int} {h : XH} {Q : Nat → List Int → XH → Prop} : CS43 110 av h Q = k110 av h Q := id rfl
theorem cs43_111 {av : List Int} {h : XH} {Q : Nat → List Int → XH → Prop} : CS43 111 av h Q = k111 av h Q := id rfl
theorem cs43_112 {av : List Int} {h : XH} {Q : Nat → List Int → XH → Prop} : CS43 112 av h Q = k112 av h Q := id rfl
theorem cs43_143 {av : List Int} {h : XH} {Q : Nat → List Int → XH → Prop} : CS43 143 av h Q = k143 av h Q := id rfl
theorem cs43_170 {av : List Int} {h : XH} {Q : Nat → List Int → XH → Prop} : CS43 170 av h Q = k170 av h Q := id rfl
theorem cs43_168 {av : List Int} {h : XH} {Q : Nat → List Int → XH → Prop} : CS43 168 av h Q = k168 av h Q := id rfl
theorem cs43_169 {av : List Int} {h : XH} {Q : Nat → List Int → XH → Prop} : CS43 169 av h Q = k169 av h Q := id rfl
theorem cs43_181 {av : List Int} {h : XH} {Q : Nat → List Int → XH → Prop} : CS43 181 av h Q = k181 av h Q := id rfl
theorem cs43_5 {av : List Int} {h : XH} {Q : Nat → List Int → XH → Prop} : CS43 5 av h Q = k5 av h Q := id rfl
theorem cs43_6 {av : List Int} {h : XH} {Q : Nat → List Int → XH → Prop} : CS43 6 av h Q = k6 av h Q := id rfl
theorem cs43_7 {av : List Int} {h : XH} {Q : Nat → List Int → XH → Prop} : CS43 7 av h Q = k7 av h Q := id rfl
theorem cs43_8 {av : List Int} {h : XH} {Q : Nat → List Int → XH → Prop} : CS43 8 av h Q = k8 av h Q := id rfl
theorem cs43_9 {av : List Int} {h : XH} {Q : Nat → List Int → XH → Prop} : CS43 9 av h Q = k9 av h Q := id rfl
theorem cs43_10 {av : List Int} {h : XH} {Q : Nat → List Int → XH → Prop} : CS43 10 av h Q = k10s av h Q := id rfl
theorem cs43_11 {av : List Int} {h : XH} {Q : Nat → List Int → XH → Prop} : CS43 11 av h Q = k11 av h Q := id rfl
theorem cs43_12 {av : List Int} {h : XH} {Q : Nat → List Int → XH → Prop} : CS43 12 av h Q = k12s av h Q := id rfl
theorem cs43_40 {av : List Int} {h : XH} {Q : Nat → List Int → XH → Prop} : CS43 40 av h Q = k40s av h Q := id rfl
theorem cs43_49 {av : List Int} {h : XH} {Q : Nat → List Int → XH → Prop} : CS43 49 av h Q = k49 av h Q := id rfl
theorem cs43_50 {av : List Int} {h : XH} {Q : Nat → List Int → XH → Prop} : CS43 50 av h Q = k50 av h Q := id rfl
theorem cs43_48 {av : List Int} {h : XH} {Q : Nat → List Int → XH → Prop} : CS43 48 av h Q = k48 av h Q := id rfl
theorem cs43_224 {av : List Int} {h : XH} {Q : Nat → List Int → XH → Prop} : CS43 224 av h Q = k224s av h Q := id rfl
theorem cs43_230 {av : List Int} {h : XH} {Q : Nat → List Int → XH → Prop} : CS43 230 av h Q = k230 av h Q := id rfl
theorem cs43_235 {av : List Int} {h : XH} {Q : Nat → List Int → XH → Prop} : CS43 235 av h Q = k235 av h Q := id rfl
theorem cs43_236 {av : List Int} {h : XH} {Q : Nat → List Int → XH → Prop} : CS43 236 av h Q = k236 av h Q := id rfl
theorem cs43_237 {av : List Int} {h : XH} {Q : Nat → List Int → XH → Prop} : CS43 237 av h Q = k237 av h Q := id rfl
theorem cs43_238 {av : List Int} {h : XH} {Q : Nat → List Int → XH → Prop} : CS43 238 av h Q = k238 av h Q := id rfl
theorem cs43_243 {av : List Int} {h : XH} {Q : Nat → List Int → XH → Prop} : CS43 243 av h Q = k243 av h Q := id rfl
theorem cs43_256 {av : List Int} {h : XH} {Q : Nat → List Int → XH → Prop} : CS43 256 av h Q = k256 av h Q := id rfl
theorem cs43_264 {av : List Int} {h : XH} {Q : Nat → List Int → XH → Prop} : CS43 264 av h Q = k264 av h Q := id rfl
theorem cs43_266 {av : List Int} {h : XH} {Q : Nat → List Int → XH → Prop} : CS43 266 av h Q = k266 av h Q := id rfl
theorem cs43_239 {av : List Int} {h : XH} {Q : Nat → List Int → XH → Prop} : CS43 239 av h Q = k239 av h Q := id rfl
theorem cs43_242 {av : List Int} {h : XH} {Q : Nat → List Int → XH → Prop} : CS43 242 av h Q = k242s av h Q := id rfl
theorem cs43_260 {av : List Int} {h : XH} {Q : Nat → List Int → XH → Prop} : CS43 260 av h Q = k260 av h Q := id rfl
theorem cs43_261 {av : List Int} {h : XH} {Q : Nat → List Int → XH → Prop} : CS43 261 av h Q = k261 av h Q := id rfl
theorem cs43_262 {av : List Int} {h : XH} {Q : Nat → List Int → XH → Prop} : CS43 262 av h Q = k262 av h Q := id rfl
theorem cs43_263 {av : List Int} {h : XH} {Q : Nat → List Int → XH → Prop} : CS43 263 av h Q = k263 av h Q := id rfl
theorem cs43_265 {av : List Int} {h : XH} {Q : Nat → List Int → XH → Prop} : CS43 265 av h Q = k265 av h Q := id rfl
theorem cs43_267 {av : List Int} {h : XH} {Q : Nat → List Int → XH → Prop} : CS43 267 av h Q = k267 av h Q := id rfl
theorem cs43_268 {av : List Int} {h : XH} {Q : Nat → List Int → XH → Prop} : CS43 268 av h Q = k268 av h Q := id rfl
theorem cs43_272 {av : List Int} {h : XH} {Q : Nat → List Int → XH → Prop} : CS43 272 av h Q = k272 av h Q := id rfl
theorem cs43_304 {av : List Int} {h : XH} {Q : Nat → List Int → XH → Prop} : CS43 304 av h Q = k304 av h Q := id rfl
theorem cs43_311 {av : List Int} {h : XH} {Q : Nat → List Int → XH → Prop} : CS43 311 av h Q = k311 av h Q := id rfl
theorem cs43_254 {av : List Int} {h : XH} {Q : Nat → List Int → XH → Prop} : CS43 254 av h Q = k254f av h Q := id rfl
theorem cs43_257 {av : List Int} {h : XH} {Q : Nat → List Int → XH → Prop} : CS43 257 av h Q = k257f av h Q := id rfl
theorem cs43_269 {av : List Int} {h : XH} {Q : Nat → List Int → XH → Prop} : CS43 269 av h Q = k269 av h Q := id rfl
theorem cs43_270 {av : List Int} {h : XH} {Q : Nat → List Int → XH → Prop} : CS43 270 av h Q = k270 av h Q := id rfl
theorem cs43_271 {av : List Int} {h : XH} {Q : Nat → List Int → XH → Prop} : CS43 271 av h Q = k271 av h Q := id rfl
theorem m_271 : BodyOK CS43 CS43 271 := fun av h Q hQ => by
  rw [cs43_271] at hQ
  unfold k271 at hQ
  split at hQ
  · rename_i t
    obtain ⟨rfl, S, U, M, r, n, ru, hn, n8, q1_w, q2_w⟩ := hQ
    have er : h 194 162 = (r : Int) := ru.2.2.2.2.2.2.2.2.1
    have r4 : r ≤ 4 := ru.2.2.2.2.2.2.2.2.2
    have j162 : j32 162 = 162 := rfl
    show pS CS43 bb_271 [182] h _
    unfold bb_271
    by_cases y : r = 4
    · have y1 : (r : Int) = 4 := by omega
      simp only [qe_1, qe_3, qe_4, qe_5, qe_7, qe_72, qe_10, qe_102, qe_13, qe_14, qe_15, qe_16, qe_17, qe_18, qe_20, qe_22, qe_23, qe_21, qe_24, qe_25, qe_26, qe_27, qe_28, qe_30, qe_31, qe_32, qc_20, qc_22, qc_23, qc_21, qc_24, qc_25, qc_26, qc_27, qc_1, qc_3, qc_4, qc_7, qc_13, qc_28, qc_32, qs_1, qs_2, qs_3, qs_4, qs_5, qs_6, qs_9, qs_10, qs_11, qs_14, qs_15, qs_16, qs_27, qs_17, qs_18, qs_19, qs_20, qs_22, qs_23, qs_28, qs_25, qs_26, qs_7, qs_8, kc_1, kn_1, kc_2, kn_2, kc_3, kn_3, kc_4, kn_4, kc_5, kn_5, kc_6, kn_6, kc_7, kn_7, kc_8, kn_8, kc_9, kn_9, kc_10, kn_10, kc_11, kn_11, kc_12, kn_12, kc_13, kn_13, kc_14, kn_14, kc_15, kn_15, kc_16, kc_17, kc_18, kc_19, kc_20, kc_21, kc_22, kc_23, kc_30, kc_32, kc_40, kc_43, kc_45, kc_48, kc_52, kc_56, kc_57, kc_59, kc_60, kc_61, kc_63, kc_64, kc_72, kc_78, kc_97, kc_99, kc_122, kc_126, kc_128, kc_192, kc_200, kc_255, kc_999, kc_1000, kc_9999, kn_9999, kc_10000, kc_12345, kc_65536, kc_252645135, kc_858993459, kc_1103515245, kc_1431655765, kc_2147483647, kc_0, kc_24, kc_28, kc_37, kc_41, kc_42, kc_73, kc_91, kc_95, kc_96, kc_98, kc_100, kc_112, kc_125, kc_150, kc_162, kc_163, kc_168, kc_186, kc_190, kc_250, kc_355, kc_356, kc_404, kc_405, kc_429, kc_573, kc_1002, kc_1100, kc_1891, kc_2200, kc_4719, kc_4869, kc_4881, kc_5148, kc_19741, kc_25433, kc_320403, kc_628412, kc_629093, kc_660401, kc_679843, kc_918640, kc_979410, kc_1178088, kc_6232410, kc_24644941, kc_36238189, kc_38270444, kc_392531318, kc_425693491, kc_1342154595, kc_2147483648, kc_42328242873, kc_891704255789, kc_1722105685577, kc_1858726030364, ct_0, ct_1, ct_2, ct_3, ct_4, ct_5, cf_0, cf_1, cf_2, cf_3, cf_4, cf_5, w_ty6, w_ty7, m_sv, m_z0, m_hd, m_g0, m_gs, m_s0, m_ss, m_ap, m_an, forall_const, true_and, and_true, ne_eq, not_true_eq_false, not_false_eq_true, false_implies, true_implies, implies_true, eq_self, reduceCtorEq, Nat.reduceDiv, Nat.reduceMod, Int.reduceToNat, or_true, true_or, or_false, false_or, or_self, m_it, m_if, m_c1, m_01, m_02, m_03, m_04, m_10, m_12, m_13, m_14, m_20, m_21, m_23, m_24, m_30, m_31, m_32, m_34, m_40, m_41, m_42, m_43, Int.reduceLE, Int.reduceLT, Int.reduceGE, Int.reduceGT, Int.reduceNeg, Int.reduceAdd, Int.reduceSub, Int.reduceMul, Int.reduceEq, Int.reduceNe, Nat.reduceAdd, jun2, ro_0_0, ro_0_1, ro_0_2, ro_0_3, ro_0_4, ro_0_5, ro_0_6, ro_0_7, ro_0_8, ro_0_9, ro_0_10, ro_0_11, ro_0_12, ro_1_0, ro_1_1, ro_2_0, ro_4_0, ro_6_0, ro_6_1, ro_6_2, ro_6_3, ro_6_4, ro_6_5, ro_6_6, ro_6_7, ro_6_8, ro_8_0, ro_10_0, ro_12_0, ro_14_0, ro_16_0, ro_18_0, ro_20_0, ro_22_0, ro_22_1, ro_22_2, ro_23_0, ro_25_0, ro_27_0, ro_29_0, ro_29_1, ro_29_2, ro_29_3, ro_29_4, ro_29_5, ro_29_6, ro_29_7, ro_29_8, ro_31_0, ro_33_0, ro_35_0, ro_37_0, ro_39_0, ro_41_0, ro_43_0, ro_45_0, ro_45_1, ro_45_2, ro_46_0, ro_48_0, ro_50_0, ro_52_0, ro_52_1, ro_52_2, ro_52_3, ro_53_0, ro_55_0, ro_57_0, ro_59_0, ro_61_0, ro_61_1, ro_61_2, ro_61_3, ro_62_0, ro_64_0, ro_66_0, ro_68_0, ro_70_0, ro_70_1, ro_70_2, ro_70_3, ro_70_4, ro_70_5, ro_70_6, ro_70_7, ro_70_8, ro_70_9, ro_71_0, ro_73_0, ro_75_0, ro_77_0, ro_79_0, ro_81_0, ro_83_0, ro_85_0, ro_87_0, ro_89_0, ro_91_0, ro_91_1, ro_91_2, ro_91_3, ro_91_4, ro_91_5, ro_91_6, ro_91_7, ro_91_8, ro_91_9, ro_92_0, ro_94_0, ro_96_0, ro_98_0, ro_100_0, ro_102_0, ro_104_0, ro_106_0, ro_108_0, ro_110_0, ro_112_0, ro_112_1, ro_112_2, ro_112_3, ro_112_4, ro_112_5, ro_112_6, ro_112_7, ro_112_8, ro_112_9, ro_113_0, ro_115_0, ro_117_0, ro_119_0, ro_121_0, ro_123_0, ro_125_0, ro_127_0, ro_129_0, ro_131_0, ro_133_0, ro_133_1, ro_133_2, ro_133_3, ro_133_4, ro_133_5, ro_133_6, ro_133_7, ro_133_8, ro_133_9, ro_134_0, ro_136_0, ro_138_0, ro_140_0, ro_142_0, ro_144_0, ro_146_0, ro_148_0, ro_150_0, ro_152_0, ro_154_0, ro_155_0, ro_157_0, ro_157_1, ro_157_2, ro_157_3, ro_157_4, ro_157_5, ro_157_6, ro_157_7, ro_157_8, ro_157_9, ro_158_0, ro_160_0, ro_162_0, ro_164_0, ro_166_0, ro_168_0, ro_170_0, ro_172_0, ro_174_0, ro_176_0, ro_178_0, ro_180_0, ro_182_1, ro_182_4, ro_182_5, ro_182_6, ro_182_9, ro_182_10, ro_182_11, ro_182_13, ro_182_14, ro_182_15, ro_182_16, ro_182_17, ro_182_20, ro_182_21, ro_182_22, ro_182_23, ro_182_24, ro_182_26, ro_182_27, ro_182_28, lo_3, lo_5, lo_7, lo_9, lo_11, lo_13, lo_15, lo_17, lo_19, lo_21, lo_24, lo_26, lo_28, lo_30, lo_32, lo_34, lo_36, lo_38, lo_40, lo_42, lo_44, lo_47, lo_49, lo_51, lo_54, lo_56, lo_58, lo_60, lo_63, lo_65, lo_67, lo_69, lo_72, lo_74, lo_76, lo_78, lo_80, lo_82, lo_84, lo_86, lo_88, lo_90, lo_93, lo_95, lo_97, lo_99, lo_101, lo_103, lo_105, lo_107, lo_109, lo_111, lo_114, lo_116, lo_118, lo_120, lo_122, lo_124, lo_126, lo_128, lo_130, lo_132, lo_135, lo_137, lo_139, lo_141, lo_143, lo_145, lo_147, lo_149, lo_151, lo_153, lo_156, lo_159, lo_161, lo_163, lo_165, lo_167, lo_169, lo_171, lo_173, lo_175, lo_177, lo_179, lo_181, lo_183, lo_184, lo_185, lo_186, lo_187, lo_188, lo_189, lo_190, lo_191, lo_192, lo_193, lo_194, lo_195, lo_196, lo_197, lo_198, lo_199, lo_200, lo_201, lo_202, lo_203, jp_nn, jp_eq, jp_e1, Classical.not_not, ji0, ji1, ji2, cs43_242, kk_242s, cs43_270, kk_270, jl_0, jl_1, jl_2, jl_3, jl_4, jl_5, jl_6, jl_7, jl_8, jl_9, jl_10, jl_11, jl_12, jl_13, jl_14, jl_15, jl_16, jl_17, jl_18, jl_19, jl_20, jl_21, jl_22, jl_23, jl_24, jl_25, jl_26, jl_27, jl_28, jl_29, jl_30, jl_31, jl_32, jl_33, jl_34, jl_35, jl_36, jl_37, jl_38, jl_39, jl_40, jl_95, jl_96, jl_97, jl_98, jl_99, jl_100, jl_101, jl_102, jl_103, jl_104, jl_105, jl_106, jl_107, jl_108, jl_109, jl_110, jl_111, jl_112, jl_113, jl_114, jl_186, jl_1100, jr, ju, jpT, jpF, tnc, Nat.reduceEqDiff, reduceIte, and_false, false_and, not_true_eq_false, not_false_eq_true, or_false, gt_iff_lt, ge_iff_le, Int.lt_irrefl, Int.le_refl, j162, er, y1]
      intros
      exact q1_w y
    · have y1 : ¬ (r : Int) = 4 := by omega
      simp only [qe_1, qe_3, qe_4, qe_5, qe_7, qe_72, qe_10, qe_102, qe_13, qe_14, qe_15, qe_16, qe_17, qe_18, qe_20, qe_22, qe_23, qe_21, qe_24, qe_25, qe_26, qe_27, qe_28, qe_30, qe_31, qe_32, qc_20, qc_22, qc_23, qc_21, qc_24, qc_25, qc_26, qc_27, qc_1, qc_3, qc_4, qc_7, qc_13, qc_28, qc_32, qs_1, qs_2, qs_3, qs_4, qs_5, qs_6, qs_9, qs_10, qs_11, qs_14, qs_15, qs_16, qs_27, qs_17, qs_18, qs_19, qs_20, qs_22, qs_23, qs_28, qs_25, qs_26, qs_7, qs_8, kc_1, kn_1, kc_2, kn_2, kc_3, kn_3, kc_4, kn_4, kc_5, kn_5, kc_6, kn_6, kc_7, kn_7, kc_8, kn_8, kc_9, kn_9, kc_10, kn_10, kc_11, kn_11, kc_12, kn_12, kc_13, kn_13, kc_14, kn_14, kc_15, kn_15, kc_16, kc_17, kc_18, kc_19, kc_20, kc_21, kc_22, kc_23, kc_30, kc_32, kc_40, kc_43, kc_45, kc_48, kc_52, kc_56, kc_57, kc_59, kc_60, kc_61, kc_63, kc_64, kc_72, kc_78, kc_97, kc_99, kc_122, kc_126, kc_128, kc_192, kc_200, kc_255, kc_999, kc_1000, kc_9999, kn_9999, kc_10000, kc_12345, kc_65536, kc_252645135, kc_858993459, kc_1103515245, kc_1431655765, kc_2147483647, kc_0, kc_24, kc_28, kc_37, kc_41, kc_42, kc_73, kc_91, kc_95, kc_96, kc_98, kc_100, kc_112, kc_125, kc_150, kc_162, kc_163, kc_168, kc_186, kc_190, kc_250, kc_355, kc_356, kc_404, kc_405, kc_429, kc_573, kc_1002, kc_1100, kc_1891, kc_2200, kc_4719, kc_4869, kc_4881, kc_5148, kc_19741, kc_25433, kc_320403, kc_628412, kc_629093, kc_660401, kc_679843, kc_918640, kc_979410, kc_1178088, kc_6232410, kc_24644941, kc_36238189, kc_38270444, kc_392531318, kc_425693491, kc_1342154595, kc_2147483648, kc_42328242873, kc_891704255789, kc_1722105685577, kc_1858726030364, ct_0, ct_1, ct_2, ct_3, ct_4, ct_5, cf_0, cf_1, cf_2, cf_3, cf_4, cf_5, w_ty6, w_ty7, m_sv, m_z0, m_hd, m_g0, m_gs, m_s0, m_ss, m_ap, m_an, forall_const, true_and, and_true, ne_eq, not_true_eq_false, not_false_eq_true, false_implies, true_implies, implies_true, eq_self, reduceCtorEq, Nat.reduceDiv, Nat.reduceMod, Int.reduceToNat, or_true, true_or, or_false, false_or, or_self, m_it, m_if, m_c1, m_01, m_02, m_03, m_04, m_10, m_12, m_13, m_14, m_20, m_21, m_23, m_24, m_30, m_31, m_32, m_34, m_40, m_41, m_42, m_43, Int.reduceLE, Int.reduceLT, Int.reduceGE, Int.reduceGT, Int.reduceNeg, Int.reduceAdd, Int.reduceSub, Int.reduceMul, Int.reduceEq, Int.reduceNe, Nat.reduceAdd, jun2, ro_0_0, ro_0_1, ro_0_2, ro_0_3, ro_0_4, ro_0_5, ro_0_6, ro_0_7, ro_0_8, ro_0_9, ro_0_10, ro_0_11, ro_0_12, ro_1_0, ro_1_1, ro_2_0, ro_4_0, ro_6_0, ro_6_1, ro_6_2, ro_6_3, ro_6_4, ro_6_5, ro_6_6, ro_6_7, ro_6_8, ro_8_0, ro_10_0, ro_12_0, ro_14_0, ro_16_0, ro_18_0, ro_20_0, ro_22_0, ro_22_1, ro_22_2, ro_23_0, ro_25_0, ro_27_0, ro_29_0, ro_29_1, ro_29_2, ro_29_3, ro_29_4, ro_29_5, ro_29_6, ro_29_7, ro_29_8, ro_31_0, ro_33_0, ro_35_0, ro_37_0, ro_39_0, ro_41_0, ro_43_0, ro_45_0, ro_45_1, ro_45_2, ro_46_0, ro_48_0, ro_50_0, ro_52_0, ro_52_1, ro_52_2, ro_52_3, ro_53_0, ro_55_0, ro_57_0, ro_59_0, ro_61_0, ro_61_1, ro_61_2, ro_61_3, ro_62_0, ro_64_0, ro_66_0, ro_68_0, ro_70_0, ro_70_1, ro_70_2, ro_70_3, ro_70_4, ro_70_5, ro_70_6, ro_70_7, ro_70_8, ro_70_9, ro_71_0, ro_73_0, ro_75_0, ro_77_0, ro_79_0, ro_81_0, ro_83_0, ro_85_0, ro_87_0, ro_89_0, ro_91_0, ro_91_1, ro_91_2, ro_91_3, ro_91_4, ro_91_5, ro_91_6, ro_91_7, ro_91_8, ro_91_9, ro_92_0, ro_94_0, ro_96_0, ro_98_0, ro_100_0, ro_102_0, ro_104_0, ro_106_0, ro_108_0, ro_110_0, ro_112_0, ro_112_1, ro_112_2, ro_112_3, ro_112_4, ro_112_5, ro_112_6, ro_112_7, ro_112_8, ro_112_9, ro_113_0, ro_115_0, ro_117_0, ro_119_0, ro_121_0, ro_123_0, ro_125_0, ro_127_0, ro_129_0, ro_131_0, ro_133_0, ro_133_1, ro_133_2, ro_133_3, ro_133_4, ro_133_5, ro_133_6, ro_133_7, ro_133_8, ro_133_9, ro_134_0, ro_136_0, ro_138_0, ro_140_0, ro_142_0, ro_144_0, ro_146_0, ro_148_0, ro_150_0, ro_152_0, ro_154_0, ro_155_0, ro_157_0, ro_157_1, ro_157_2, ro_157_3, ro_157_4, ro_157_5, ro_157_6, ro_157_7, ro_157_8, ro_157_9, ro_158_0, ro_160_0, ro_162_0, ro_164_0, ro_166_0, ro_168_0, ro_170_0, ro_172_0, ro_174_0, ro_176_0, ro_178_0, ro_180_0, ro_182_1, ro_182_4, ro_182_5, ro_182_6, ro_182_9, ro_182_10, ro_182_11, ro_182_13, ro_182_14, ro_182_15, ro_182_16, ro_182_17, ro_182_20, ro_182_21, ro_182_22, ro_182_23, ro_182_24, ro_182_26, ro_182_27, ro_182_28, lo_3, lo_5, lo_7, lo_9, lo_11, lo_13, lo_15, lo_17, lo_19, lo_21, lo_24, lo_26, lo_28, lo_30, lo_32, lo_34, lo_36, lo_38, lo_40, lo_42, lo_44, lo_47, lo_49, lo_51, lo_54, lo_56, lo_58, lo_60, lo_63, lo_65, lo_67, lo_69, lo_72, lo_74, lo_76, lo_78, lo_80, lo_82, lo_84, lo_86, lo_88, lo_90, lo_93, lo_95, lo_97, lo_99, lo_101, lo_103, lo_105, lo_107, lo_109, lo_111, lo_114, lo_116, lo_118, lo_120, lo_122, lo_124, lo_126, lo_128, lo_130, lo_132, lo_135, lo_137, lo_139, lo_141, lo_143, lo_145, lo_147, lo_149, lo_151, lo_153, lo_156, lo_159, lo_161, lo_163, lo_165, lo_167, lo_169, lo_171, lo_173, lo_175, lo_177, lo_179, lo_181, lo_183, lo_184, lo_185, lo_186, lo_187, lo_188, lo_189, lo_190, lo_191, lo_192, lo_193, lo_194, lo_195, lo_196, lo_197, lo_198, lo_199, lo_200, lo_201, lo_202, lo_203, jp_nn, jp_eq, jp_e1, Classical.not_not, ji0, ji1, ji2, cs43_242, kk_242s, cs43_270, kk_270, jl_0, jl_1, jl_2, jl_3, jl_4, jl_5, jl_6, jl_7, jl_8, jl_9, jl_10, jl_11, jl_12, jl_13, jl_14, jl_15, jl_16, jl_17, jl_18, jl_19, jl_20, jl_21, jl_22, jl_23, jl_24, jl_25, jl_26, jl_27, jl_28, jl_29, jl_30, jl_31, jl_32, jl_33, jl_34, jl_35, jl_36, jl_37, jl_38, jl_39, jl_40, jl_95, jl_96, jl_97, jl_98, jl_99, jl_100, jl_101, jl_102, jl_103, jl_104, jl_105, jl_106, jl_107, jl_108, jl_109, jl_110, jl_111, jl_112, jl_113, jl_114, jl_186, jl_1100, jr, ju, jpT, jpF, tnc, Nat.reduceEqDiff, reduceIte, and_false, false_and, not_true_eq_false, not_false_eq_true, or_false, gt_iff_lt, ge_iff_le, Int.lt_irrefl, Int.le_refl, j162, er, y1]
      intros
      refine ⟨n, hn, n8, fun h1 r1_w => ?_⟩
      have u4_w : ∀ q : Nat, q < 429 → h1 194 q = h 194 q := fun q z => (r1_w.1 194 q (by omega) (by omega)).trans (up_ne (by omega))
      have u8 : ∀ q : Nat, h1 188 q = h 188 q := fun q => (r1_w.1 188 q (by omega) (by omega)).trans (up_ne (by omega))
      obtain ⟨eS, hS_w, eU, hU, eM_w, hM_w, hC, hW, -, -⟩ := ru
      refine ⟨S, U, M, r, ⟨(u8 0).trans eS, hS_w, (u8 2).trans eU, hU, (u8 3).trans eM_w, hM_w, fun m z => ?_, fun q z1 z2 => ?_, (u4_w 162 (by omega)).trans er, r4⟩, by omega, fun h2 f2_w g2 e2_w => ?_⟩
      · obtain ⟨c, c1_w, c2⟩ := hC m z
        exact ⟨c, c1_w, (u8 _).trans c2⟩
      · obtain ⟨c, c1_w, c2⟩ := hW q z1 z2
        exact ⟨c, c1_w, (u4_w q (by omega)).trans c2⟩
      · have e3_w : j32 (((r + 1 : Nat) : Int) - 1) = (r : Int) := jcn (by omega) (by omega)
        simp only [qe_1, qe_3, qe_4, qe_5, qe_7, qe_72, qe_10, qe_102, qe_13, qe_14, qe_15, qe_16, qe_17, qe_18, qe_20, qe_22, qe_23, qe_21, qe_24, qe_25, qe_26, qe_27, qe_28, qe_30, qe_31, qe_32, qc_20, qc_22, qc_23, qc_21, qc_24, qc_25, qc_26, qc_27, qc_1, qc_3, qc_4, qc_7, qc_13, qc_28, qc_32, qs_1, qs_2, qs_3, qs_4, qs_5, qs_6, qs_9, qs_10, qs_11, qs_14, qs_15, qs_16, qs_27, qs_17, qs_18, qs_19, qs_20, qs_22, qs_23, qs_28, qs_25, qs_26, qs_7, qs_8, kc_1, kn_1, kc_2, kn_2, kc_3, kn_3, kc_4, kn_4, kc_5, kn_5, kc_6, kn_6, kc_7, kn_7, kc_8, kn_8, kc_9, kn_9, kc_10, kn_10, kc_11, kn_11, kc_12, kn_12, kc_13, kn_13, kc_14, kn_14, kc_15, kn_15, kc_16, kc_17, kc_18, kc_19, kc_20, kc_21, kc_22, kc_23, kc_30, kc_32, kc_40, kc_43, kc_45, kc_48, kc_52, kc_56, kc_57, kc_59, kc_60, kc_61, kc_63, kc_64, kc_72, kc_78, kc_97, kc_99, kc_122, kc_126, kc_128, kc_192, kc_200, kc_255, kc_999, kc_1000, kc_9999, kn_9999, kc_10000, kc_12345, kc_65536, kc_252645135, kc_858993459, kc_1103515245, kc_1431655765, kc_2147483647, kc_0, kc_24, kc_28, kc_37, kc_41, kc_42, kc_73, kc_91, kc_95, kc_96, kc_98, kc_100, kc_112, kc_125, kc_150, kc_162, kc_163, kc_168, kc_186, kc_190, kc_250, kc_355, kc_356, kc_404, kc_405, kc_429, kc_573, kc_1002, kc_1100, kc_1891, kc_2200, kc_4719, kc_4869, kc_4881, kc_5148, kc_19741, kc_25433, kc_320403, kc_628412, kc_629093, kc_660401, kc_679843, kc_918640, kc_979410, kc_1178088, kc_6232410, kc_24644941, kc_36238189, kc_38270444, kc_392531318, kc_425693491, kc_1342154595, kc_2147483648, kc_42328242873, kc_891704255789, kc_1722105685577, kc_1858726030364, ct_0, ct_1, ct_2, ct_3, ct_4, ct_5, cf_0, cf_1, cf_2, cf_3, cf_4, cf_5, w_ty6, w_ty7, m_sv, m_z0, m_hd, m_g0, m_gs, m_s0, m_ss, m_ap, m_an, forall_const, true_and, and_true, ne_eq, not_true_eq_false, not_false_eq_true, false_implies, true_implies, implies_true, eq_self, reduceCtorEq, Nat.reduceDiv, Nat.reduceMod, Int.reduceToNat, or_true, true_or, or_false, false_or, or_self, m_it, m_if, m_c1, m_01, m_02, m_03, m_04, m_10, m_12, m_13, m_14, m_20, m_21, m_23, m_24, m_30, m_31, m_32, m_34, m_40, m_41, m_42, m_43, Int.reduceLE, Int.reduceLT, Int.reduceGE, Int.reduceGT, Int.reduceNeg, Int.reduceAdd, Int.reduceSub, Int.reduceMul, Int.reduceEq, Int.reduceNe, Nat.reduceAdd, jun2, ro_0_0, ro_0_1, ro_0_2, ro_0_3, ro_0_4, ro_0_5, ro_0_6, ro_0_7, ro_0_8, ro_0_9, ro_0_10, ro_0_11, ro_0_12, ro_1_0, ro_1_1, ro_2_0, ro_4_0, ro_6_0, ro_6_1, ro_6_2, ro_6_3, ro_6_4, ro_6_5, ro_6_6, ro_6_7, ro_6_8, ro_8_0, ro_10_0, ro_12_0, ro_14_0, ro_16_0, ro_18_0, ro_20_0, ro_22_0, ro_22_1, ro_22_2, ro_23_0, ro_25_0, ro_27_0, ro_29_0, ro_29_1, ro_29_2, ro_29_3, ro_29_4, ro_29_5, ro_29_6, ro_29_7, ro_29_8, ro_31_0, ro_33_0, ro_35_0, ro_37_0, ro_39_0, ro_41_0, ro_43_0, ro_45_0, ro_45_1, ro_45_2, ro_46_0, ro_48_0, ro_50_0, ro_52_0, ro_52_1, ro_52_2, ro_52_3, ro_53_0, ro_55_0, ro_57_0, ro_59_0, ro_61_0, ro_61_1, ro_61_2, ro_61_3, ro_62_0, ro_64_0, ro_66_0, ro_68_0, ro_70_0, ro_70_1, ro_70_2, ro_70_3, ro_70_4, ro_70_5, ro_70_6, ro_70_7, ro_70_8, ro_70_9, ro_71_0, ro_73_0, ro_75_0, ro_77_0, ro_79_0, ro_81_0, ro_83_0, ro_85_0, ro_87_0, ro_89_0, ro_91_0, ro_91_1, ro_91_2, ro_91_3, ro_91_4, ro_91_5, ro_91_6, ro_91_7, ro_91_8, ro_91_9, ro_92_0, ro_94_0, ro_96_0, ro_98_0, ro_100_0, ro_102_0, ro_104_0, ro_106_0, ro_108_0, ro_110_0, ro_112_0, ro_112_1, ro_112_2, ro_112_3, ro_112_4, ro_112_5, ro_112_6, ro_112_7, ro_112_8, ro_112_9, ro_113_0, ro_115_0, ro_117_0, ro_119_0, ro_121_0, ro_123_0, ro_125_0, ro_127_0, ro_129_0, ro_131_0, ro_133_0, ro_133_1, ro_133_2, ro_133_3, ro_133_4, ro_133_5, ro_133_6, ro_133_7, ro_133_8, ro_133_9, ro_134_0, ro_136_0, ro_138_0, ro_140_0, ro_142_0, ro_144_0, ro_146_0, ro_148_0, ro_150_0, ro_152_0, ro_154_0, ro_155_0, ro_157_0, ro_157_1, ro_157_2, ro_157_3, ro_157_4, ro_157_5, ro_157_6, ro_157_7, ro_157_8, ro_157_9, ro_158_0, ro_160_0, ro_162_0, ro_164_0, ro_166_0, ro_168_0, ro_170_0, ro_172_0, ro_174_0, ro_176_0, ro_178_0, ro_180_0, ro_182_1, ro_182_4, ro_182_5, ro_182_6, ro_182_9, ro_182_10, ro_182_11, ro_182_13, ro_182_14, ro_182_15, ro_182_16, ro_182_17, ro_182_20, ro_182_21, ro_182_22, ro_182_23, ro_182_24, ro_182_26, ro_182_27, ro_182_28, lo_3, lo_5, lo_7, lo_9, lo_11, lo_13, lo_15, lo_17, lo_19, lo_21, lo_24, lo_26, lo_28, lo_30, lo_32, lo_34, lo_36, lo_38, lo_40, lo_42, lo_44, lo_47, lo_49, lo_51, lo_54, lo_56, lo_58, lo_60, lo_63, lo_65, lo_67, lo_69, lo_72, lo_74, lo_76, lo_78, lo_80, lo_82, lo_84, lo_86, lo_88, lo_90, lo_93, lo_95, lo_97, lo_99, lo_101, lo_103, lo_105, lo_107, lo_109, lo_111, lo_114, lo_116, lo_118, lo_120, lo_122, lo_124, lo_126, lo_128, lo_130, lo_132, lo_135, lo_137, lo_139, lo_141, lo_143, lo_145, lo_147, lo_149, lo_151, lo_153, lo_156, lo_159, lo_161, lo_163, lo_165, lo_167, lo_169, lo_171, lo_173, lo_175, lo_177, lo_179, lo_181, lo_183, lo_184, lo_185, lo_186, lo_187, lo_188, lo_189, lo_190, lo_191, lo_192, lo_193, lo_194, lo_195, lo_196, lo_197, lo_198, lo_199, lo_200, lo_201, lo_202, lo_203, jp_nn, jp_eq, jp_e1, Classical.not_not, ji0, ji1, ji2, cs43_242, kk_242s, cs43_270, kk_270, jl_0, jl_1, jl_2, jl_3, jl_4, jl_5, jl_6, jl_7, jl_8, jl_9, jl_10, jl_11, jl_12, jl_13, jl_14, jl_15, jl_16, jl_17, jl_18, jl_19, jl_20, jl_21, jl_22, jl_23, jl_24, jl_25, jl_26, jl_27, jl_28, jl_29, jl_30, jl_31, jl_32, jl_33, jl_34, jl_35, jl_36, jl_37, jl_38, jl_39, jl_40, jl_95, jl_96, jl_97, jl_98, jl_99, jl_100, jl_101, jl_102, jl_103, jl_104, jl_105, jl_106, jl_107, jl_108, jl_109, jl_110, jl_111, jl_112, jl_113, jl_114, jl_186, jl_1100, jr, ju, jpT, jpF, tnc, Nat.reduceEqDiff, reduceIte, and_false, false_and, not_true_eq_false, not_false_eq_true, or_false, gt_iff_lt, ge_iff_le, Int.lt_irrefl, Int.le_refl, j162, e2_w, e3_w]
        intros
        exact q2_w (by omega) h1 h2 r1_w f2_w g2 e2_w
  · exact hQ.elim
theorem snd_43 {xs : Nat → Int} {L K : Nat} : ∀ n, SndC CS43 (evF xs L g_ck K g_cW g_M n) := snd_all snd_42 (fun f av h Q hQ => by
  unfold CS43 at hQ
  split at hQ
  · exact Or.inr m_271
  · exact Or.inl hQ)
end
section
/-! ===== the state_w of both_w, side_w by side_w ===== -/
def nM (D : DD) : Nat := D.2.2.2.2.1.length
def nS (D : DD) : Nat := D.1.toNat
/-- the cells_w of a state_w that mean something -/
def inD (D : DD) (q : Nat) : Prop := q < 13 * nM D ∨ (78 ≤ q ∧ q < 78 + 12 * nM D) ∨ (150 ≤ q ∧ q < 150 + nS D) ∨ q = 162
def EqD (D : DD) (a b : Nat → Int) : Prop := ∀ q : Nat, inD D q → a q = b q
/-- a ledger of the class, in the reference's order_w -/
def cl (b : Nat) (h : XH) : Nat → Int := fun q => if q < 78 then h (b + 2) q else if q < 150 then h (b + 4) (q - 78) else if q < 162 then h (b + 6) (q - 150) else h b 10
/-- a block_w of the reference_w -/
def bl (c : Nat) (h : XH) : Nat → Int := fun q => h 194 (c + q)
/-- a deed taken_w back -/
def tkb (e : Nat → Int) (mn_w pn : Nat) (a : Nat → Int) : Nat → Int := fun q => if e 0 = 0 ∧ q = 13 * mn_w + pn then e 3 else if e 0 = 1 ∧ 78 + 12 * mn_w ≤ q ∧ q < 78 + 12 * mn_w + 12 then e (4 + (q - 78 - 12 * mn_w)) else if e 0 = 2 ∧ q = 150 + pn then e 3 else if e 0 = 3 ∧ q = 162 then a q - 1 else a q
def TBK (D : DD) (e a' a : Nat → Int) : Prop := ∃ mn_w pn : Nat, e 1 = (mn_w : Int) ∧ mn_w < 6 ∧ e 2 = (pn : Int) ∧ pn < 13 ∧ (e 0 = 0 ∨ e 0 = 1 ∨ (e 0 = 2 ∧ pn < 12) ∨ e 0 = 3) ∧ EqD D a (tkb e mn_w pn a')
def ent (i : Nat) (h : XH) : Nat → Int := fun k => h 156 (16 * i + k)
/-- what is_w ahead_w of a deed's block_w: the next one's, or_w now -/
def nxt (n i : Nat) (h : XH) : Nat → Int := if i + 1 = n then bl 0 h else bl (429 * (3 + (i + 1))) h
def PST (D : DD) (n : Nat) (h : XH) : Prop := n ≤ 8 ∧ h 154 1 = (n : Int) ∧ h 182 18 = (n : Int) ∧ ∀ i : Nat, i < n → TBK D (ent i h) (nxt n i h) (bl (429 * (3 + i)) h)
/-- what is_w seen_w -/
def SEN (b c : Nat) (h : XH) : Prop := ∃ n : Nat, n ≤ 8 ∧ h b 11 = (n : Int) ∧ h 194 (c + 404) = (n : Int) ∧ ∀ i : Nat, i < n → h (b + 16) i = h 194 (c + (405 + 3 * i)) ∧ h (b + 18) i = h 194 (c + (405 + 3 * i + 1)) ∧ h (b + 20) i = h 194 (c + (405 + 3 * i + 2))
def MKb (D : DD) (b c f g : Nat) (h : XH) : Prop := (h 195 g = 0 ∨ h 195 g = 1) ∧ (h 0 f = 0 ↔ h 195 g = 0) ∧ (h 195 g ≠ 0 → EqD D (cl b h) (bl c h) ∧ SEN b c h)
def SM (D : DD) (h : XH) : Prop := nM D ≤ 6 ∧ nS D ≤ 12 ∧ EqD D (cl 70 h) (bl 0 h) ∧ SEN 70 0 h ∧ (∃ n, PST D n h) ∧ MKb D 112 429 13 0 h ∧ MKb D 133 858 14 1 h
section SMS
variable {h h1 h2 h' : XH} {D : DD} {n : Nat} {a a' b' e e' : Nat → Int} {b c f g : Nat}
theorem inD.le (i : inD D b) (m : nM D ≤ 6) (s : nS D ≤ 12) : b ≤ 162 := by
  unfold inD at i
  omega
theorem EqD.tr {x y z : Nat → Int} (p : EqD D x y) (q : EqD D y z) : EqD D x z := fun k i => (p k i).trans (q k i)
theorem EqD.sy {x y : Nat → Int} (p : EqD D x y) : EqD D y x := fun k i => (p k i).symm
theorem EqD.of {x y : Nat → Int} (m : nM D ≤ 6) (s : nS D ≤ 12) (p : ∀ q : Nat, q ≤ 162 → x q = y q) : EqD D x y := fun k i => p k (i.le m s)
theorem tkb_cg {mn_w pn : Nat} (p : EqD D a a') (he : ∀ k : Nat, k < 16 → e k = e' k) : EqD D (tkb e mn_w pn a) (tkb e' mn_w pn a') := fun q i => by
  unfold tkb
  rw [he 0 (by decide), he 3 (by decide), p q i]
  by_cases y : e' 0 = 1 ∧ 78 + 12 * mn_w ≤ q ∧ q < 78 + 12 * mn_w + 12
  · rw [if_pos y, if_pos y, he _ (by omega)]
  · rw [if_neg y, if_neg y]
theorem TBK.cg (t : TBK D e a' a) (p1_w : EqD D a' b') {a1_w : Nat → Int} (p2_w : EqD D a a1_w) (he : ∀ k : Nat, k < 16 → e k = e' k) : TBK D e' b' a1_w := by
  obtain ⟨mn_w, pn, t1_w, t2_w, t3_w, t4_w, t5_w, t6⟩ := t
  refine ⟨mn_w, pn, (he 1 (by decide)).symm.trans t1_w, t2_w, (he 2 (by decide)).symm.trans t3_w, t4_w, by rw [← he 0 (by decide)]; exact t5_w, (p2_w.sy.tr t6).tr (tkb_cg p1_w he)⟩
theorem cl_eq (z : ∀ o k : Nat, b ≤ o → o ≤ b + 20 → h' o k = h o k) : cl b h' = cl b h := funext fun q => by
  unfold cl
  rw [z (b + 2) q (by omega) (by omega), z (b + 4) _ (by omega) (by omega), z (b + 6) _ (by omega) (by omega), z b 10 (by omega) (by omega)]
/-- one more_w deed on_w both_w sides -/
theorem PST.push (s : PST D n h) (m6_w : nM D ≤ 6) (s12 : nS D ≤ 12) (k1_w : h' 154 1 = ((pn8 n + 1 : Nat) : Int)) (k2 : h' 182 18 = ((pn8 n + 1 : Nat) : Int)) (k3 : ∀ k : Nat, k < 16 * pn8 n → h' 156 k = h 156 (if n = 8 then k + 16 else k)) (k4 : ∀ i : Nat, i < pn8 n → ∀ q : Nat, q < 404 → h' 194 (429 * (3 + i) + q) = h 194 (429 * (3 + (if n = 8 then i + 1 else i)) + q)) (k5 : ∀ q : Nat, q < 404 → h' 194 (429 * (3 + pn8 n) + q) = h 194 q) (k6 : TBK D (ent (pn8 n) h') (bl 0 h') (bl 0 h)) : PST D (pn8 n + 1) h' := by
  obtain ⟨n8, s1_w, s2_w, s3_w⟩ := s
  have p7_w : pn8 n ≤ 7 := by
    unfold pn8
    split <;> omega
  have b0 : EqD D (bl (429 * (3 + pn8 n)) h') (bl 0 h) := EqD.of m6_w s12 (fun q z => by
    show h' 194 (429 * (3 + pn8 n) + q) = h 194 (0 + q)
    rw [Nat.zero_add]
    exact k5 q (by omega))
  refine ⟨by omega, k1_w, k2, fun i z => ?_⟩
  by_cases yi : i = pn8 n
  · subst yi
    unfold nxt
    rw [if_pos rfl]
    exact k6.cg (fun _ _ => rfl) b0.sy (fun _ _ => rfl)
  · have ip : i < pn8 n := by omega
    unfold nxt
    rw [if_neg (by omega)]
    have bi : EqD D (bl (429 * (3 + (if n = 8 then i + 1 else i))) h) (bl (429 * (3 + i)) h') := EqD.of m6_w s12 (fun q z => (k4 i ip q (by omega)).symm)
    have ei : ∀ k : Nat, k < 16 → ent (if n = 8 then i + 1 else i) h k = ent i h' k := fun k z => by
      show h 156 (16 * (if n = 8 then i + 1 else i) + k) = h' 156 (16 * i + k)
      rw [k3 (16 * i + k) (by omega)]
      by_cases y8 : n = 8
      · rw [if_pos y8, if_pos y8]
        exact congrArg (h 156) (by omega)
      · rw [if_neg y8, if_neg y8]
    have t := s3_w (if n = 8 then i + 1 else i) (by
      unfold pn8 at ip
      split at ip
      · rw [if_pos (by assumption)]
        omega
      · rw [if_neg (by assumption)]
        exact ip)
    refine t.cg ?_ bi ei
    unfold nxt
    by_cases y8 : n = 8
    · have e7_w : pn8 n = 7 := if_pos y8
      rw [if_pos y8]
      by_cases y6 : i + 1 = 7
      · rw [if_pos (by omega), show i + 1 = pn8 n by omega]
        exact b0.sy
      · rw [if_neg (by omega)]
        refine EqD.of m6_w s12 (fun q z => ?_)
        have := k4 (i + 1) (by omega) q (by omega)
        rw [if_pos y8] at this
        exact this.symm
    · have e7_w : pn8 n = n := if_neg y8
      rw [if_neg y8]
      by_cases y6 : i + 1 = n
      · rw [if_pos y6, show i + 1 = pn8 n by omega]
        exact b0.sy
      · rw [if_neg y6]
        refine EqD.of m6_w s12 (fun q z => ?_)
        have := k4 (i + 1) (by omega) q (by omega)
        rw [if_neg y8] at this
        exact this.symm
/-- the last_w deed off_w on_w both_w sides: what is_w now is_w what was ahead_w of it -/
theorem PST.pop (s : PST D (n + 1) h) (m6_w : nM D ≤ 6) (s12 : nS D ≤ 12) (k1_w : h' 154 1 = (n : Int)) (k2 : h' 182 18 = (n : Int)) (k3 : ∀ k : Nat, h' 156 k = h 156 k) (k4 : ∀ q : Nat, 1287 ≤ q → q < 4719 → h' 194 q = h 194 q) (k5 : ∀ q : Nat, q < 404 → h' 194 q = h 194 (429 * (3 + n) + q)) : PST D n h' := by
  obtain ⟨n8, s1_w, s2_w, s3_w⟩ := s
  refine ⟨by omega, k1_w, k2, fun i z => (s3_w i (by omega)).cg ?_ (EqD.of m6_w s12 (fun q zq => (k4 _ (by omega) (by omega)).symm)) (fun k _ => (k3 _).symm)⟩
  unfold nxt
  rw [if_neg (by omega)]
  by_cases y : i + 1 = n
  · rw [if_pos y]
    refine EqD.of m6_w s12 (fun q zq => ?_)
    show h 194 (429 * (3 + (i + 1)) + q) = h' 194 (0 + q)
    rw [Nat.zero_add, k5 q (by omega), y]
  · rw [if_neg y]
    exact EqD.of m6_w s12 (fun q zq => (k4 _ (by omega) (by omega)).symm)
theorem SEN.fr (s : SEN b c h) (z1 : ∀ o k : Nat, b ≤ o → o ≤ b + 20 → h' o k = h o k) (z2 : ∀ k : Nat, c + 404 ≤ k → k < c + 429 → h' 194 k = h 194 k) : SEN b c h' := by
  obtain ⟨n, s1_w, s2_w, s3_w, s4_w⟩ := s
  refine ⟨n, s1_w, (z1 _ _ (by omega) (by omega)).trans s2_w, (z2 _ (by omega) (by omega)).trans s3_w, fun i z => ?_⟩
  rw [z1 (b + 16) _ (by omega) (by omega), z1 (b + 18) _ (by omega) (by omega), z1 (b + 20) _ (by omega) (by omega), z2 _ (by omega) (by omega), z2 _ (by omega) (by omega), z2 _ (by omega) (by omega)]
  exact s4_w i z
theorem MKb.fr (s : MKb D b c f g h) (m6_w : nM D ≤ 6) (s12 : nS D ≤ 12) (z0 : h' 0 f = h 0 f) (z1 : ∀ o k : Nat, b ≤ o → o ≤ b + 20 → h' o k = h o k) (z2 : ∀ k : Nat, c ≤ k → k < c + 429 → h' 194 k = h 194 k) (z3 : h' 195 g = h 195 g) : MKb D b c f g h' := by
  obtain ⟨s1_w, s2_w, s3_w⟩ := s
  refine ⟨by rw [z3]; exact s1_w, by rw [z0, z3]; exact s2_w, fun y => ?_⟩
  obtain ⟨s4_w, s5⟩ := s3_w (by rw [← z3]; exact y)
  refine ⟨?_, s5.fr z1 (fun k a b => z2 k (by omega) b)⟩
  rw [cl_eq z1]
  exact s4_w.tr (EqD.of m6_w s12 (fun q z => (z2 _ (by omega) (by omega)).symm))
theorem PST.fr (s : PST D n h) (m6_w : nM D ≤ 6) (s12 : nS D ≤ 12) (z1 : ∀ o k : Nat, 154 ≤ o → o ≤ 156 → h' o k = h o k) (z2 : ∀ k : Nat, k < 4719 → h' 194 k = h 194 k) (z3 : h' 182 18 = h 182 18) : PST D n h' := by
  obtain ⟨n8, s1_w, s2_w, s3_w⟩ := s
  refine ⟨n8, (z1 _ _ (by decide) (by decide)).trans s1_w, z3.trans s2_w, fun i z => (s3_w i z).cg ?_ (EqD.of m6_w s12 (fun q zq => (z2 _ (by omega)).symm)) (fun k _ => (z1 156 _ (by decide) (by decide)).symm)⟩
  unfold nxt
  by_cases y : i + 1 = n
  · rw [if_pos y, if_pos y]
    exact EqD.of m6_w s12 (fun q zq => (z2 _ (by omega)).symm)
  · rw [if_neg y, if_neg y]
    exact EqD.of m6_w s12 (fun q zq => (z2 _ (by omega)).symm)
/-- a call that changes_w nothing_w of the state_w -/
theorem SM.fr (s : SM D h) (z0 : h' 0 13 = h 0 13 ∧ h' 0 14 = h 0 14) (z1 : ∀ o k : Nat, 70 ≤ o → o ≤ 90 ∨ (112 ≤ o ∧ o ≤ 156) → o ≤ 156 → h' o k = h o k) (z2 : ∀ k : Nat, k < 4719 → h' 194 k = h 194 k) (z3 : h' 182 18 = h 182 18) (z4 : h' 195 0 = h 195 0 ∧ h' 195 1 = h 195 1) : SM D h' := by
  obtain ⟨m6_w, s12, s1_w, s2_w, ⟨n, s3_w⟩, s4_w, s5⟩ := s
  have z70 : ∀ o k : Nat, 70 ≤ o → o ≤ 70 + 20 → h' o k = h o k := fun o k a b => z1 o k a (Or.inl b) (by omega)
  have z112 : ∀ o k : Nat, 112 ≤ o → o ≤ 112 + 20 → h' o k = h o k := fun o k a b => z1 o k (by omega) (Or.inr ⟨a, by omega⟩) (by omega)
  have z133 : ∀ o k : Nat, 133 ≤ o → o ≤ 133 + 20 → h' o k = h o k := fun o k a b => z1 o k (by omega) (Or.inr ⟨by omega, by omega⟩) (by omega)
  refine ⟨m6_w, s12, ?_, s2_w.fr z70 (fun k a b => z2 k (by omega)), ⟨n, s3_w.fr m6_w s12 (fun o k a b => z1 o k (by omega) (Or.inr ⟨by omega, b⟩) b) z2 z3⟩, s4_w.fr m6_w s12 z0.1 z112 (fun k a b => z2 k (by omega)) z4.1, s5.fr m6_w s12 z0.2 z133 (fun k a b => z2 k (by omega)) z4.2⟩
  rw [cl_eq z70]
  exact s1_w.tr (EqD.of m6_w s12 (fun q z => (z2 _ (by omega)).symm))
end SMS
end
section
/-! ===== deeds on_w both_w sides keep_w the state_w alike_w ===== -/
section SMD
variable {h h1 h2 h3 h4 h' : XH} {D : DD} {n : Nat} {u : Nat → Int} {mn_w pn : Nat} {v : Int}
theorem SM.deed (s : SM D h) (hn : h 154 1 = (n : Int)) (k1_w : h' 154 1 = ((pn8 n + 1 : Nat) : Int)) (k2 : h' 182 18 = ((pn8 n + 1 : Nat) : Int)) (k3 : ∀ k : Nat, k < 16 * pn8 n → h' 156 k = h 156 (if n = 8 then k + 16 else k)) (k4 : ∀ i : Nat, i < pn8 n → ∀ q : Nat, q < 404 → h' 194 (429 * (3 + i) + q) = h 194 (429 * (3 + (if n = 8 then i + 1 else i)) + q)) (k5 : ∀ q : Nat, q < 404 → h' 194 (429 * (3 + pn8 n) + q) = h 194 q) (t1_w : h' 156 (16 * pn8 n + 1) = (mn_w : Int)) (t2_w : mn_w < 6) (t3_w : h' 156 (16 * pn8 n + 2) = (pn : Int)) (t4_w : pn < 13) (t5_w : h' 156 (16 * pn8 n) = 0 ∨ h' 156 (16 * pn8 n) = 1 ∨ (h' 156 (16 * pn8 n) = 2 ∧ pn < 12) ∨ h' 156 (16 * pn8 n) = 3) (c1_w : EqD D (cl 70 h') u) (c2 : EqD D (bl 0 h') u) (c3 : EqD D (cl 70 h) (tkb (ent (pn8 n) h') mn_w pn u)) (f0_w : h' 0 13 = h 0 13 ∧ h' 0 14 = h 0 14) (f1_w : ∀ o k : Nat, 112 ≤ o → o ≤ 153 → h' o k = h o k) (f2_w : ∀ k : Nat, 404 ≤ k → k < 1287 → h' 194 k = h 194 k) (f3_w : h' 195 0 = h 195 0 ∧ h' 195 1 = h 195 1) (f4_w : ∀ o k : Nat, 86 ≤ o → o ≤ 90 → h' o k = h o k) (f5_w : h' 70 11 = h 70 11) : SM D h' := by
  obtain ⟨m6_w, s12, s1_w, s2_w, ⟨n', s3_w⟩, s4_w, s5⟩ := s
  have en : n' = n := by
    have := s3_w.2.1
    omega
  subst en
  refine ⟨m6_w, s12, c1_w.tr c2.sy, ?_, ⟨_, s3_w.push m6_w s12 k1_w k2 k3 k4 k5 ⟨mn_w, pn, t1_w, t2_w, t3_w, t4_w, t5_w, (s1_w.sy.tr c3).tr (tkb_cg c2.sy (fun _ _ => rfl))⟩⟩, s4_w.fr m6_w s12 f0_w.1 (fun o k a b => f1_w o k a (by omega)) (fun k a b => f2_w k (by omega) (by omega)) f3_w.1, s5.fr m6_w s12 f0_w.2 (fun o k a b => f1_w o k (by omega) (by omega)) (fun k a b => f2_w k (by omega) (by omega)) f3_w.2⟩
  obtain ⟨w, w1_w, w2_w, w3_w, w4_w⟩ := s2_w
  refine ⟨w, w1_w, f5_w.trans w2_w, (f2_w _ (by omega) (by omega)).trans w3_w, fun i z => ?_⟩
  rw [f4_w (70 + 16) _ (by omega) (by omega), f4_w (70 + 18) _ (by omega) (by omega), f4_w (70 + 20) _ (by omega) (by omega), f2_w _ (by omega) (by omega), f2_w _ (by omega) (by omega), f2_w _ (by omega) (by omega)]
  exact w4_w i z
theorem cl_lo {b q : Nat} (z : q < 78) : cl b h q = h (b + 2) q := if_pos z
theorem cl_su {b q : Nat} (z : 78 ≤ q) (z2 : q < 150) : cl b h q = h (b + 4) (q - 78) := (if_neg (by omega)).trans (if_pos z2)
theorem cl_fe {b q : Nat} (z : 150 ≤ q) (z2 : q < 162) : cl b h q = h (b + 6) (q - 150) := (if_neg (by omega)).trans ((if_neg (by omega)).trans (if_pos z2))
theorem cl_ru {b q : Nat} (z : 162 ≤ q) : cl b h q = h b 10 := (if_neg (by omega)).trans ((if_neg (by omega)).trans (if_neg (by omega)))
/-- a reading_w by hand_w -/
theorem SM.read (s : SM D h) (hn : h 154 1 = (n : Int)) (t2_w : mn_w < nM D) (t4_w : pn < 13) (ke : KEP n mn_w pn 0 h h1) (e2_w : h2 = j_up h1 72 (13 * mn_w + pn) v) (rk : RKP n (thz h2) h3) (e4_w : h4 = j_up h3 194 (13 * mn_w + pn) v) : SM D h4 := by
  have m6_w := s.1
  have s12 := s.2.1
  have n8 : n ≤ 8 := by
    obtain ⟨-, -, -, -, ⟨n', s3_w⟩, -⟩ := s
    have := s3_w.2.1
    have := s3_w.1
    omega
  have p7_w : pn8 n ≤ 7 := by
    unfold pn8
    split <;> omega
  obtain ⟨a1_w, a2, a3, a4, a5, a6, a7, a8⟩ := ke
  obtain ⟨b1, b2, b3, b4⟩ := rk
  -- all_w but the state_w of the reference_w is_w as_w the class left it
  have g : ∀ o k : Nat, o ≠ 182 → o ≠ 194 → h4 o k = h2 o k := fun o k z1 z2 => by
    rw [e4_w, up_ne (by omega), b1 o k (by omega) (by omega)]
    exact th_e z1
  have g1 : ∀ o k : Nat, o ≠ 182 → o ≠ 194 → o ≠ 72 → h4 o k = h1 o k := fun o k z1 z2 z3 => by
    rw [g o k z1 z2, e2_w, up_ne (by omega)]
  have r0 : ∀ k : Nat, h2 194 k = h 194 k := fun k => by
    rw [e2_w, up_ne (by omega)]
    exact a1_w 194 k (by omega)
  have r1_w : ∀ k : Nat, k ≠ 13 * mn_w + pn → k < 1287 → h4 194 k = h 194 k := fun k z1 z2 => by
    rw [e4_w, up_ne (by omega), b1 194 k (by omega) (by omega), th_e (by decide)]
    exact r0 k
  have e0 : h4 156 (16 * pn8 n) = 0 := (g1 156 _ (by decide) (by decide) (by decide)).trans a4
  refine s.deed (n := n) (mn_w := mn_w) (pn := pn) (u := fun q => if q = 13 * mn_w + pn then v else cl 70 h q) hn ((g1 154 1 (by decide) (by decide) (by decide)).trans a2) ?_ (fun k z => (g1 156 k (by decide) (by decide) (by decide)).trans (a3 k z)) (fun i z q zq => ?_) (fun q zq => ?_) ((g1 156 _ (by decide) (by decide) (by decide)).trans a5) (by omega) ((g1 156 _ (by decide) (by decide) (by decide)).trans a6) t4_w (Or.inl e0) (fun q i => ?_) (fun q i => ?_) (fun q i => ?_) ⟨?_, ?_⟩ (fun o k z1 z2 => ?_) (fun k z1 z2 => r1_w k (by omega) z2) ⟨?_, ?_⟩ (fun o k z1 z2 => ?_) ?_
  · rw [e4_w, up_ne (by omega)]
    exact b2
  · rw [e4_w, up_ne (by omega), b3 i z q zq, th_e (by decide)]
    exact r0 _
  · rw [e4_w, up_ne (by omega), b4 q zq, th_e (by decide)]
    exact r0 _
  · show cl 70 h4 q = if q = 13 * mn_w + pn then v else cl 70 h q
    by_cases y : q = 13 * mn_w + pn
    · rw [if_pos y, cl_lo (by omega), g _ _ (by decide) (by decide), e2_w, y, up_eq]
    · rw [if_neg y]
      unfold cl
      by_cases y1 : q < 78
      · rw [if_pos y1, if_pos y1, g _ _ (by decide) (by decide), e2_w, up_ne (by omega)]
        exact a1_w 72 q (by omega)
      · rw [if_neg y1, if_neg y1, g1 _ _ (by decide) (by decide) (by decide), g1 _ _ (by decide) (by decide) (by decide), g1 _ _ (by decide) (by decide) (by decide), a1_w 74 _ (by omega), a1_w 76 _ (by omega), a1_w 70 _ (by omega)]
  · show h4 194 (0 + q) = if q = 13 * mn_w + pn then v else cl 70 h q
    rw [Nat.zero_add]
    by_cases y : q = 13 * mn_w + pn
    · rw [if_pos y, e4_w, y, up_eq]
    · rw [if_neg y, r1_w q y (by have := i.le m6_w s12; omega), s.2.2.1 q i]
      show h 194 q = h 194 (0 + q)
      rw [Nat.zero_add]
  · show cl 70 h q = tkb (ent (pn8 n) h4) mn_w pn _ q
    unfold tkb
    by_cases y : q = 13 * mn_w + pn
    · rw [if_pos ⟨e0, y⟩, cl_lo (by omega)]
      show h 72 q = h4 156 (16 * pn8 n + 3)
      rw [g1 156 _ (by decide) (by decide) (by decide), a7, if_neg (by decide), y]
    · have e00 : ent (pn8 n) h4 0 = 0 := e0
      rw [if_neg (fun z => y z.2), e00, if_neg (fun z => absurd z.1 (by decide)), if_neg (fun z => absurd z.1 (by decide)), if_neg (fun z => absurd z.1 (by decide))]
      exact (if_neg y).symm
  · rw [g1 0 13 (by decide) (by decide) (by decide), a1_w 0 13 (by omega)]
  · rw [g1 0 14 (by decide) (by decide) (by decide), a1_w 0 14 (by omega)]
  · rw [g1 o k (by omega) (by omega) (by omega), a1_w o k (by omega)]
  · rw [g1 195 0 (by decide) (by decide) (by decide), a1_w 195 0 (by omega)]
  · rw [g1 195 1 (by decide) (by decide) (by decide), a1_w 195 1 (by omega)]
  · rw [g1 o k (by omega) (by omega) (by omega), a1_w o k (by omega)]
  · rw [g1 70 11 (by decide) (by decide) (by decide), a1_w 70 11 (by omega)]
/-- what all_w deeds have in common_w: the cells_w that are as_w they were -/
theorem SM.n8 (s : SM D h) (hn : h 154 1 = (n : Int)) : n ≤ 8 ∧ pn8 n ≤ 7 := by
  obtain ⟨-, -, -, -, ⟨n', s3_w⟩, -⟩ := s
  have a := s3_w.2.1
  have b := s3_w.1
  refine ⟨by omega, ?_⟩
  unfold pn8
  split <;> omega
/-- the feeder told_w by hand_w -/
theorem SM.total (s : SM D h) (hn : h 154 1 = (n : Int)) (t4_w : pn < nS D) (ke : KEP n 0 pn 2 h h1) (e2_w : h2 = j_up h1 76 pn v) (rk : RKP n (thz h2) h3) (e4_w : h4 = j_up h3 194 (150 + pn) v) : SM D h4 := by
  have m6_w := s.1
  have s12 := s.2.1
  obtain ⟨n8, p7_w⟩ := s.n8 hn
  obtain ⟨a1_w, a2, a3, a4, a5, a6, a7, a8⟩ := ke
  obtain ⟨b1, b2, b3, b4⟩ := rk
  have g : ∀ o k : Nat, o ≠ 182 → o ≠ 194 → h4 o k = h2 o k := fun o k z1 z2 => by
    rw [e4_w, up_ne (by omega), b1 o k (by omega) (by omega)]
    exact th_e z1
  have g1 : ∀ o k : Nat, o ≠ 182 → o ≠ 194 → o ≠ 76 → h4 o k = h1 o k := fun o k z1 z2 z3 => by
    rw [g o k z1 z2, e2_w, up_ne (by omega)]
  have r0 : ∀ k : Nat, h2 194 k = h 194 k := fun k => by
    rw [e2_w, up_ne (by omega)]
    exact a1_w 194 k (by omega)
  have r1_w : ∀ k : Nat, k ≠ 150 + pn → k < 1287 → h4 194 k = h 194 k := fun k z1 z2 => by
    rw [e4_w, up_ne (by omega), b1 194 k (by omega) (by omega), th_e (by decide)]
    exact r0 k
  have e0 : h4 156 (16 * pn8 n) = 2 := (g1 156 _ (by decide) (by decide) (by decide)).trans a4
  refine s.deed (n := n) (mn_w := 0) (pn := pn) (u := fun q => if q = 150 + pn then v else cl 70 h q) hn ((g1 154 1 (by decide) (by decide) (by decide)).trans a2) ?_ (fun k z => (g1 156 k (by decide) (by decide) (by decide)).trans (a3 k z)) (fun i z q zq => ?_) (fun q zq => ?_) ((g1 156 _ (by decide) (by decide) (by decide)).trans a5) (by omega) ((g1 156 _ (by decide) (by decide) (by decide)).trans a6) (by omega) (Or.inr (Or.inr (Or.inl ⟨e0, by omega⟩))) (fun q i => ?_) (fun q i => ?_) (fun q i => ?_) ⟨?_, ?_⟩ (fun o k z1 z2 => ?_) (fun k z1 z2 => r1_w k (by omega) z2) ⟨?_, ?_⟩ (fun o k z1 z2 => ?_) ?_
  · rw [e4_w, up_ne (by omega)]
    exact b2
  · rw [e4_w, up_ne (by omega), b3 i z q zq, th_e (by decide)]
    exact r0 _
  · rw [e4_w, up_ne (by omega), b4 q zq, th_e (by decide)]
    exact r0 _
  · show cl 70 h4 q = if q = 150 + pn then v else cl 70 h q
    by_cases y : q = 150 + pn
    · rw [if_pos y, cl_fe (by omega) (by omega), g _ _ (by decide) (by decide), e2_w, show q - 150 = pn by omega, up_eq]
    · rw [if_neg y]
      unfold cl
      rw [g1 72 _ (by decide) (by decide) (by decide), g1 74 _ (by decide) (by decide) (by decide), g1 70 _ (by decide) (by decide) (by decide), a1_w 72 _ (by omega), a1_w 74 _ (by omega), a1_w 70 _ (by omega)]
      by_cases y1 : q < 78
      · rw [if_pos y1, if_pos y1]
      · rw [if_neg y1, if_neg y1]
        by_cases y2 : q < 150
        · rw [if_pos y2, if_pos y2]
        · rw [if_neg y2, if_neg y2]
          by_cases y3 : q < 162
          · rw [if_pos y3, if_pos y3, g _ _ (by decide) (by decide), e2_w, up_ne (by omega)]
            exact a1_w 76 _ (by omega)
          · rw [if_neg y3, if_neg y3]
  · show h4 194 (0 + q) = if q = 150 + pn then v else cl 70 h q
    rw [Nat.zero_add]
    by_cases y : q = 150 + pn
    · rw [if_pos y, e4_w, y, up_eq]
    · rw [if_neg y, r1_w q y (by have := i.le m6_w s12; omega), s.2.2.1 q i]
      show h 194 q = h 194 (0 + q)
      rw [Nat.zero_add]
  · show cl 70 h q = tkb (ent (pn8 n) h4) 0 pn _ q
    have e00 : ent (pn8 n) h4 0 = 2 := e0
    unfold tkb
    rw [e00, if_neg (fun z => absurd z.1 (by decide)), if_neg (fun z => absurd z.1 (by decide))]
    by_cases y : q = 150 + pn
    · rw [if_pos ⟨rfl, y⟩, cl_fe (by omega) (by omega)]
      show h 76 (q - 150) = h4 156 (16 * pn8 n + 3)
      rw [g1 156 _ (by decide) (by decide) (by decide), a7, if_pos rfl, show q - 150 = pn by omega]
    · rw [if_neg (fun z => y z.2), if_neg (fun z => absurd z.1 (by decide))]
      exact (if_neg y).symm
  · rw [g1 0 13 (by decide) (by decide) (by decide), a1_w 0 13 (by omega)]
  · rw [g1 0 14 (by decide) (by decide) (by decide), a1_w 0 14 (by omega)]
  · rw [g1 o k (by omega) (by omega) (by omega), a1_w o k (by omega)]
  · rw [g1 195 0 (by decide) (by decide) (by decide), a1_w 195 0 (by omega)]
  · rw [g1 195 1 (by decide) (by decide) (by decide), a1_w 195 1 (by omega)]
  · rw [g1 o k (by omega) (by omega) (by omega), a1_w o k (by omega)]
  · rw [g1 70 11 (by decide) (by decide) (by decide), a1_w 70 11 (by omega)]
/-- a meter moved by hand_w -/
theorem SM.move (s : SM D h) (hn : h 154 1 = (n : Int)) (t2_w : mn_w < nM D) (t4_w : pn < 12) (ke : KEP n mn_w pn 1 h h1) (c1_w : ∀ x k : Nat, x ≠ 74 → h2 x k = h1 x k) (c2 : ∀ k : Nat, h2 74 k = if 12 * mn_w + pn ≤ k ∧ k < 12 * mn_w + 12 then v else h1 74 k) (rk : RKP n (thz h2) h3) (d1_w : ∀ x k : Nat, x ≠ 194 → h4 x k = h3 x k) (d2_w : ∀ k : Nat, h4 194 k = if 78 + (12 * mn_w + pn) ≤ k ∧ k < 78 + (12 * mn_w + 12) then v else h3 194 k) : SM D h4 := by
  have m6_w := s.1
  have s12 := s.2.1
  obtain ⟨n8, p7_w⟩ := s.n8 hn
  obtain ⟨a1_w, a2, a3, a4, a5, a6, a7, a8⟩ := ke
  obtain ⟨b1, b2, b3, b4⟩ := rk
  have g : ∀ o k : Nat, o ≠ 182 → o ≠ 194 → h4 o k = h2 o k := fun o k z1 z2 => by
    rw [d1_w o k z2, b1 o k (by omega) (by omega)]
    exact th_e z1
  have g1 : ∀ o k : Nat, o ≠ 182 → o ≠ 194 → o ≠ 74 → h4 o k = h1 o k := fun o k z1 z2 z3 => by
    rw [g o k z1 z2, c1_w o k z3]
  have r0 : ∀ k : Nat, h2 194 k = h 194 k := fun k => by
    rw [c1_w 194 k (by decide)]
    exact a1_w 194 k (by omega)
  have r1_w : ∀ k : Nat, ¬ (78 + (12 * mn_w + pn) ≤ k ∧ k < 78 + (12 * mn_w + 12)) → k < 1287 → h4 194 k = h 194 k := fun k z1 z2 => by
    rw [d2_w, if_neg z1, b1 194 k (by omega) (by omega), th_e (by decide)]
    exact r0 k
  have e0 : h4 156 (16 * pn8 n) = 1 := (g1 156 _ (by decide) (by decide) (by decide)).trans a4
  refine s.deed (n := n) (mn_w := mn_w) (pn := pn) (u := fun q => if 78 + (12 * mn_w + pn) ≤ q ∧ q < 78 + (12 * mn_w + 12) then v else cl 70 h q) hn ((g1 154 1 (by decide) (by decide) (by decide)).trans a2) ?_ (fun k z => (g1 156 k (by decide) (by decide) (by decide)).trans (a3 k z)) (fun i z q zq => ?_) (fun q zq => ?_) ((g1 156 _ (by decide) (by decide) (by decide)).trans a5) (by omega) ((g1 156 _ (by decide) (by decide) (by decide)).trans a6) (by omega) (Or.inr (Or.inl e0)) (fun q i => ?_) (fun q i => ?_) (fun q i => ?_) ⟨?_, ?_⟩ (fun o k z1 z2 => ?_) (fun k z1 z2 => r1_w k (by omega) z2) ⟨?_, ?_⟩ (fun o k z1 z2 => ?_) ?_
  · rw [d1_w 182 18 (by decide)]
    exact b2
  · rw [d2_w, if_neg (by omega), b3 i z q zq, th_e (by decide)]
    exact r0 _
  · rw [d2_w, if_neg (by omega), b4 q zq, th_e (by decide)]
    exact r0 _
  · show cl 70 h4 q = if 78 + (12 * mn_w + pn) ≤ q ∧ q < 78 + (12 * mn_w + 12) then v else cl 70 h q
    by_cases y : 78 + (12 * mn_w + pn) ≤ q ∧ q < 78 + (12 * mn_w + 12)
    · rw [if_pos y, cl_su (by omega) (by omega), g _ _ (by decide) (by decide), c2, if_pos (by omega)]
    · rw [if_neg y]
      unfold cl
      rw [g1 72 _ (by decide) (by decide) (by decide), g1 76 _ (by decide) (by decide) (by decide), g1 70 _ (by decide) (by decide) (by decide), a1_w 72 _ (by omega), a1_w 76 _ (by omega), a1_w 70 _ (by omega)]
      by_cases y1 : q < 78
      · rw [if_pos y1, if_pos y1]
      · rw [if_neg y1, if_neg y1]
        by_cases y2 : q < 150
        · rw [if_pos y2, if_pos y2, g _ _ (by decide) (by decide), c2, if_neg (by omega)]
          exact a1_w 74 _ (by omega)
        · rw [if_neg y2, if_neg y2]
  · show h4 194 (0 + q) = if 78 + (12 * mn_w + pn) ≤ q ∧ q < 78 + (12 * mn_w + 12) then v else cl 70 h q
    rw [Nat.zero_add]
    by_cases y : 78 + (12 * mn_w + pn) ≤ q ∧ q < 78 + (12 * mn_w + 12)
    · rw [if_pos y, d2_w, if_pos y]
    · rw [if_neg y, r1_w q y (by have := i.le m6_w s12; omega), s.2.2.1 q i]
      show h 194 q = h 194 (0 + q)
      rw [Nat.zero_add]
  · show cl 70 h q = tkb (ent (pn8 n) h4) mn_w pn _ q
    have e00 : ent (pn8 n) h4 0 = 1 := e0
    unfold tkb
    rw [e00, if_neg (fun z => absurd z.1 (by decide))]
    by_cases y : 78 + 12 * mn_w ≤ q ∧ q < 78 + 12 * mn_w + 12
    · rw [if_pos ⟨rfl, y⟩, cl_su (by omega) (by omega)]
      show h 74 (q - 78) = h4 156 (16 * pn8 n + (4 + (q - 78 - 12 * mn_w)))
      rw [g1 156 _ (by decide) (by decide) (by decide), show 16 * pn8 n + (4 + (q - 78 - 12 * mn_w)) = 16 * pn8 n + 4 + (q - 78 - 12 * mn_w) by omega, a8 _ (by omega)]
      exact congrArg (h 74) (by omega)
    · rw [if_neg (fun z => y z.2), if_neg (fun z => absurd z.1 (by decide)), if_neg (fun z => absurd z.1 (by decide))]
      exact (if_neg (by omega)).symm
  · rw [g1 0 13 (by decide) (by decide) (by decide), a1_w 0 13 (by omega)]
  · rw [g1 0 14 (by decide) (by decide) (by decide), a1_w 0 14 (by omega)]
  · rw [g1 o k (by omega) (by omega) (by omega), a1_w o k (by omega)]
  · rw [g1 195 0 (by decide) (by decide) (by decide), a1_w 195 0 (by omega)]
  · rw [g1 195 1 (by decide) (by decide) (by decide), a1_w 195 1 (by omega)]
  · rw [g1 o k (by omega) (by omega) (by omega), a1_w o k (by omega)]
  · rw [g1 70 11 (by decide) (by decide) (by decide), a1_w 70 11 (by omega)]
end SMD
end
section
/-! ===== run, undo, see on_w both_w sides keep_w the state_w alike_w ===== -/
section SMR
variable {h h1 h2 h3 h4 h' : XH} {D : DD} {n r : Nat} {u : Nat → Int} {mn_w pn : Nat} {v : Int}
theorem u3_f (f : FrW u3_W h h') {o k : Nat} (z : o ≠ 28 ∧ o ≠ 78 ∧ o ≠ 80 ∧ o ≠ 82 ∧ o ≠ 84 ∧ (o < 157 ∨ 178 ≤ o)) : h' o k = h o k := f o k (by
  unfold aW u3_W
  rw [Bool.or_eq_false_iff, List.contains_eq_mem, List.contains_eq_mem, decide_eq_false_iff_not, decide_eq_false_iff_not]
  simp only [List.mem_cons, List.not_mem_nil, or_false, Prod.mk.injEq]
  omega)
theorem m270_f (f : Fr (m_W 270) h h') {o k : Nat} (z : o < 182) : h' o k = h o k := f o k (fun y => absurd y (by omega)) (fr_lo (by decide) (by omega))
/-- a run by hand_w -/
theorem SM.run (s : SM D h) (hn : h 154 1 = (n : Int)) (hr : h 70 10 = (r : Int)) (ke : KEP n 0 0 3 h h1) (c1_w : FrW u3_W h1 h2) (e2_w : h' = j_up h2 70 10 ((r + 1 : Nat) : Int)) (rk : RKP n (thz h') h3) (d1_w : Fr (m_W 270) h3 h4) (d2_w : ∀ q : Nat, q < 162 ∨ 404 ≤ q → h4 194 q = h3 194 q) (d3_w : h4 194 162 = ((r + 1 : Nat) : Int)) : SM D h4 := by
  have m6_w := s.1
  have s12 := s.2.1
  obtain ⟨n8, p7_w⟩ := s.n8 hn
  obtain ⟨a1_w, a2, a3, a4, a5, a6, a7, a8⟩ := ke
  obtain ⟨b1, b2, b3, b4⟩ := rk
  have g : ∀ o k : Nat, o < 182 → h4 o k = h' o k := fun o k z => by
    rw [m270_f d1_w z, b1 o k (by omega) (by omega)]
    exact th_e (by omega)
  have g1 : ∀ o k : Nat, o < 157 → o ≠ 28 ∧ o ≠ 78 ∧ o ≠ 80 ∧ o ≠ 82 ∧ o ≠ 84 → ¬ (o = 70 ∧ k = 10) → h4 o k = h1 o k := fun o k z1 z2 z3 => by
    rw [g o k (by omega), e2_w, up_ne z3, u3_f c1_w (by omega)]
  have r0 : ∀ k : Nat, h' 194 k = h 194 k := fun k => by
    rw [e2_w, up_ne (by omega), u3_f c1_w (by omega)]
    exact a1_w 194 k (by omega)
  have e0 : h4 156 (16 * pn8 n) = 3 := (g1 156 _ (by decide) (by decide) (by omega)).trans a4
  have hc_w : ∀ q : Nat, q < 162 → cl 70 h4 q = cl 70 h q := fun q z => by
    unfold cl
    rw [g1 72 _ (by decide) (by decide) (by omega), g1 74 _ (by decide) (by decide) (by omega), g1 76 _ (by decide) (by decide) (by omega), a1_w 72 _ (by omega), a1_w 74 _ (by omega), a1_w 76 _ (by omega), if_pos z, if_pos z]
  refine s.deed (n := n) (mn_w := 0) (pn := 0) (u := fun q => if q = 162 then ((r + 1 : Nat) : Int) else cl 70 h q) hn ((g1 154 1 (by decide) (by decide) (by omega)).trans a2) ?_ (fun k z => (g1 156 k (by decide) (by decide) (by omega)).trans (a3 k z)) (fun i z q zq => ?_) (fun q zq => ?_) ((g1 156 _ (by decide) (by decide) (by omega)).trans a5) (by omega) ((g1 156 _ (by decide) (by decide) (by omega)).trans a6) (by omega) (Or.inr (Or.inr (Or.inr e0))) (fun q i => ?_) (fun q i => ?_) (fun q i => ?_) ⟨?_, ?_⟩ (fun o k z1 z2 => ?_) (fun k z1 z2 => ?_) ⟨?_, ?_⟩ (fun o k z1 z2 => ?_) ?_
  · rw [d1_w 182 18 (fun _ => rfl) rfl]
    exact b2
  · rw [d2_w _ (by omega), b3 i z q zq, th_e (by decide)]
    exact r0 _
  · rw [d2_w _ (by omega), b4 q zq, th_e (by decide)]
    exact r0 _
  · show cl 70 h4 q = if q = 162 then ((r + 1 : Nat) : Int) else cl 70 h q
    by_cases y : q = 162
    · rw [if_pos y, cl_ru (by omega), g _ _ (by decide), e2_w, up_eq]
    · rw [if_neg y]
      exact hc_w q (by have := i.le m6_w s12; omega)
  · show h4 194 (0 + q) = if q = 162 then ((r + 1 : Nat) : Int) else cl 70 h q
    rw [Nat.zero_add]
    by_cases y : q = 162
    · rw [if_pos y, y, d3_w]
    · have := i.le m6_w s12
      rw [if_neg y, d2_w q (by omega), b1 194 q (by omega) (by omega), th_e (by decide), r0, s.2.2.1 q i]
      show h 194 q = h 194 (0 + q)
      rw [Nat.zero_add]
  · show cl 70 h q = tkb (ent (pn8 n) h4) 0 0 _ q
    have e00 : ent (pn8 n) h4 0 = 3 := e0
    unfold tkb
    rw [e00, if_neg (fun z => absurd z.1 (by decide)), if_neg (fun z => absurd z.1 (by decide)), if_neg (fun z => absurd z.1 (by decide))]
    by_cases y : q = 162
    · rw [if_pos ⟨rfl, y⟩, cl_ru (by omega), hr]
      show (r : Int) = (if q = 162 then ((r + 1 : Nat) : Int) else cl 70 h q) - 1
      rw [if_pos y]
      omega
    · rw [if_neg (fun z => y z.2)]
      exact (if_neg y).symm
  · rw [g1 0 13 (by decide) (by decide) (by omega), a1_w 0 13 (by omega)]
  · rw [g1 0 14 (by decide) (by decide) (by omega), a1_w 0 14 (by omega)]
  · rw [g1 o k (by omega) (by omega) (by omega), a1_w o k (by omega)]
  · rw [d2_w k (by omega), b1 194 k (by omega) (by omega), th_e (by decide), r0]
  · rw [d1_w 195 0 (fun y => absurd y (by decide)) rfl, b1 195 0 (by omega) (by omega), th_e (by decide), e2_w, up_ne (by omega), u3_f c1_w (by omega), a1_w 195 0 (by omega)]
  · rw [d1_w 195 1 (fun y => absurd y (by decide)) rfl, b1 195 1 (by omega) (by omega), th_e (by decide), e2_w, up_ne (by omega), u3_f c1_w (by omega), a1_w 195 1 (by omega)]
  · rw [g1 o k (by omega) (by omega) (by omega), a1_w o k (by omega)]
  · rw [g1 70 11 (by decide) (by decide) (by omega), a1_w 70 11 (by omega)]
/-- the last_w deed is_w undone -/
theorem SM.undo (s : SM D h) (hn : h 154 1 = ((n + 1 : Nat) : Int)) (hr : 0 ≤ h 70 10 ∧ h 70 10 ≤ 100) (em : h 156 (16 * n + 1) = (mn_w : Int)) (hm_w : mn_w < 6) (ep : h 156 (16 * n + 2) = (pn : Int)) (hp : pn < 13) (h12 : h 156 (16 * n) = 2 → pn < 12) (tk : TKB n mn_w pn h h1) (f1_w : ∀ x k : Nat, ¬ (x = 194 ∧ k < 404) → ¬ (x = 182 ∧ k = 18) → h2 x k = thz h1 x k) (f2_w : h2 182 18 = (n : Int)) (f3_w : ∀ q : Nat, q < 404 → h2 194 q = h1 194 (429 * (3 + n) + q)) : SM D h2 := by
  obtain ⟨m6_w, s12, s1_w, s2_w, ⟨n', s3_w⟩, s4_w, s5⟩ := s
  have en : n' = n + 1 := by
    have := s3_w.2.1
    omega
  subst en
  have n8 : n + 1 ≤ 8 := s3_w.1
  -- what the class leaves
  have g0 : ∀ o k : Nat, o ≠ 72 → o ≠ 74 → o ≠ 76 → ¬ (o = 70 ∧ k = 10) → ¬ (o = 154 ∧ k = 1) → h1 o k = h o k := fun o k z1 z2 z3 z4 z5 => by
    rcases tk with ⟨-, e⟩ | ⟨-, e, -⟩ | ⟨-, e⟩ | ⟨-, e⟩
    · rw [e, up_ne (by omega), up_ne z5]
    · exact e o k (by omega)
    · rw [e, up_ne (by omega), up_ne z5]
    · rw [e, up_ne z4, up_ne z5]
  have c0 : ∀ q : Nat, q ≤ 162 → cl 70 h1 q = tkb (ent n h) mn_w pn (cl 70 h) q := fun q z => by
    have e00 : ent n h 0 = h 156 (16 * n) := rfl
    unfold tkb
    rw [e00]
    rcases tk with ⟨e, e1_w⟩ | ⟨e, e1_w, -, e3_w⟩ | ⟨e, e1_w⟩ | ⟨e, e1_w⟩
    · rw [e]
      by_cases y : q = 13 * mn_w + pn
      · rw [if_pos ⟨rfl, y⟩, cl_lo (by omega), e1_w, y, up_eq]
        rfl
      · rw [if_neg (fun z => y z.2), if_neg (fun z => absurd z.1 (by decide)), if_neg (fun z => absurd z.1 (by decide)), if_neg (fun z => absurd z.1 (by decide)), e1_w]
        unfold cl
        by_cases y1 : q < 78
        · rw [if_pos y1, if_pos y1, up_ne (by omega), up_ne (by omega)]
        · rw [if_neg y1, if_neg y1, up_ne (by omega), up_ne (by omega), up_ne (by omega), up_ne (by omega), up_ne (by omega), up_ne (by omega)]
    · rw [e, if_neg (fun z => absurd z.1 (by decide))]
      by_cases y : 78 + 12 * mn_w ≤ q ∧ q < 78 + 12 * mn_w + 12
      · rw [if_pos ⟨rfl, y⟩, cl_su (by omega) (by omega), e3_w, if_pos (by omega)]
        show h 156 (16 * n + 4 + (q - 78 - 12 * mn_w)) = h 156 (16 * n + (4 + (q - 78 - 12 * mn_w)))
        exact congrArg (h 156) (by omega)
      · rw [if_neg (fun z => y z.2), if_neg (fun z => absurd z.1 (by decide)), if_neg (fun z => absurd z.1 (by decide))]
        unfold cl
        rw [e1_w 72 _ (by omega), e1_w 76 _ (by omega), e1_w 70 _ (by omega)]
        by_cases y1 : q < 78
        · rw [if_pos y1, if_pos y1]
        · rw [if_neg y1, if_neg y1]
          by_cases y2 : q < 150
          · rw [if_pos y2, if_pos y2, e3_w, if_neg (by omega)]
          · rw [if_neg y2, if_neg y2]
    · have p12 := h12 e
      rw [e, if_neg (fun z => absurd z.1 (by decide)), if_neg (fun z => absurd z.1 (by decide))]
      by_cases y : q = 150 + pn
      · rw [if_pos ⟨rfl, y⟩, cl_fe (by omega) (by omega), e1_w, show q - 150 = pn by omega, up_eq]
        rfl
      · rw [if_neg (fun z => y z.2), if_neg (fun z => absurd z.1 (by decide)), e1_w]
        unfold cl
        by_cases y1 : q < 78
        · rw [if_pos y1, if_pos y1, up_ne (by omega), up_ne (by omega)]
        · rw [if_neg y1, if_neg y1]
          by_cases y2 : q < 150
          · rw [if_pos y2, if_pos y2, up_ne (by omega), up_ne (by omega)]
          · rw [if_neg y2, if_neg y2]
            by_cases y3 : q < 162
            · rw [if_pos y3, if_pos y3, up_ne (by omega), up_ne (by omega)]
            · rw [if_neg y3, if_neg y3, up_ne (by omega), up_ne (by omega)]
    · rw [e, if_neg (fun z => absurd z.1 (by decide)), if_neg (fun z => absurd z.1 (by decide)), if_neg (fun z => absurd z.1 (by decide))]
      by_cases y : q = 162
      · rw [if_pos ⟨rfl, y⟩, cl_ru (by omega), cl_ru (by omega), e1_w, up_eq]
        exact j32_id (by omega) (by omega)
      · rw [if_neg (fun z => y z.2), e1_w]
        unfold cl
        rw [if_pos (show q < 162 by omega), if_pos (show q < 162 by omega), up_ne (by omega), up_ne (by omega), up_ne (by omega), up_ne (by omega), up_ne (by omega), up_ne (by omega)]
  have k154 : h1 154 1 = (n : Int) := by
    rcases tk with ⟨-, e⟩ | ⟨-, -, e, -⟩ | ⟨-, e⟩ | ⟨-, e⟩
    · rw [e, up_ne (by omega), up_eq]
    · exact e
    · rw [e, up_ne (by omega), up_eq]
    · rw [e, up_ne (by omega), up_eq]
  have g : ∀ o k : Nat, o ≠ 182 → o ≠ 194 → h2 o k = h1 o k := fun o k z1 z2 => by
    rw [f1_w o k (by omega) (by omega)]
    exact th_e z1
  have r0 : ∀ k : Nat, h1 194 k = h 194 k := fun k => g0 194 k (by decide) (by decide) (by decide) (by omega) (by omega)
  have r1_w : ∀ k : Nat, 404 ≤ k → h2 194 k = h 194 k := fun k z => by
    rw [f1_w 194 k (by omega) (by omega), th_e (by decide)]
    exact r0 k
  have hc_w : cl 70 h2 = cl 70 h1 := cl_eq (fun o k a b => g o k (by omega) (by omega))
  have gg : ∀ o k : Nat, o ≠ 182 → o ≠ 194 → o ≠ 72 → o ≠ 74 → o ≠ 76 → ¬ (o = 70 ∧ k = 10) → ¬ (o = 154 ∧ k = 1) → h2 o k = h o k := fun o k z1 z2 z3 z4 z5 z6 z7 => (g o k z1 z2).trans (g0 o k z3 z4 z5 z6 z7)
  refine ⟨m6_w, s12, ?_, ?_, ⟨n, s3_w.pop m6_w s12 ((g 154 1 (by decide) (by decide)).trans k154) f2_w (fun k => gg 156 k (by decide) (by decide) (by decide) (by decide) (by decide) (by omega) (by omega)) (fun q a b => r1_w q (by omega)) (fun q z => (f3_w q z).trans (r0 _))⟩, s4_w.fr m6_w s12 (gg 0 13 (by decide) (by decide) (by decide) (by decide) (by decide) (by omega) (by omega)) (fun o k a b => gg o k (by omega) (by omega) (by omega) (by omega) (by omega) (by omega) (by omega)) (fun k a b => r1_w k (by omega)) (gg 195 0 (by decide) (by decide) (by decide) (by decide) (by decide) (by omega) (by omega)), s5.fr m6_w s12 (gg 0 14 (by decide) (by decide) (by decide) (by decide) (by decide) (by omega) (by omega)) (fun o k a b => gg o k (by omega) (by omega) (by omega) (by omega) (by omega) (by omega) (by omega)) (fun k a b => r1_w k (by omega)) (gg 195 1 (by decide) (by decide) (by decide) (by decide) (by decide) (by omega) (by omega))⟩
  · obtain ⟨mn', pn', t1_w, -, t3_w, -, -, t6⟩ := s3_w.2.2.2 n (by omega)
    have em' : mn' = mn_w := by
      have : h 156 (16 * n + 1) = (mn' : Int) := t1_w
      omega
    have ep' : pn' = pn := by
      have : h 156 (16 * n + 2) = (pn' : Int) := t3_w
      omega
    subst em'
    subst ep'
    have nx : nxt (n + 1) n h = bl 0 h := if_pos rfl
    rw [nx] at t6
    intro q i
    have l := i.le m6_w s12
    rw [hc_w, c0 q l, tkb_cg s1_w (fun _ _ => rfl) q i, ← t6 q i]
    show h 194 (429 * (3 + n) + q) = h2 194 (0 + q)
    rw [Nat.zero_add, f3_w q (by omega), r0]
  · obtain ⟨w, w1_w, w2_w, w3_w, w4_w⟩ := s2_w
    refine ⟨w, w1_w, (gg 70 11 (by decide) (by decide) (by decide) (by decide) (by decide) (by omega) (by omega)).trans w2_w, (r1_w _ (by omega)).trans w3_w, fun i z => ?_⟩
    rw [gg (70 + 16) _ (by decide) (by decide) (by decide) (by decide) (by decide) (by omega) (by omega), gg (70 + 18) _ (by decide) (by decide) (by decide) (by decide) (by decide) (by omega) (by omega), gg (70 + 20) _ (by decide) (by decide) (by decide) (by decide) (by decide) (by omega) (by omega), r1_w _ (by omega), r1_w _ (by omega), r1_w _ (by omega)]
    exact w4_w i z
end SMR
end
section
/-! ===== see, mark_w on_w both_w sides keep_w the state_w alike_w ===== -/
section SMK
variable {h h1 h2 h3 h4 h' : XH} {D : DD} {n : Nat} {t u v : Int}
/-- one more_w share is_w seen_w -/
theorem SM.see (s : SM D h) (hn : h 70 11 = (n : Int)) (n8 : n < 8) (e1_w : h1 = j_up (j_up (j_up (j_up h 86 n t) 88 n u) 90 n v) 70 11 ((n + 1 : Nat) : Int)) (e2_w : h2 = j_up (j_up (j_up (j_up (thz h1) 194 (405 + 3 * n) t) 194 (405 + 3 * n + 1) u) 194 (405 + 3 * n + 2) v) 194 404 ((n + 1 : Nat) : Int)) : SM D h2 := by
  obtain ⟨m6_w, s12, s1_w, ⟨w, w1_w, w2_w, w3_w, w4_w⟩, ⟨k, s3_w⟩, s4_w, s5⟩ := s
  have en : w = n := by omega
  subst en
  have g : ∀ o k : Nat, o ≠ 182 → o ≠ 194 → h2 o k = h1 o k := fun o k z1 z2 => by
    rw [e2_w, up_ne (by omega), up_ne (by omega), up_ne (by omega), up_ne (by omega)]
    exact th_e z1
  have g0 : ∀ o k : Nat, o ≠ 182 → o ≠ 194 → o ≠ 86 → o ≠ 88 → o ≠ 90 → ¬ (o = 70 ∧ k = 11) → h2 o k = h o k := fun o k z1 z2 z3 z4 z5 z6 => by
    rw [g o k z1 z2, e1_w, up_ne z6, up_ne (by omega), up_ne (by omega), up_ne (by omega)]
  have r0 : ∀ k : Nat, k < 404 ∨ 429 ≤ k → h2 194 k = h 194 k := fun k z => by
    rw [e2_w, up_ne (by omega), up_ne (by omega), up_ne (by omega), up_ne (by omega), th_e (by decide), e1_w, up_ne (by omega), up_ne (by omega), up_ne (by omega), up_ne (by omega)]
  refine ⟨m6_w, s12, ?_, ⟨w + 1, by omega, ?_, ?_, fun i z => ?_⟩, ⟨k, ?_⟩, s4_w.fr m6_w s12 (g0 0 13 (by decide) (by decide) (by decide) (by decide) (by decide) (by omega)) (fun o k a b => g0 o k (by omega) (by omega) (by omega) (by omega) (by omega) (by omega)) (fun k a b => r0 k (by omega)) (g0 195 0 (by decide) (by decide) (by decide) (by decide) (by decide) (by omega)), s5.fr m6_w s12 (g0 0 14 (by decide) (by decide) (by decide) (by decide) (by decide) (by omega)) (fun o k a b => g0 o k (by omega) (by omega) (by omega) (by omega) (by omega) (by omega)) (fun k a b => r0 k (by omega)) (g0 195 1 (by decide) (by decide) (by decide) (by decide) (by decide) (by omega))⟩
  · intro q i
    have l := i.le m6_w s12
    have e : cl 70 h2 q = cl 70 h q := by
      unfold cl
      rw [g0 72 _ (by decide) (by decide) (by decide) (by decide) (by decide) (by omega), g0 74 _ (by decide) (by decide) (by decide) (by decide) (by decide) (by omega), g0 76 _ (by decide) (by decide) (by decide) (by decide) (by decide) (by omega), g0 70 10 (by decide) (by decide) (by decide) (by decide) (by decide) (by omega)]
    rw [e, s1_w q i]
    exact (r0 _ (by omega)).symm
  · rw [g 70 11 (by decide) (by decide), e1_w, up_eq]
  · rw [Nat.zero_add, e2_w, up_eq]
  · by_cases y : i = w
    · subst y
      refine ⟨?_, ?_, ?_⟩
      · rw [Nat.zero_add, g 86 _ (by decide) (by decide), e1_w, up_ne (by omega), up_ne (by omega), up_ne (by omega), up_eq, e2_w, up_ne (by omega), up_ne (by omega), up_ne (by omega), up_eq]
      · rw [Nat.zero_add, g 88 _ (by decide) (by decide), e1_w, up_ne (by omega), up_ne (by omega), up_eq, e2_w, up_ne (by omega), up_ne (by omega), up_eq]
      · rw [Nat.zero_add, g 90 _ (by decide) (by decide), e1_w, up_ne (by omega), up_eq, e2_w, up_ne (by omega), up_eq]
    · have w5 := w4_w i (by omega)
      rw [Nat.zero_add, Nat.zero_add, Nat.zero_add] at w5
      have x1_w : ∀ o : Nat, o = 86 ∨ o = 88 ∨ o = 90 → h2 o i = h o i := fun o z => by
        rw [g o i (by omega) (by omega), e1_w, up_ne (by omega), up_ne (by omega), up_ne (by omega), up_ne (by omega)]
      have x2_w : ∀ q : Nat, 405 ≤ q → q < 405 + 3 * w → h2 194 q = h 194 q := fun q z1 z2 => by
        rw [e2_w, up_ne (by omega), up_ne (by omega), up_ne (by omega), up_ne (by omega), th_e (by decide), e1_w, up_ne (by omega), up_ne (by omega), up_ne (by omega), up_ne (by omega)]
      rw [Nat.zero_add, Nat.zero_add, Nat.zero_add, x1_w (70 + 16) (by omega), x1_w (70 + 18) (by omega), x1_w (70 + 20) (by omega), x2_w _ (by omega) (by omega), x2_w _ (by omega) (by omega), x2_w _ (by omega) (by omega)]
      exact w5
  · obtain ⟨q8_w, q1_w, q2_w, q3_w⟩ := s3_w
    refine ⟨q8_w, (g0 154 1 (by decide) (by decide) (by decide) (by decide) (by decide) (by omega)).trans q1_w, ?_, fun i z => (q3_w i z).cg ?_ (EqD.of m6_w s12 (fun q zq => (r0 _ (by omega)).symm)) (fun k _ => (g0 156 _ (by decide) (by decide) (by decide) (by decide) (by decide) (by omega)).symm)⟩
    · rw [e2_w, up_ne (by omega), up_ne (by omega), up_ne (by omega), up_ne (by omega), show thz h1 182 18 = h1 182 18 from up_ne (by omega), e1_w, up_ne (by omega), up_ne (by omega), up_ne (by omega), up_ne (by omega)]
      exact q2_w
    · unfold nxt
      by_cases y : i + 1 = k
      · rw [if_pos y, if_pos y]
        exact EqD.of m6_w s12 (fun q zq => (r0 _ (by omega)).symm)
      · rw [if_neg y, if_neg y]
        exact EqD.of m6_w s12 (fun q zq => (r0 _ (by omega)).symm)
end SMK
end
section
/-! ===== marks_w on_w both_w sides keep_w the state_w alike_w ===== -/
section SML
variable {h h1 h2 h3 h4 h' : XH} {D : DD} {b c d f g : Nat}
theorem cl_cp (lc : LCP b d h h1) (z : ∀ o k : Nat, b ≤ o → o ≤ b + 20 → h4 o k = h1 o k) : ∀ q : Nat, q ≤ 162 → cl b h4 q = cl d h q := fun q l => by
  obtain ⟨-, l1, l2, l3, -, -, -, -, -, -, -, l4, -⟩ := lc
  rw [cl_eq z]
  unfold cl
  by_cases y1 : q < 78
  · rw [if_pos y1, if_pos y1, l1 q y1]
  · rw [if_neg y1, if_neg y1]
    by_cases y2 : q < 150
    · rw [if_pos y2, if_pos y2, l2 _ (by omega)]
    · rw [if_neg y2, if_neg y2]
      by_cases y3 : q < 162
      · rw [if_pos y3, if_pos y3, l3 _ (by omega)]
      · rw [if_neg y3, if_neg y3, l4]
theorem sen_cp {c0 : Nat} (lc : LCP b d h h1) (z : ∀ o k : Nat, b ≤ o → o ≤ b + 20 → h4 o k = h1 o k) (s : SEN d c0 h) (a2 : ∀ q : Nat, 404 ≤ q → q < 429 → h4 194 (c + q) = h 194 (c0 + q)) : SEN b c h4 := by
  obtain ⟨-, -, -, -, -, -, -, -, l5, l6, l7, -, l8⟩ := lc
  obtain ⟨w, w1_w, w2_w, w3_w, w4_w⟩ := s
  refine ⟨w, w1_w, (z b 11 (by omega) (by omega)).trans (l8.trans w2_w), (a2 404 (by omega) (by omega)).trans w3_w, fun i y => ?_⟩
  obtain ⟨x1_w, x2_w, x3⟩ := w4_w i y
  refine ⟨(z _ _ (by omega) (by omega)).trans ((l5 i (by omega)).trans (x1_w.trans (a2 _ (by omega) (by omega)).symm)), (z _ _ (by omega) (by omega)).trans ((l6 i (by omega)).trans (x2_w.trans (a2 _ (by omega) (by omega)).symm)), (z _ _ (by omega) (by omega)).trans ((l7 i (by omega)).trans (x3.trans (a2 _ (by omega) (by omega)).symm))⟩
theorem MKb.lay (m6_w : nM D ≤ 6) (s12 : nS D ≤ 12) (s1_w : EqD D (cl 70 h) (bl 0 h)) (s2_w : SEN 70 0 h) (lc : LCP b 70 h h1) (z : ∀ o k : Nat, b ≤ o → o ≤ b + 20 → h4 o k = h1 o k) (a2 : ∀ q : Nat, q < 429 → h4 194 (c + q) = h 194 q) (a3 : h4 0 f = 1) (a4 : h4 195 g = 1) : MKb D b c f g h4 := by
  refine ⟨Or.inr a4, ⟨fun e => absurd (a3.symm.trans e) (by decide), fun e => absurd (a4.symm.trans e) (by decide)⟩, fun _ => ⟨fun q i => ?_, sen_cp lc z s2_w (fun q y1 y2 => (a2 q y2).trans (by rw [Nat.zero_add]))⟩⟩
  have l := i.le m6_w s12
  rw [cl_cp lc z q l, s1_w q i]
  show h 194 (0 + q) = h4 194 (c + q)
  rw [Nat.zero_add, a2 q (by omega)]
theorem SM.lay0 (s : SM D h) (lc : LCP 112 70 h h1) (e2_w : h2 = j_up h1 0 13 1) (f1_w : ∀ x k : Nat, ¬ (x = 194 ∧ 429 ≤ k ∧ k < 858) → h3 x k = j_up (thz h2) 195 0 1 x k) (f2_w : ∀ q : Nat, q < 429 → h3 194 (429 + q) = h2 194 q) (e4_w : h4 = j_up h3 182 18 (h3 182 18)) : SM D h4 := by
  obtain ⟨m6_w, s12, s1_w, s2_w, ⟨n, s3_w⟩, s4_w, s5⟩ := s
  have g : ∀ o k : Nat, o ≠ 182 → o ≠ 194 → ¬ (o = 195 ∧ k = 0) → ¬ (o = 0 ∧ k = 13) → h4 o k = h1 o k := fun o k z1 z2 z3 z4 => by
    rw [e4_w, up_ne (by omega), f1_w o k (by omega), up_ne z3, th_e z1, e2_w, up_ne z4]
  have g0 : ∀ o k : Nat, o ≠ 182 → o ≠ 194 → ¬ (o = 195 ∧ k = 0) → ¬ (o = 0 ∧ k = 13) → ¬ (112 ≤ o ∧ o ≤ 132) → h4 o k = h o k := fun o k z1 z2 z3 z4 z5 => (g o k z1 z2 z3 z4).trans (lc.1 o k (by omega))
  have r1_w : ∀ k : Nat, h2 194 k = h 194 k := fun k => by
    rw [e2_w, up_ne (by omega)]
    exact lc.1 194 k (by omega)
  have r0 : ∀ k : Nat, k < 429 ∨ 858 ≤ k → h4 194 k = h 194 k := fun k z => by
    rw [e4_w, up_ne (by omega), f1_w 194 k (by omega), up_ne (by omega), th_e (by decide)]
    exact r1_w k
  have z70 : ∀ o k : Nat, 70 ≤ o → o ≤ 70 + 20 → h4 o k = h o k := fun o k a b => g0 o k (by omega) (by omega) (by omega) (by omega) (by omega)
  refine ⟨m6_w, s12, ?_, s2_w.fr z70 (fun k a b => r0 k (by omega)), ⟨n, ?_⟩, MKb.lay m6_w s12 s1_w s2_w lc (fun o k a b => g o k (by omega) (by omega) (by omega) (by omega)) (fun q z => ?_) ?_ ?_, s5.fr m6_w s12 (g0 0 14 (by decide) (by decide) (by omega) (by omega) (by omega)) (fun o k a b => g0 o k (by omega) (by omega) (by omega) (by omega) (by omega)) (fun k a b => r0 k (by omega)) (g0 195 1 (by decide) (by decide) (by omega) (by omega) (by omega))⟩
  · rw [cl_eq z70]
    exact s1_w.tr (EqD.of m6_w s12 (fun q z => (r0 _ (by omega)).symm))
  · obtain ⟨q8_w, q1_w, q2_w, q3_w⟩ := s3_w
    refine ⟨q8_w, (g0 154 1 (by decide) (by decide) (by omega) (by omega) (by omega)).trans q1_w, ?_, fun i z => (q3_w i z).cg ?_ (EqD.of m6_w s12 (fun q zq => (r0 _ (by omega)).symm)) (fun k _ => (g0 156 _ (by decide) (by decide) (by omega) (by omega) (by omega)).symm)⟩
    · rw [e4_w, up_eq, f1_w 182 18 (by omega), up_ne (by omega), show thz h2 182 18 = h2 182 18 from up_ne (by omega), e2_w, up_ne (by omega), lc.1 182 18 (by omega)]
      exact q2_w
    · unfold nxt
      by_cases y : i + 1 = n
      · rw [if_pos y, if_pos y]
        exact EqD.of m6_w s12 (fun q zq => (r0 _ (by omega)).symm)
      · rw [if_neg y, if_neg y]
        exact EqD.of m6_w s12 (fun q zq => (r0 _ (by omega)).symm)
  · rw [e4_w, up_ne (by omega), f2_w q z]
    exact r1_w q
  · rw [e4_w, up_ne (by omega), f1_w 0 13 (by omega), up_ne (by omega), th_e (by decide), e2_w, up_eq]
  · rw [e4_w, up_ne (by omega), f1_w 195 0 (by omega), up_eq]
theorem SM.lay1 (s : SM D h) (lc : LCP 133 70 h h1) (e2_w : h2 = j_up h1 0 14 1) (f1_w : ∀ x k : Nat, ¬ (x = 194 ∧ 858 ≤ k ∧ k < 1287) → h3 x k = j_up (thz h2) 195 1 1 x k) (f2_w : ∀ q : Nat, q < 429 → h3 194 (858 + q) = h2 194 q) (e4_w : h4 = j_up h3 182 18 (h3 182 18)) : SM D h4 := by
  obtain ⟨m6_w, s12, s1_w, s2_w, ⟨n, s3_w⟩, s4_w, s5⟩ := s
  have g : ∀ o k : Nat, o ≠ 182 → o ≠ 194 → ¬ (o = 195 ∧ k = 1) → ¬ (o = 0 ∧ k = 14) → h4 o k = h1 o k := fun o k z1 z2 z3 z4 => by
    rw [e4_w, up_ne (by omega), f1_w o k (by omega), up_ne z3, th_e z1, e2_w, up_ne z4]
  have g0 : ∀ o k : Nat, o ≠ 182 → o ≠ 194 → ¬ (o = 195 ∧ k = 1) → ¬ (o = 0 ∧ k = 14) → ¬ (133 ≤ o ∧ o ≤ 153) → h4 o k = h o k := fun o k z1 z2 z3 z4 z5 => (g o k z1 z2 z3 z4).trans (lc.1 o k (by omega))
  have r1_w : ∀ k : Nat, h2 194 k = h 194 k := fun k => by
    rw [e2_w, up_ne (by omega)]
    exact lc.1 194 k (by omega)
  have r0 : ∀ k : Nat, k < 858 ∨ 1287 ≤ k → h4 194 k = h 194 k := fun k z => by
    rw [e4_w, up_ne (by omega), f1_w 194 k (by omega), up_ne (by omega), th_e (by decide)]
    exact r1_w k
  have z70 : ∀ o k : Nat, 70 ≤ o → o ≤ 70 + 20 → h4 o k = h o k := fun o k a b => g0 o k (by omega) (by omega) (by omega) (by omega) (by omega)
  refine ⟨m6_w, s12, ?_, s2_w.fr z70 (fun k a b => r0 k (by omega)), ⟨n, ?_⟩, s4_w.fr m6_w s12 (g0 0 13 (by decide) (by decide) (by omega) (by omega) (by omega)) (fun o k a b => g0 o k (by omega) (by omega) (by omega) (by omega) (by omega)) (fun k a b => r0 k (by omega)) (g0 195 0 (by decide) (by decide) (by omega) (by omega) (by omega)), MKb.lay m6_w s12 s1_w s2_w lc (fun o k a b => g o k (by omega) (by omega) (by omega) (by omega)) (fun q z => ?_) ?_ ?_⟩
  · rw [cl_eq z70]
    exact s1_w.tr (EqD.of m6_w s12 (fun q z => (r0 _ (by omega)).symm))
  · obtain ⟨q8_w, q1_w, q2_w, q3_w⟩ := s3_w
    refine ⟨q8_w, (g0 154 1 (by decide) (by decide) (by omega) (by omega) (by omega)).trans q1_w, ?_, fun i z => (q3_w i z).cg ?_ (EqD.of m6_w s12 (fun q zq => (r0 _ (by omega)).symm)) (fun k _ => (g0 156 _ (by decide) (by decide) (by omega) (by omega) (by omega)).symm)⟩
    · rw [e4_w, up_eq, f1_w 182 18 (by omega), up_ne (by omega), show thz h2 182 18 = h2 182 18 from up_ne (by omega), e2_w, up_ne (by omega), lc.1 182 18 (by omega)]
      exact q2_w
    · unfold nxt
      by_cases y : i + 1 = n
      · rw [if_pos y, if_pos y]
        exact EqD.of m6_w s12 (fun q zq => (r0 _ (by omega)).symm)
      · rw [if_neg y, if_neg y]
        exact EqD.of m6_w s12 (fun q zq => (r0 _ (by omega)).symm)
  · rw [e4_w, up_ne (by omega), f2_w q z]
    exact r1_w q
  · rw [e4_w, up_ne (by omega), f1_w 0 14 (by omega), up_ne (by omega), th_e (by decide), e2_w, up_eq]
  · rw [e4_w, up_ne (by omega), f1_w 195 1 (by omega), up_eq]
/-- back to a mark_w -/
theorem SM.back (s : SM D h) (hm_w : (d = 112 ∧ c = 429 ∧ f = 13 ∧ g = 0) ∨ (d = 133 ∧ c = 858 ∧ f = 14 ∧ g = 1)) (hg : h 195 g ≠ 0) (lc : LCP 70 d h h1) (e2_w : h2 = j_up h1 154 1 0) (f1_w : ∀ x k : Nat, ¬ (x = 194 ∧ k < 429) → h3 x k = j_up (thz h2) 195 g 1 x k) (f2_w : ∀ q : Nat, q < 429 → h3 194 q = h2 194 (c + q)) (e4_w : h4 = j_up h3 182 18 0) : SM D h4 := by
  obtain ⟨m6_w, s12, s1_w, s2_w, ⟨n, s3_w⟩, s4_w, s5⟩ := s
  have mk_w : MKb D d c f g h := by
    rcases hm_w with ⟨rfl, rfl, rfl, rfl⟩ | ⟨rfl, rfl, rfl, rfl⟩
    · exact s4_w
    · exact s5
  have hg1 : h 195 g = 1 := by
    rcases mk_w.1 with e | e
    · exact absurd e hg
    · exact e
  obtain ⟨k1_w, k2⟩ := mk_w.2.2 hg
  have gl : ∀ o k : Nat, o ≠ 182 → o ≠ 194 → ¬ (o = 195 ∧ k = g) → ¬ (o = 154 ∧ k = 1) → h4 o k = h1 o k := fun o k z1 z2 z3 z4 => by
    rw [e4_w, up_ne (by omega), f1_w o k (by omega), up_ne z3, th_e z1, e2_w, up_ne z4]
  have g0 : ∀ o k : Nat, o ≠ 182 → o ≠ 194 → ¬ (o = 195 ∧ k = g) → ¬ (o = 154 ∧ k = 1) → ¬ (70 ≤ o ∧ o ≤ 90) → h4 o k = h o k := fun o k z1 z2 z3 z4 z5 => (gl o k z1 z2 z3 z4).trans (lc.1 o k (by omega))
  have g195 : ∀ k : Nat, h4 195 k = h 195 k := fun k => by
    by_cases y : k = g
    · rw [y, hg1, e4_w, up_ne (by omega), f1_w 195 g (by omega), up_eq]
    · exact g0 195 k (by decide) (by decide) (by omega) (by omega) (by omega)
  have r1_w : ∀ k : Nat, h2 194 k = h 194 k := fun k => by
    rw [e2_w, up_ne (by omega)]
    exact lc.1 194 k (by omega)
  have r0 : ∀ k : Nat, 429 ≤ k → h4 194 k = h 194 k := fun k z => by
    rw [e4_w, up_ne (by omega), f1_w 194 k (by omega), up_ne (by omega), th_e (by decide)]
    exact r1_w k
  have rb : ∀ q : Nat, q < 429 → h4 194 q = h 194 (c + q) := fun q z => by
    rw [e4_w, up_ne (by omega), f2_w q z]
    exact r1_w _
  have z70 : ∀ o k : Nat, 70 ≤ o → o ≤ 70 + 20 → h4 o k = h1 o k := fun o k a b => gl o k (by omega) (by omega) (by omega) (by omega)
  refine ⟨m6_w, s12, fun q i => ?_, sen_cp lc z70 k2 (fun q a b => by rw [Nat.zero_add]; exact rb q b), ⟨0, by decide, ?_, ?_, fun i z => by omega⟩, s4_w.fr m6_w s12 (g0 0 13 (by decide) (by decide) (by omega) (by omega) (by omega)) (fun o k a b => g0 o k (by omega) (by omega) (by omega) (by omega) (by omega)) (fun k a b => r0 k (by omega)) (g195 0), s5.fr m6_w s12 (g0 0 14 (by decide) (by decide) (by omega) (by omega) (by omega)) (fun o k a b => g0 o k (by omega) (by omega) (by omega) (by omega) (by omega)) (fun k a b => r0 k (by omega)) (g195 1)⟩
  · have l := i.le m6_w s12
    rw [cl_cp lc z70 q l, k1_w q i]
    show h 194 (c + q) = h4 194 (0 + q)
    rw [Nat.zero_add, rb q (by omega)]
  · rw [e4_w, up_ne (by omega), f1_w 154 1 (by omega), up_ne (by omega), th_e (by decide), e2_w, up_eq]
    rfl
  · rw [e4_w, up_eq]
    rfl
end SML
end
section
/-! ===== the state_w as_w a grid leaves it, and at the beginning ===== -/
section SMB
variable {h h' : XH} {D : DD}
theorem SM.begin (cd : CDw 6 D h) (rf : RF D h) (lb : LB 70 D h h) (b1 : h 154 1 = 0) (b2 : h 0 13 = 0) (b3 : h 0 14 = 0) (br : BGR (nM D) (nS D) h) : SM D h := by
  obtain ⟨l1, l2, l3, l4, l5⟩ := lb
  obtain ⟨r1_w, r2, -, r4, -, r6, r7⟩ := br
  have ix := rf.ix
  have m6_w : nM D ≤ 6 := ix.1.2.2.2.2.2
  have s12 : nS D ≤ 12 := by
    have := ix.2.1.2
    unfold nS
    omega
  refine ⟨m6_w, s12, fun q i => ?_, ⟨0, by decide, l5, r2, fun i z => by omega⟩, ⟨0, by decide, b1, r4, fun i z => by omega⟩, ⟨Or.inl r6, ⟨fun _ => r6, fun _ => b2⟩, fun z => absurd r6 z⟩, ⟨Or.inl r7, ⟨fun _ => r7, fun _ => b3⟩, fun z => absurd r7 z⟩⟩
  have l := i.le m6_w s12
  have e := r1_w q (by omega)
  show cl 70 h q = h 194 (0 + q)
  rw [e]
  by_cases y1 : q < 78
  · rw [if_pos y1, cl_lo y1]
    exact l1 q y1
  · rw [if_neg y1]
    by_cases y2 : q < 78 + 12 * nM D
    · rw [if_pos y2, cl_su (by omega) (by omega)]
      obtain ⟨x, hx⟩ : ∃ x, D.2.2.2.2.1[(q - 78) / 12]? = some x := ⟨_, List.getElem?_eq_getElem (show (q - 78) / 12 < D.2.2.2.2.1.length by
        show (q - 78) / 12 < nM D
        omega)⟩
      have e1_w := l2 _ x hx ((q - 78) % 12) (by omega)
      have e2_w := (ix.2.2.2.2.2.2 _ x hx).2.2
      rw [e2_w, ← e1_w]
      exact congrArg (h 74) (by omega)
    · rw [if_neg y2]
      unfold inD at i
      by_cases y3 : 150 ≤ q ∧ q < 150 + nS D
      · rw [if_pos y3, cl_fe (by omega) (by omega)]
        refine (l3 _ (by omega)).trans ((cd.2.2.1 _ (by omega)).trans (ix.2.2.2.2.1 _ (by omega)).symm)
      · rw [if_neg y3, cl_ru (by omega)]
        exact l4
theorem sm_i0 : SM DD0 i0 := by
  have a1_w : i0 70 10 = 0 := by decide +kernel
  have a2 : i0 70 11 = 0 := by decide +kernel
  have a3 : i0 154 1 = 0 := by decide +kernel
  have a4 : i0 0 13 = 0 := by decide +kernel
  have a5 : i0 0 14 = 0 := by decide +kernel
  have a6 : i0 194 162 = 0 := by decide +kernel
  have a7 : i0 194 404 = 0 := by decide +kernel
  have a8 : i0 182 18 = 0 := by decide +kernel
  have a9 : i0 195 0 = 0 := by decide +kernel
  have a10 : i0 195 1 = 0 := by decide +kernel
  refine ⟨by decide, by decide, fun q i => ?_, ⟨0, by decide, a2, a7, fun i z => by omega⟩, ⟨0, by decide, a3, a8, fun i z => by omega⟩, ⟨Or.inl a9, ⟨fun _ => a9, fun _ => a4⟩, fun z => absurd a9 z⟩, ⟨Or.inl a10, ⟨fun _ => a10, fun _ => a5⟩, fun z => absurd a10 z⟩⟩
  have e : q = 162 := by
    have m0_w : nM DD0 = 0 := rfl
    have s0 : nS DD0 = 0 := rfl
    unfold inD at i
    rw [m0_w, s0] at i
    omega
  subst e
  show cl 70 i0 162 = i0 194 (0 + 162)
  rw [cl_ru (by decide), a1_w]
  exact a6.symm
end SMB
end
section
/-! ===== what lasts from call to call, the state_w told_w in both_w ===== -/
def J5 (h : XH) : Prop := ∃ D : DD, CDw 6 D h ∧ RF D h ∧ SM D h
def Inv5 (h : XH) : Prop := Inv3 h ∧ J5 h
section INV5
variable {xs : Nat → Int} {L K n : Nat} {c d : Nat} {h h' h1 h2 : XH} {D : DD}
theorem Inv5.four (i : Inv5 h) : Inv4 h := ⟨i.1, i.2.choose, i.2.choose_spec.1, i.2.choose_spec.2.1⟩
theorem inv5_i0 : Inv5 i0 := by
  obtain ⟨a, -⟩ := inv4_i0
  refine ⟨a, DD0, ?_, rf_i0, sm_i0⟩
  have p : ∀ k : Nat, k < 24 → i0 6 k = 0 ∧ i0 9 k = 0 ∧ i0 13 k = 0 := fun k z => by
    have t := List.all_eq_true.mp i_pl k (List.mem_range.mpr z)
    rw [Bool.and_eq_true, Bool.and_eq_true] at t
    exact ⟨of_decide_eq_true t.1.1, of_decide_eq_true t.1.2, of_decide_eq_true t.2⟩
  exact ⟨⟨⟨(p 10 (by decide)).1, (p 11 (by decide)).1, (p 12 (by decide)).1, by decide, by decide, by decide⟩, fun k v z => (by cases z), fun k v z => (by cases z), fun k v z => (by cases z), List.nodup_nil⟩, ⟨(p 9 (by decide)).1, by decide, by decide⟩, fun s z => (p s (by omega)).2.1, fun k x z => (by cases z), ⟨fun k x z => (by cases z), fun k z => (p k (by omega)).2.2⟩, fun z => absurd rfl z⟩
theorem feed_i5 (hK_w : 4294967300 ≤ K) {a b e : Int} (hI : Inv5 h) : ∃ (v : Int) (h1 h2 : XH), evF xs L g_ck K g_cW g_M (n + 2) 1 [0, a, b, e] ((a_g3, c, d), h) = some (1, [v], ((a_g3, c, d), h1)) ∧ evF xs L g_ck K g_cW g_M (n + 2) 183 [182, a, b, e] ((a_g3, c, d), h1) = some (1, [v], ((a_g3, c, d), h2)) ∧ Inv5 h2 := by
  obtain ⟨v, h1, h2, e1_w, e2_w, e3_w, e4_w⟩ := feed_i4 (xs := xs) (L := L) (K := K) (n := n) (c := c) (d := d) (a := a) (b := b) (e := e) hK_w hI.four
  obtain ⟨i3_w, D, cd, rf, sm_w⟩ := hI
  refine ⟨v, h1, h2, e1_w, e2_w, e3_w.1, D, cd.fr (fun o k a b => e4_w o k (by omega) (by omega) (by omega) (by omega)), rf.fr (funext fun k => e4_w 188 k (by decide) (by decide) (by decide) (by decide)) (funext fun k => e4_w 189 k (by decide) (by decide) (by decide) (by decide)) (funext fun k => e4_w 190 k (by decide) (by decide) (by decide) (by decide)), sm_w.fr ⟨e4_w 0 13 (by decide) (by decide) (by decide) (by decide), e4_w 0 14 (by decide) (by decide) (by decide) (by decide)⟩ (fun o k a b c => e4_w o k (by omega) (by omega) (by omega) (by omega)) (fun k z => e4_w 194 k (by decide) (by decide) (by decide) (by decide)) ?_ ⟨e4_w 195 0 (by decide) (by decide) (by decide) (by decide), e4_w 195 1 (by decide) (by decide) (by decide) (by decide)⟩⟩
  obtain ⟨-, fr⟩ := fr_all (n + 2) 183 [182, a, b, e] _ _ _ _ _ _ (by decide) rfl (Or.inr rfl) e2_w
  rw [fr 182 18 (fun _ => rfl) rfl]
  obtain ⟨hH, m0_w, m1_w, hm_w⟩ := i3_w.1.1
  obtain ⟨h1', e1', z1, e5_w⟩ := fqA (xs := xs) (L := L) (ck := g_ck) (cW := g_cW) (K := K) (n := n) (a := a) (b := b) (c := e) (g := (a_g3, c, d)) (h := h) (by omega) fg_1 fg_2 fg_3 fg_4 (by decide) rfl ⟨m0_w, m1_w⟩
  have u1 : h1' = h1 := by
    have t := e1'.symm.trans e1_w
    cases t
    rfl
  subst u1
  exact e5_w (fun x => x 182 18 = h 182 18) (fun x m s p => by
    unfold upA
    split
    · have t2_w : (2 : Int).toNat = 2 := rfl
      have t3_w : (3 : Int).toNat = 3 := rfl
      rw [up_ne (fun z => by have := z.1; omega), up_ne (fun z => by have := z.1; omega)]
      exact p
    · exact p) rfl
theorem grid_i5 (hK2 : 20000000000 ≤ K) (hn : n + 41 < 99999) (hI : Inv5 h) : ∃ (v : Int) (h1 h2 : XH), evF xs L g_ck K g_cW g_M (n + 41) 2 [0] ((a_g3, c, d), h) = some (1, [v], ((a_g3, c, d), h1)) ∧ evF xs L g_ck K g_cW g_M (n + 41) 206 [182] ((a_g3, c, d), h1) = some (1, [v], ((a_g3, c, d), h2)) ∧ Inv5 h2 := by
  obtain ⟨v, h1, h2, e1_w, e2_w, e3_w⟩ := grid_i3 (xs := xs) (L := L) (K := K) (c := c) (d := d) (n := n) hK2 hn hI.1
  refine ⟨v, h1, h2, e1_w, e2_w, e3_w, ?_⟩
  obtain ⟨⟨hI0, hS_w, hW⟩, D, cd, rf, sm_w⟩ := hI
  obtain ⟨hH, m0_w, m1_w, hm_w⟩ := hI0.1
  obtain ⟨v', h1', q1_w, q2_w, q3_w, q4_w⟩ := grid_ok (xs := xs) (L := L) (K := K) (c := c) (d := d) (n := n + 40) (by omega) (by omega) hH
  have u : h1' = h1 := by
    have t := q1_w.symm.trans e1_w
    cases t
    rfl
  subst u
  have hm2 : h1' 182 2 = (((h 2 1).toNat : Nat) : Int) := by rw [q4_w 182 2 (Nat.le_refl _), hm_w]; omega
  have hb1 : h 2 1 = (((h 2 1).toNat : Nat) : Int) := by omega
  have hb2 : (h 2 1).toNat ≤ 1000 := by omega
  have hb3 : ∀ k : Nat, k < (h 2 1).toNat → 0 ≤ h 3 k ∧ h 3 k ≤ 127 := fun k z => (hS_w k (by omega)).2
  have c206 : CS24 206 [182] h1' (fun k r h' => k = 1 → ∃ N S P V, TOK (h1' 183) (h 2 1).toNat N S P V ∧ ((∃ f, 0 < f ∧ sGrid S P V (h1' 187) 1001 DD0 0 = .error f ∧ KF h1' h' ∧ h' 194 = h1' 194 ∧ h' 195 = h1' 195 ∧ h' 182 18 = h1' 182 18) ∨ (∃ D, sGrid S P V (h1' 187) 1001 DD0 0 = .ok D ∧ RF D h' ∧ BGR D.2.2.2.2.1.length D.1.toNat h'))) := by
    rw [cs24_206, kk_206s]
    refine ⟨_, hm2, by omega, fun r h' ⟨N, S, P, V, a, b⟩ _ => ⟨N, S, P, V, a, ?_⟩⟩
    rcases b with ⟨f, f0_w, b1, -, b2, b3, -, b5, b6, -⟩ | ⟨D, b1, -, b2, b3⟩
    · exact Or.inl ⟨f, f0_w, b1, b2, b3, b5, b6⟩
    · exact Or.inr ⟨D, b1, b2, b3⟩
  obtain ⟨N, S, P, V, tok, er⟩ := (snd_24 (n + 41) _ _ _ _ _ c206 _ _ _ _ e2_w).2 rfl
  have eb : ∀ k : Nat, k < (h 2 1).toNat → h1' 183 k = h 3 k := fun k z => by
    rw [q4_w 183 k (by decide)]
    exact (hS_w k (by omega)).1.symm
  have tok2 : TOK (h 3) (h 2 1).toNat N S P V := tok.eq eb
  have ew : h1' 187 = wl := (funext fun k => q4_w 187 k (by decide)).trans hW
  rw [ew] at er
  have hE : ∀ f, sGrid S P V wl 1001 DD0 0 = .error f → f ≠ 0 := fun f z => by
    rcases er with ⟨f', f0_w, b1, -⟩ | ⟨D, b1, -⟩
    · rw [b1] at z
      cases z
      omega
    · rw [b1] at z
      cases z
  have c2 : CS24 2 [0] h (fun k r h' => k = 1 → ((∃ f, sGrid S P V wl 1001 DD0 0 = .error f ∧ (∀ o k : Nat, 3 ≤ o → ¬ (29 ≤ o ∧ o ≤ 51) → o ≠ 5 → h' o k = h o k) ∧ ∀ k : Nat, h' 0 k = h 0 k) ∨ (∃ D, sGrid S P V wl 1001 DD0 0 = .ok D ∧ CDw 6 D h' ∧ BGN D h'))) := by
    rw [cs24_2, kk_2s]
    refine ⟨((h 2 1).toNat, N, S, P, V), ?_, ⟨hb1, hb2, hb3⟩, tok2, tok.gd, hE, fun f h' z f1_w f0_w _ _ => Or.inl ⟨f, z, f1_w, f0_w⟩, fun D h' z _ _ cd' bg _ => Or.inr ⟨D, z, cd', bg⟩⟩
    have := tok.le
    show N ≤ 1000
    omega
  have ec := (snd_24 (n + 41) _ _ _ _ _ c2 _ _ _ _ e1_w).2 rfl
  obtain ⟨-, fr⟩ := fr_all (n + 41) 206 [182] _ _ _ _ _ _ (by decide) rfl (Or.inr rfl) e2_w
  have lo_w : ∀ o k : Nat, o < 182 → h2 o k = h1' o k := fun o k a => fr o k (fun z => by omega) (fr_lo (by decide) (by omega))
  rcases er with ⟨f, f0_w, b1, b2, b3, b4, b5⟩ | ⟨D', b1, b2, b3⟩
  · rcases ec with ⟨f', z1, z2, z3⟩ | ⟨D', z1, z2, z3⟩
    · have rf1 : RF D h1' := rf.fr (funext fun k => q4_w 188 k (by decide)) (funext fun k => q4_w 189 k (by decide)) (funext fun k => q4_w 190 k (by decide))
      have cl2 : ∀ o k : Nat, 52 ≤ o → o < 182 → h2 o k = h o k := fun o k a b => (lo_w o k b).trans (z2 o k (by omega) (by omega) (by omega))
      refine ⟨D, cd.fr (fun o k a b => (lo_w o k (by omega)).trans (z2 o k (by omega) (by omega) (by omega))), rf1.kf b2, sm_w.fr ⟨(lo_w 0 13 (by decide)).trans (z3 13), (lo_w 0 14 (by decide)).trans (z3 14)⟩ (fun o k a b c => cl2 o k (by omega) (by omega)) (fun k z => ?_) (b5.trans (q4_w 182 18 (by decide))) ⟨?_, ?_⟩⟩
      · rw [b3]
        exact q4_w 194 k (by decide)
      · rw [b4]
        exact q4_w 195 0 (by decide)
      · rw [b4]
        exact q4_w 195 1 (by decide)
    · rw [b1] at z1
      cases z1
  · rcases ec with ⟨f', z1, z2, -⟩ | ⟨D2, z1, z2, z3⟩
    · rw [b1] at z1
      cases z1
    · rw [b1] at z1
      cases z1
      obtain ⟨⟨l1, l2, l3, l4, l5⟩, -, n1_w, n2_w, n3_w, -⟩ := z3
      have cd2 : CDw 6 D' h2 := z2.fr (fun o k a b => lo_w o k (by omega))
      refine ⟨D', cd2, b2, SM.begin cd2 b2 ⟨fun k z => (lo_w _ _ (by decide)).trans (l1 k z), fun m x z s zs => (lo_w _ _ (by decide)).trans (l2 m x z s zs), fun s z => (lo_w _ _ (by decide)).trans ((l3 s z).trans (lo_w 9 s (by decide)).symm), (lo_w _ _ (by decide)).trans l4, (lo_w _ _ (by decide)).trans l5⟩ ((lo_w _ _ (by decide)).trans n1_w) ((lo_w _ _ (by decide)).trans n2_w) ((lo_w _ _ (by decide)).trans n3_w) b3⟩
end INV5
end
section
/-! ===== work over Inv5 ===== -/
section INV5B
variable {xs : Nat → Int} {L K n : Nat} {c d : Nat} {h h' h1 h2 : XH} {D : DD}
theorem work_i5 (hK2 : 20000000000 ≤ K) (hn : n + 41 < 99999) (hI : Inv5 h) : ∃ (v : Int) (h1 h2 : XH), evF xs L g_ck K g_cW g_M (n + 41) 4 [0] ((a_g3, c, d), h) = some (1, [v], ((a_g3, c, d), h1)) ∧ evF xs L g_ck K g_cW g_M (n + 41) 214 [182] ((a_g3, c, d), h1) = some (1, [v], ((a_g3, c, d), h2)) ∧ Inv5 h2 := by
  obtain ⟨v1_w, v2, h1, h2, e1_w, e2_w, e3_w⟩ := work_i3 (xs := xs) (L := L) (K := K) (c := c) (d := d) (n := n) hK2 hn hI.1
  obtain ⟨⟨hI0, hS_w, hW⟩, D, cd, rf, sm_w⟩ := hI
  obtain ⟨hH, m0_w, m1_w, hm_w⟩ := hI0.1
  obtain ⟨v, h1', q1_w, q2_w, q3_w, q4_w⟩ := work_ok (xs := xs) (L := L) (K := K) (c := c) (d := d) (n := n + 40) (by omega) (by omega) hH
  have u : v1_w = [v] ∧ h1' = h1 := by
    have t := q1_w.symm.trans e1_w
    cases t
    exact ⟨rfl, rfl⟩
  obtain ⟨rfl, u⟩ := u
  subst u
  have hm2 : h1' 182 2 = (((h 2 1).toNat : Nat) : Int) := by rw [q4_w 182 2 (Nat.le_refl _), hm_w]; omega
  have hb1 : h 2 1 = (((h 2 1).toNat : Nat) : Int) := by omega
  have hb2 : (h 2 1).toNat ≤ 1000 := by omega
  have hb3 : ∀ k : Nat, k < (h 2 1).toNat → 0 ≤ h 3 k ∧ h 3 k ≤ 127 := fun k z => (hS_w k (by omega)).2
  have rf1 : RF D h1' := rf.fr (funext fun k => q4_w 188 k (by decide)) (funext fun k => q4_w 189 k (by decide)) (funext fun k => q4_w 190 k (by decide))
  have c214 : CS28 214 [182] h1' (fun k r h' => k = 1 → Fr ([0, 2, 3, 7, 8], [184, 185, 186, 191]) h1' h' ∧ ∃ N S P V, TOK (h1' 183) (h 2 1).toNat N S P V ∧ ((∃ f, 0 < f ∧ sWork S P V (h1' 187) D 32 [] 0 = .error f ∧ r = [f]) ∨ (∃ L, sWork S P V (h1' 187) D 32 [] 0 = .ok L ∧ r = [0]))) := by
    rw [cs28_214, kk_214]
    refine ⟨_, D, hm2, by omega, rf1, fun r h' fr ⟨N, S, P, V, a, b⟩ _ => ⟨fr, N, S, P, V, a, ?_⟩⟩
    rcases b with ⟨f, f0_w, b1, b2, -⟩ | ⟨L, b1, b2, -⟩
    · exact Or.inl ⟨f, f0_w, b1, by rw [b2]⟩
    · exact Or.inr ⟨L, b1, by rw [b2]⟩
  obtain ⟨fr, N, S, P, V, tok, er⟩ := (snd_28 (n + 41) _ _ _ _ _ c214 _ _ _ _ e2_w).2 rfl
  have eb : ∀ k : Nat, k < (h 2 1).toNat → h1' 183 k = h 3 k := fun k z => by
    rw [q4_w 183 k (by decide)]
    exact (hS_w k (by omega)).1.symm
  have tok2 : TOK (h 3) (h 2 1).toNat N S P V := tok.eq eb
  have ew : h1' 187 = wl := (funext fun k => q4_w 187 k (by decide)).trans hW
  rw [ew] at er
  have hE : ∀ f, sWork S P V wl D 32 [] 0 = .error f → f ≠ 0 := fun f z => by
    rcases er with ⟨f', f0_w, b1, -⟩ | ⟨L, b1, -⟩
    · rw [b1] at z
      cases z
      omega
    · rw [b1] at z
      cases z
  have c4 : CS28 4 [0] h (fun k r h' => k = 1 → FWx h h' ∧ ((∃ f, sWork S P V wl D 32 [] 0 = .error f ∧ r = [f]) ∨ (∃ L, sWork S P V wl D 32 [] 0 = .ok L ∧ r = [0]))) := by
    rw [cs28_4, kk_4]
    refine ⟨((h 2 1).toNat, N, S, P, V), D, ?_, ⟨hb1, hb2, hb3⟩, tok2, cd, hE, fun f h' z f1_w _ _ _ _ => ⟨f1_w, Or.inl ⟨f, z, rfl⟩⟩, fun L h' z f1_w _ _ _ => ⟨f1_w, Or.inr ⟨L, z, rfl⟩⟩⟩
    have := tok.le
    show N ≤ 1000
    omega
  obtain ⟨fx, ec⟩ := (snd_28 (n + 41) _ _ _ _ _ c4 _ _ _ _ e1_w).2 rfl
  have ev_w : v2 = [v] := by
    rcases er with ⟨f, f0_w, b1, b2⟩ | ⟨L, b1, b2⟩
    · rcases ec with ⟨f', z1, z2⟩ | ⟨L', z1, z2⟩
      · rw [b1] at z1
        cases z1
        rw [b2, z2]
      · rw [b1] at z1
        cases z1
    · rcases ec with ⟨f', z1, z2⟩ | ⟨L', z1, z2⟩
      · rw [b1] at z1
        cases z1
      · rw [b2, z2]
  subst ev_w
  have lo_w : ∀ o k : Nat, o < 182 → h2 o k = h1' o k := fun o k a => fr o k (fun z => by omega) (by
    rw [List.contains_eq_mem, decide_eq_false_iff_not]
    simp only [List.mem_cons, List.not_mem_nil, or_false]
    omega)
  have lx : ∀ o k : Nat, (6 ≤ o ∧ o ≤ 24) ∨ (70 ≤ o ∧ o < 182) ∨ o = 0 → h2 o k = h o k := fun o k a => (lo_w o k (by omega)).trans (fx o k (by omega))
  exact ⟨v, h1', h2, e1_w, e2_w, e3_w, D, cd.fr (fun o k a b => lx o k (by omega)), rf1.fr (fr.row rfl (by decide)) (fr.row rfl (by decide)) (fr.row rfl (by decide)), sm_w.fr ⟨lx 0 13 (by omega), lx 0 14 (by omega)⟩ (fun o k a b c => lx o k (by omega)) (fun k z => (fr 194 k (fun y => absurd y (by decide)) rfl).trans (q4_w 194 k (by decide))) ((fr 182 18 (fun _ => rfl) rfl).trans (q4_w 182 18 (by decide))) ⟨(fr 195 0 (fun y => absurd y (by decide)) rfl).trans (q4_w 195 0 (by decide)), (fr 195 1 (fun y => absurd y (by decide)) rfl).trans (q4_w 195 1 (by decide))⟩⟩
end INV5B
end
section
/-! ===== deeds over Inv5: the answers_w are the same ===== -/
section DEED5
variable {xs : Nat → Int} {L K n : Nat} {c d : Nat} {h h' h1 h2 : XH} {D : DD}
theorem SM.pn (s : SM D h) : ∃ m : Nat, m ≤ 8 ∧ h 154 1 = (m : Int) ∧ h 182 18 = (m : Int) := by
  obtain ⟨-, -, -, -, ⟨m, s3_w⟩, -⟩ := s
  exact ⟨m, s3_w.1, s3_w.2.1, s3_w.2.2.1⟩
/-- how a reading_w by hand_w goes_w on_w both_w sides -/
theorem read_k {m p v : Int} {r1_w r2 : List Int} (cd : CDw 6 D h) (rf : RF D h) (sm_w : SM D h) (e1_w : evF xs L g_ck K g_cW g_M n 8 [0, m, p, v] ((a_g3, c, d), h) = some (1, r1_w, ((a_g3, c, d), h1))) (e2_w : evF xs L g_ck K g_cW g_M n 265 [182, m, p, v] ((a_g3, c, d), h1) = some (1, r2, ((a_g3, c, d), h2))) : r1_w = r2 ∧ CDw 6 D h2 ∧ RF D h2 ∧ SM D h2 := by
  obtain ⟨w, w8, wc, wr_w⟩ := sm_w.pn
  have c8 : CS43 8 [0, m, p, v] h (fun k r h' => k = 1 → (¬ okR D m p v ∧ r = [-2] ∧ h' = h) ∨ (okR D m p v ∧ ∃ x, KEP w m.toNat p.toNat 0 h x ∧ r = [h 72 (13 * m.toNat + p.toNat)] ∧ h' = j_up x 72 (13 * m.toNat + p.toNat) v)) := by
    rw [cs43_8, kk_8]
    exact ⟨D, w, cd, wc, w8, fun y _ => Or.inl ⟨y, rfl, rfl⟩, fun y x kx _ => Or.inr ⟨y, x, kx, rfl, rfl⟩⟩
  have q1_w := (snd_43 n _ _ _ _ _ c8 _ _ _ _ e1_w).2 rfl
  have hi_w : ∀ o k : Nat, 157 ≤ o → h1 o k = h o k := fun o k z => by
    rcases q1_w with ⟨-, -, e⟩ | ⟨-, x, kx, -, e⟩
    · rw [e]
    · rw [e, up_ne (by omega)]
      exact kx.1 o k (by omega)
  have rf1 : RF D h1 := rf.fr (funext fun k => hi_w 188 k (by decide)) (funext fun k => hi_w 189 k (by decide)) (funext fun k => hi_w 190 k (by decide))
  have c265 : CS43 265 [182, m, p, v] h1 (fun k r h' => k = 1 → (¬ okR D m p v ∧ r = [-2] ∧ h' = thz h1) ∨ (okR D m p v ∧ ∃ x, RKP w (thz h1) x ∧ r = [h1 194 (13 * m.toNat + p.toNat)] ∧ h' = j_up x 194 (13 * m.toNat + p.toNat) v)) := by
    rw [cs43_265, kk_265]
    exact ⟨D, w, rf1, (hi_w 182 18 (by decide)).trans wr_w, w8, fun y _ => Or.inl ⟨y, rfl, rfl⟩, fun y x kx _ => Or.inr ⟨y, x, kx, rfl, rfl⟩⟩
  have q2_w := (snd_43 n _ _ _ _ _ c265 _ _ _ _ e2_w).2 rfl
  rcases q1_w with ⟨y, a1_w, a2⟩ | ⟨y, x, kx, a1_w, a2⟩
  · rcases q2_w with ⟨-, b1, b2⟩ | ⟨y2, -⟩
    · subst a2
      subst b2
      have z : ∀ o k : Nat, o ≠ 182 → thz h1 o k = h1 o k := fun o k a => th_e a
      exact ⟨a1_w.trans b1.symm, cd.fr (fun o k a b => z o k (by omega)), rf.th, sm_w.fr ⟨z 0 13 (by decide), z 0 14 (by decide)⟩ (fun o k a b e => z o k (by omega)) (fun k _ => z 194 k (by decide)) (up_ne (by omega)) ⟨z 195 0 (by decide), z 195 1 (by decide)⟩⟩
    · exact absurd y2 y
  · rcases q2_w with ⟨y2, -⟩ | ⟨-, x2_w, rk, b1, b2⟩
    · exact absurd y y2
    · have l12 := lp_le cd (m := m)
      have y' := id y
      unfold okR at y'
      have hm_w : m.toNat < nM D := by
        show m.toNat < D.2.2.2.2.1.length
        omega
      have hp : p.toNat < 13 := by omega
      have m6_w := sm_w.1
      refine ⟨?_, cd.fr (fun o k a b => ?_), rf1.fr ?_ ?_ ?_, SM.read sm_w wc hm_w hp kx a2 rk b2⟩
      · rw [a1_w, b1]
        have e := sm_w.2.2.1 (13 * m.toNat + p.toNat) (Or.inl (by omega))
        rw [cl_lo (by omega)] at e
        have e' : h 72 (13 * m.toNat + p.toNat) = h 194 (0 + (13 * m.toNat + p.toNat)) := e
        rw [e', Nat.zero_add, hi_w 194 _ (by decide)]
      · rw [b2, up_ne (by omega), rk.1 o k (by omega) (by omega), th_e (by omega), a2, up_ne (by omega)]
        exact kx.1 o k (by omega)
      · exact funext fun k => by rw [b2, up_ne (by omega), rk.1 188 k (by omega) (by omega), th_e (by decide)]
      · exact funext fun k => by rw [b2, up_ne (by omega), rk.1 189 k (by omega) (by omega), th_e (by decide)]
      · exact funext fun k => by rw [b2, up_ne (by omega), rk.1 190 k (by omega) (by omega), th_e (by decide)]
end DEED5
end
section
/-! ===== total, move on_w both_w sides ===== -/
section DEED6
variable {xs : Nat → Int} {L K n : Nat} {c d : Nat} {h h' h1 h2 : XH} {D : DD}
/-- the sizes_w told_w on_w both_w sides -/
theorem sz_cd (cd : CDw 6 D h) : h 6 9 = D.1 ∧ h 6 11 = (D.2.2.2.1.length : Int) ∧ h 6 12 = (nM D : Int) := ⟨cd.2.1.1, cd.1.1.2.1, cd.1.1.2.2.1⟩
theorem sz_rf (rf : RF D h) : h 188 0 = D.1 ∧ h 188 2 = (D.2.2.2.1.length : Int) ∧ h 188 3 = (nM D : Int) ∧ 0 ≤ D.1 ∧ D.1 ≤ 12 ∧ nM D ≤ 6 := ⟨rf.ix.2.1.1, rf.ix.1.2.1, rf.ix.1.2.2.1, rf.ix.2.1.2.1, rf.ix.2.1.2.2, rf.ix.1.2.2.2.2.2⟩
theorem thz_k (cd : CDw 6 D h) (rf : RF D h) (sm_w : SM D h) : CDw 6 D (thz h) ∧ RF D (thz h) ∧ SM D (thz h) := by
  have z : ∀ o k : Nat, o ≠ 182 → thz h o k = h o k := fun o k a => th_e a
  exact ⟨cd.fr (fun o k a b => z o k (by omega)), rf.th, sm_w.fr ⟨z 0 13 (by decide), z 0 14 (by decide)⟩ (fun o k a b e => z o k (by omega)) (fun k _ => z 194 k (by decide)) (up_ne (by omega)) ⟨z 195 0 (by decide), z 195 1 (by decide)⟩⟩
theorem total_k {t u : Int} {r1_w r2 : List Int} (cd : CDw 6 D h) (rf : RF D h) (sm_w : SM D h) (e1_w : evF xs L g_ck K g_cW g_M n 10 [0, t, u] ((a_g3, c, d), h) = some (1, r1_w, ((a_g3, c, d), h1))) (e2_w : evF xs L g_ck K g_cW g_M n 268 [182, t, u] ((a_g3, c, d), h1) = some (1, r2, ((a_g3, c, d), h2))) : r1_w = r2 ∧ CDw 6 D h2 ∧ RF D h2 ∧ SM D h2 := by
  obtain ⟨w, w8, wc, wr_w⟩ := sm_w.pn
  obtain ⟨z9, -, -⟩ := sz_cd cd
  obtain ⟨y0, -, -, D0, D12, -⟩ := sz_rf rf
  have c10 : CS43 10 [0, t, u] h (fun k r h' => k = 1 → (¬ okTu h t u ∧ r = [-1] ∧ h' = h) ∨ (okTu h t u ∧ ∃ x, KEP w 0 t.toNat 2 h x ∧ r = [h 76 t.toNat] ∧ h' = j_up x 76 t.toNat u)) := by
    rw [cs43_10, kk_10s]
    exact ⟨w, by omega, wc, w8, fun y _ => Or.inl ⟨y, rfl, rfl⟩, fun y x kx _ => Or.inr ⟨y, x, kx, rfl, rfl⟩⟩
  have q1_w := (snd_43 n _ _ _ _ _ c10 _ _ _ _ e1_w).2 rfl
  have hi_w : ∀ o k : Nat, 157 ≤ o → h1 o k = h o k := fun o k z => by
    rcases q1_w with ⟨-, -, e⟩ | ⟨-, x, kx, -, e⟩
    · rw [e]
    · rw [e, up_ne (by omega)]
      exact kx.1 o k (by omega)
  have rf1 : RF D h1 := rf.fr (funext fun k => hi_w 188 k (by decide)) (funext fun k => hi_w 189 k (by decide)) (funext fun k => hi_w 190 k (by decide))
  have c268 : CS43 268 [182, t, u] h1 (fun k r h' => k = 1 → (¬ okTr h1 t u ∧ r = [-1] ∧ h' = thz h1) ∨ (okTr h1 t u ∧ ∃ x, RKP w (thz h1) x ∧ r = [h1 194 (150 + t.toNat)] ∧ h' = j_up x 194 (150 + t.toNat) u)) := by
    rw [cs43_268, kk_268]
    exact ⟨w, by rw [hi_w 188 0 (by decide)]; omega, (hi_w 182 18 (by decide)).trans wr_w, w8, fun y _ => Or.inl ⟨y, rfl, rfl⟩, fun y x kx _ => Or.inr ⟨y, x, kx, rfl, rfl⟩⟩
  have q2_w := (snd_43 n _ _ _ _ _ c268 _ _ _ _ e2_w).2 rfl
  have ok : okTr h1 t u ↔ okTu h t u := by
    unfold okTr okTu
    rw [hi_w 188 0 (by decide), y0, z9]
  rcases q1_w with ⟨y, a1_w, a2⟩ | ⟨y, x, kx, a1_w, a2⟩
  · rcases q2_w with ⟨-, b1, b2⟩ | ⟨y2, -⟩
    · subst a2
      subst b2
      exact ⟨a1_w.trans b1.symm, thz_k cd rf sm_w⟩
    · exact absurd (ok.mp y2) y
  · rcases q2_w with ⟨y2, -⟩ | ⟨-, x2_w, rk, b1, b2⟩
    · exact absurd (ok.mpr y) y2
    · have y' := id y
      unfold okTu at y'
      have hS_w : t.toNat < nS D := by
        unfold nS
        omega
      have s12 := sm_w.2.1
      refine ⟨?_, cd.fr (fun o k a b => ?_), rf1.fr ?_ ?_ ?_, SM.total sm_w wc hS_w kx a2 rk b2⟩
      · rw [a1_w, b1]
        have e := sm_w.2.2.1 (150 + t.toNat) (Or.inr (Or.inr (Or.inl (by omega))))
        rw [cl_fe (by omega) (by omega)] at e
        have e' : h 76 (150 + t.toNat - 150) = h 194 (0 + (150 + t.toNat)) := e
        rw [Nat.add_sub_cancel_left, Nat.zero_add] at e'
        rw [e', hi_w 194 _ (by decide)]
      · rw [b2, up_ne (by omega), rk.1 o k (by omega) (by omega), th_e (by omega), a2, up_ne (by omega)]
        exact kx.1 o k (by omega)
      · exact funext fun k => by rw [b2, up_ne (by omega), rk.1 188 k (by omega) (by omega), th_e (by decide)]
      · exact funext fun k => by rw [b2, up_ne (by omega), rk.1 189 k (by omega) (by omega), th_e (by decide)]
      · exact funext fun k => by rw [b2, up_ne (by omega), rk.1 190 k (by omega) (by omega), th_e (by decide)]
end DEED6
end
section
/-! ===== move, undo on_w both_w sides ===== -/
section DEED7
variable {xs : Nat → Int} {L K n : Nat} {c d : Nat} {h h' h1 h2 : XH} {D : DD}
theorem move_k {m s t : Int} {r1_w r2 : List Int} (cd : CDw 6 D h) (rf : RF D h) (sm_w : SM D h) (e1_w : evF xs L g_ck K g_cW g_M n 9 [0, m, s, t] ((a_g3, c, d), h) = some (1, r1_w, ((a_g3, c, d), h1))) (e2_w : evF xs L g_ck K g_cW g_M n 267 [182, m, s, t] ((a_g3, c, d), h1) = some (1, r2, ((a_g3, c, d), h2))) : r1_w = r2 ∧ CDw 6 D h2 ∧ RF D h2 ∧ SM D h2 := by
  obtain ⟨w, w8, wc, wr_w⟩ := sm_w.pn
  obtain ⟨z9, z11, z12⟩ := sz_cd cd
  obtain ⟨y0, y2, y3, D0, D12, m6_w⟩ := sz_rf rf
  have c9 : CS43 9 [0, m, s, t] h (fun k r h' => k = 1 → (¬ okMv h m s t ∧ r = [-1] ∧ h' = h) ∨ (okMv h m s t ∧ ∃ x, KEP w m.toNat t.toNat 1 h x ∧ r = [h 74 (12 * m.toNat + t.toNat)] ∧ (∀ o k : Nat, o ≠ 74 → h' o k = x o k) ∧ ∀ k : Nat, h' 74 k = if 12 * m.toNat + t.toNat ≤ k ∧ k < 12 * m.toNat + 12 then s else x 74 k)) := by
    rw [cs43_9, kk_9]
    exact ⟨w, by omega, by omega, wc, w8, fun y _ => Or.inl ⟨y, rfl, rfl⟩, fun y x x2_w kx f1_w f2_w _ => Or.inr ⟨y, x, kx, rfl, f1_w, f2_w⟩⟩
  have q1_w := (snd_43 n _ _ _ _ _ c9 _ _ _ _ e1_w).2 rfl
  have hi_w : ∀ o k : Nat, 157 ≤ o → h1 o k = h o k := fun o k z => by
    rcases q1_w with ⟨-, -, e⟩ | ⟨-, x, kx, -, f1_w, -⟩
    · rw [e]
    · rw [f1_w o k (by omega)]
      exact kx.1 o k (by omega)
  have rf1 : RF D h1 := rf.fr (funext fun k => hi_w 188 k (by decide)) (funext fun k => hi_w 189 k (by decide)) (funext fun k => hi_w 190 k (by decide))
  have c267 : CS43 267 [182, m, s, t] h1 (fun k r h' => k = 1 → (¬ okMr h1 m s t ∧ r = [-1] ∧ h' = thz h1) ∨ (okMr h1 m s t ∧ ∃ x, RKP w (thz h1) x ∧ r = [h1 194 (78 + (12 * m.toNat + t.toNat))] ∧ (∀ o k : Nat, o ≠ 194 → h' o k = x o k) ∧ ∀ k : Nat, h' 194 k = if 78 + (12 * m.toNat + t.toNat) ≤ k ∧ k < 78 + (12 * m.toNat + 12) then s else x 194 k)) := by
    rw [cs43_267, kk_267]
    exact ⟨w, by rw [hi_w 188 3 (by decide)]; omega, by rw [hi_w 188 0 (by decide)]; omega, (hi_w 182 18 (by decide)).trans wr_w, w8, fun y _ => Or.inl ⟨y, rfl, rfl⟩, fun y x x2_w kx f1_w f2_w _ => Or.inr ⟨y, x, kx, rfl, f1_w, f2_w⟩⟩
  have q2_w := (snd_43 n _ _ _ _ _ c267 _ _ _ _ e2_w).2 rfl
  have ok : okMr h1 m s t ↔ okMv h m s t := by
    unfold okMr okMv
    rw [hi_w 188 0 (by decide), hi_w 188 2 (by decide), hi_w 188 3 (by decide), y0, y2, y3, z9, z11, z12]
  rcases q1_w with ⟨y, a1_w, a2⟩ | ⟨y, x, kx, a1_w, a2, a3⟩
  · rcases q2_w with ⟨-, b1, b2⟩ | ⟨y2, -⟩
    · subst a2
      subst b2
      exact ⟨a1_w.trans b1.symm, thz_k cd rf sm_w⟩
    · exact absurd (ok.mp y2) y
  · rcases q2_w with ⟨y2, -⟩ | ⟨-, x2_w, rk, b1, b2, b3⟩
    · exact absurd (ok.mpr y) y2
    · have y' := id y
      unfold okMv at y'
      refine ⟨?_, cd.fr (fun o k a b => ?_), rf1.fr ?_ ?_ ?_, SM.move sm_w wc (mn_w := m.toNat) (pn := t.toNat) (by omega) (by omega) kx a2 a3 rk b2 b3⟩
      · rw [a1_w, b1]
        have e := sm_w.2.2.1 (78 + (12 * m.toNat + t.toNat)) (Or.inr (Or.inl (by omega)))
        rw [cl_su (by omega) (by omega)] at e
        have e' : h 74 (78 + (12 * m.toNat + t.toNat) - 78) = h 194 (0 + (78 + (12 * m.toNat + t.toNat))) := e
        rw [Nat.add_sub_cancel_left, Nat.zero_add] at e'
        rw [e', hi_w 194 _ (by decide)]
      · rw [b2 o k (by omega), rk.1 o k (by omega) (by omega), th_e (by omega), a2 o k (by omega)]
        exact kx.1 o k (by omega)
      · exact funext fun k => by rw [b2 188 k (by decide), rk.1 188 k (by omega) (by omega), th_e (by decide)]
      · exact funext fun k => by rw [b2 189 k (by decide), rk.1 189 k (by omega) (by omega), th_e (by decide)]
      · exact funext fun k => by rw [b2 190 k (by decide), rk.1 190 k (by omega) (by omega), th_e (by decide)]
end DEED7
end
section
/-! ===== undo on_w both_w sides ===== -/
section DEED8
variable {xs : Nat → Int} {L K n : Nat} {c d : Nat} {h h' h1 h2 : XH} {D : DD}
theorem undo_k {r1_w r2 : List Int} (cd : CDw 6 D h) (rf : RF D h) (sm_w : SM D h) (hr : 0 ≤ h 70 10 ∧ h 70 10 ≤ 100) (e1_w : evF xs L g_ck K g_cW g_M n 12 [0] ((a_g3, c, d), h) = some (1, r1_w, ((a_g3, c, d), h1))) (e2_w : evF xs L g_ck K g_cW g_M n 272 [182] ((a_g3, c, d), h1) = some (1, r2, ((a_g3, c, d), h2))) : r1_w = r2 ∧ CDw 6 D h2 ∧ RF D h2 ∧ SM D h2 := by
  have sm' := sm_w
  obtain ⟨-, -, -, -, ⟨w, w8, wc, wr_w, ws_w⟩, -⟩ := sm'
  by_cases y : w = 0
  · subst y
    have c12 : CS43 12 [0] h (fun k r h' => k = 1 → r = [0] ∧ h' = h) := by
      rw [cs43_12, kk_12s]
      exact Or.inl ⟨wc, fun _ => ⟨rfl, rfl⟩⟩
    obtain ⟨a1_w, a2⟩ := (snd_43 n _ _ _ _ _ c12 _ _ _ _ e1_w).2 rfl
    subst a2
    have c272 : CS43 272 [182] h1 (fun k r h' => k = 1 → r = [0] ∧ h' = thz h1) := by
      rw [cs43_272, kk_272]
      exact ⟨0, wr_w, by decide, fun _ _ => ⟨rfl, rfl⟩, fun m z => absurd z (by omega)⟩
    obtain ⟨b1, b2⟩ := (snd_43 n _ _ _ _ _ c272 _ _ _ _ e2_w).2 rfl
    subst b2
    exact ⟨a1_w.trans b1.symm, thz_k cd rf sm_w⟩
  · obtain ⟨m, rfl⟩ : ∃ m, w = m + 1 := ⟨w - 1, by omega⟩
    obtain ⟨mn_w, pn, t1_w, t2_w, t3_w, t4_w, t5_w, -⟩ := ws_w m (by omega)
    have c12 : CS43 12 [0] h (fun k r h' => k = 1 → r = [1] ∧ TKB m mn_w pn h h') := by
      rw [cs43_12, kk_12s]
      exact Or.inr ⟨m, mn_w, pn, wc, by omega, t1_w, t2_w, t3_w, t4_w, t5_w, fun x tk _ => ⟨rfl, tk⟩⟩
    obtain ⟨a1_w, tk⟩ := (snd_43 n _ _ _ _ _ c12 _ _ _ _ e1_w).2 rfl
    have hi_w : ∀ o k : Nat, (o ≤ 24 ∨ 157 ≤ o) → h1 o k = h o k := fun o k z => by
      rcases tk with ⟨-, e⟩ | ⟨-, e, -⟩ | ⟨-, e⟩ | ⟨-, e⟩
      · rw [e, up_ne (by omega), up_ne (by omega)]
      · exact e o k (by omega)
      · rw [e, up_ne (by omega), up_ne (by omega)]
      · rw [e, up_ne (by omega), up_ne (by omega)]
    have c272 : CS43 272 [182] h1 (fun k r h' => k = 1 → r = [1] ∧ (∀ x k : Nat, ¬ (x = 194 ∧ k < 404) → ¬ (x = 182 ∧ k = 18) → h' x k = thz h1 x k) ∧ h' 182 18 = (m : Int) ∧ ∀ q : Nat, q < 404 → h' 194 q = h1 194 (429 * (3 + m) + q)) := by
      rw [cs43_272, kk_272]
      refine ⟨m + 1, (hi_w 182 18 (by omega)).trans wr_w, w8, fun z => absurd z (by omega), fun m' e x f1_w f2_w f3_w _ => ?_⟩
      obtain rfl : m' = m := by omega
      exact ⟨rfl, f1_w, f2_w, f3_w⟩
    obtain ⟨b1, f1_w, f2_w, f3_w⟩ := (snd_43 n _ _ _ _ _ c272 _ _ _ _ e2_w).2 rfl
    have lo_w : ∀ o k : Nat, o ≠ 182 → o ≠ 194 → h2 o k = h1 o k := fun o k z1 z2 => (f1_w o k (by omega) (by omega)).trans (th_e z1)
    refine ⟨a1_w.trans b1.symm, cd.fr (fun o k a b => (lo_w o k (by omega) (by omega)).trans (hi_w o k (by omega))), rf.fr (funext fun k => (lo_w 188 k (by decide) (by decide)).trans (hi_w 188 k (by omega))) (funext fun k => (lo_w 189 k (by decide) (by decide)).trans (hi_w 189 k (by omega))) (funext fun k => (lo_w 190 k (by decide) (by decide)).trans (hi_w 190 k (by omega))), SM.undo sm_w wc hr t1_w t2_w t3_w t4_w (fun z => ?_) tk f1_w f2_w f3_w⟩
    rcases t5_w with e | e | ⟨-, e⟩ | e
    · exact absurd (z.symm.trans e) (by decide)
    · exact absurd (z.symm.trans e) (by decide)
    · exact e
    · exact absurd (z.symm.trans e) (by decide)
end DEED8
end
section
/-! ===== see, mark_w on_w both_w sides ===== -/
section DEED9
variable {xs : Nat → Int} {L K n : Nat} {c d : Nat} {h h' h1 h2 : XH} {D : DD}
theorem see_k {t u v : Int} {r1_w r2 : List Int} (cd : CDw 6 D h) (rf : RF D h) (sm_w : SM D h) (hv : v = 0 ∨ v = 1) (e1_w : evF xs L g_ck K g_cW g_M n 40 [0, t, u, v] ((a_g3, c, d), h) = some (1, r1_w, ((a_g3, c, d), h1))) (e2_w : evF xs L g_ck K g_cW g_M n 304 [182, t, u, v] ((a_g3, c, d), h1) = some (1, r2, ((a_g3, c, d), h2))) : r1_w = r2 ∧ CDw 6 D h2 ∧ RF D h2 ∧ SM D h2 := by
  have sm' := sm_w
  obtain ⟨-, -, -, ⟨w, w8, w1_w, w2_w, -⟩, -⟩ := sm'
  rw [Nat.zero_add] at w2_w
  obtain ⟨z9, -, -⟩ := sz_cd cd
  obtain ⟨y0, -, -, D0, D12, -⟩ := sz_rf rf
  have c40_w : CS43 40 [0, t, u, v] h (fun k r h' => k = 1 → (¬ (okS h t u ∧ w < 8) ∧ r = [0] ∧ h' = h) ∨ (okS h t u ∧ w < 8 ∧ r = [1] ∧ h' = j_up (j_up (j_up (j_up h 86 w t) 88 w u) 90 w v) 70 11 ((w + 1 : Nat) : Int))) := by
    rw [cs43_40, kk_40s]
    exact ⟨w, w1_w, w8, hv, fun y _ => Or.inl ⟨y, rfl, rfl⟩, fun y x _ => Or.inr ⟨y, x, rfl, rfl⟩⟩
  have q1_w := (snd_43 n _ _ _ _ _ c40_w _ _ _ _ e1_w).2 rfl
  have hi_w : ∀ o k : Nat, (o ≤ 24 ∨ 91 ≤ o) → h1 o k = h o k := fun o k z => by
    rcases q1_w with ⟨-, -, e⟩ | ⟨-, -, -, e⟩
    · rw [e]
    · rw [e, up_ne (by omega), up_ne (by omega), up_ne (by omega), up_ne (by omega)]
  have c304 : CS43 304 [182, t, u, v] h1 (fun k r h' => k = 1 → (¬ (okSr h1 t u ∧ w < 8) ∧ r = [0] ∧ h' = thz h1) ∨ (okSr h1 t u ∧ w < 8 ∧ r = [1] ∧ h' = j_up (j_up (j_up (j_up (thz h1) 194 (405 + 3 * w) t) 194 (405 + 3 * w + 1) u) 194 (405 + 3 * w + 2) v) 194 404 ((w + 1 : Nat) : Int))) := by
    rw [cs43_304, kk_304]
    exact ⟨w, (hi_w 194 404 (by omega)).trans w2_w, w8, hv, fun y _ => Or.inl ⟨y, rfl, rfl⟩, fun y x _ => Or.inr ⟨y, x, rfl, rfl⟩⟩
  have q2_w := (snd_43 n _ _ _ _ _ c304 _ _ _ _ e2_w).2 rfl
  have ok : okSr h1 t u ↔ okS h t u := by
    unfold okSr okS
    rw [hi_w 188 0 (by omega), y0, z9]
  rcases q1_w with ⟨y, a1_w, a2⟩ | ⟨y, y8, a1_w, a2⟩
  · rcases q2_w with ⟨-, b1, b2⟩ | ⟨y2, y3, -⟩
    · subst a2
      subst b2
      exact ⟨a1_w.trans b1.symm, thz_k cd rf sm_w⟩
    · exact absurd ⟨ok.mp y2, y3⟩ y
  · rcases q2_w with ⟨y2, -⟩ | ⟨-, -, b1, b2⟩
    · exact absurd ⟨ok.mpr y, y8⟩ y2
    · have lo_w : ∀ o k : Nat, o ≠ 182 → o ≠ 194 → h2 o k = h1 o k := fun o k z1 z2 => by
        rw [b2, up_ne (by omega), up_ne (by omega), up_ne (by omega), up_ne (by omega)]
        exact th_e z1
      exact ⟨a1_w.trans b1.symm, cd.fr (fun o k a b => (lo_w o k (by omega) (by omega)).trans (hi_w o k (by omega))), rf.fr (funext fun k => (lo_w 188 k (by decide) (by decide)).trans (hi_w 188 k (by omega))) (funext fun k => (lo_w 189 k (by decide) (by decide)).trans (hi_w 189 k (by omega))) (funext fun k => (lo_w 190 k (by decide) (by decide)).trans (hi_w 190 k (by omega))), SM.see sm_w w1_w y8 a2 b2⟩
end DEED9
end
section
/-! ===== mark_w on_w both_w sides ===== -/
section DEED10
variable {xs : Nat → Int} {L K n : Nat} {c d : Nat} {h h' h1 h2 : XH} {D : DD}
/-- laying a mark_w, going back to one: what the class leaves -/
def MKc (m b : Int) (r : List Int) (h h' : XH) : Prop := (m ≠ 0 ∧ m ≠ 1 ∧ r = [0] ∧ h' = h) ∨ (m = 0 ∧ b = 0 ∧ r = [1] ∧ ∃ x, LCP 112 70 h x ∧ h' = j_up x 0 13 1) ∨ (m = 1 ∧ b = 0 ∧ r = [1] ∧ ∃ x, LCP 133 70 h x ∧ h' = j_up x 0 14 1) ∨ (m = 0 ∧ b = 1 ∧ ((h 0 13 = 0 ∧ r = [0] ∧ h' = h) ∨ (h 0 13 ≠ 0 ∧ r = [1] ∧ ∃ x, LCP 70 112 h x ∧ h' = j_up x 154 1 0))) ∨ (m = 1 ∧ b = 1 ∧ ((h 0 14 = 0 ∧ r = [0] ∧ h' = h) ∨ (h 0 14 ≠ 0 ∧ r = [1] ∧ ∃ x, LCP 70 133 h x ∧ h' = j_up x 154 1 0)))
theorem mark_c {m b : Int} {r : List Int} (hb_w : b = 0 ∨ b = 1) (e1_w : evF xs L g_ck K g_cW g_M n 48 [0, m, b] ((a_g3, c, d), h) = some (1, r, ((a_g3, c, d), h1))) : MKc m b r h h1 := by
  have c48_w : CS43 48 [0, m, b] h (fun k r h' => k = 1 → MKc m b r h h') := by
    rw [cs43_48, kk_48]
    refine ⟨hb_w, fun y1 y2 _ => Or.inl ⟨y1, y2, rfl, rfl⟩, fun y1 y2 x lc _ => Or.inr (Or.inl ⟨y1, y2, rfl, x, lc, rfl⟩), fun y1 y2 x lc _ => Or.inr (Or.inr (Or.inl ⟨y1, y2, rfl, x, lc, rfl⟩)), fun y1 y2 => ⟨fun z _ => Or.inr (Or.inr (Or.inr (Or.inl ⟨y1, y2, Or.inl ⟨z, rfl, rfl⟩⟩))), fun z x lc _ => Or.inr (Or.inr (Or.inr (Or.inl ⟨y1, y2, Or.inr ⟨z, rfl, x, lc, rfl⟩⟩)))⟩, fun y1 y2 => ⟨fun z _ => Or.inr (Or.inr (Or.inr (Or.inr ⟨y1, y2, Or.inl ⟨z, rfl, rfl⟩⟩))), fun z x lc _ => Or.inr (Or.inr (Or.inr (Or.inr ⟨y1, y2, Or.inr ⟨z, rfl, x, lc, rfl⟩⟩)))⟩⟩
  exact (snd_43 n _ _ _ _ _ c48_w _ _ _ _ e1_w).2 rfl
/-- what the reference_w leaves -/
def MKr (m b : Int) (r : List Int) (h h' : XH) : Prop := (¬ (0 ≤ m ∧ m ≤ 1) ∧ r = [0] ∧ h' = thz h) ∨ ∃ mn_w : Nat, m = (mn_w : Int) ∧ mn_w ≤ 1 ∧ ((b = 0 ∧ r = [1] ∧ ∃ x, (∀ o k : Nat, ¬ (o = 194 ∧ 429 * (1 + mn_w) ≤ k ∧ k < 429 * (1 + mn_w) + 429) → x o k = j_up (thz h) 195 mn_w 1 o k) ∧ (∀ q : Nat, q < 429 → x 194 (429 * (1 + mn_w) + q) = h 194 q) ∧ h' = j_up x 182 18 (x 182 18)) ∨ (b = 1 ∧ h 195 mn_w = 0 ∧ r = [0] ∧ h' = thz h) ∨ (b = 1 ∧ h 195 mn_w ≠ 0 ∧ r = [1] ∧ ∃ x, (∀ o k : Nat, ¬ (o = 194 ∧ k < 429) → x o k = j_up (thz h) 195 mn_w 1 o k) ∧ (∀ q : Nat, q < 429 → x 194 q = h 194 (429 * (1 + mn_w) + q)) ∧ h' = j_up x 182 18 0))
theorem mark_r {m b : Int} {r : List Int} (hb_w : b = 0 ∨ b = 1) (w0_w : h 195 0 = 0 ∨ h 195 0 = 1) (w1_w : h 195 1 = 0 ∨ h 195 1 = 1) (e1_w : evF xs L g_ck K g_cW g_M n 311 [182, m, b] ((a_g3, c, d), h) = some (1, r, ((a_g3, c, d), h1))) : MKr m b r h h1 := by
  have c311 : CS43 311 [182, m, b] h (fun k r h' => k = 1 → MKr m b r h h') := by
    rw [cs43_311, kk_311]
    refine ⟨hb_w, w0_w, w1_w, fun y _ => Or.inl ⟨y, rfl, rfl⟩, fun mn_w y1 y2 => ⟨fun y x f1_w f2_w _ => Or.inr ⟨mn_w, y1, y2, Or.inl ⟨y, rfl, x, f1_w, f2_w, rfl⟩⟩, fun y => ⟨fun z _ => Or.inr ⟨mn_w, y1, y2, Or.inr (Or.inl ⟨y, z, rfl, rfl⟩)⟩, fun z x f1_w f2_w _ => Or.inr ⟨mn_w, y1, y2, Or.inr (Or.inr ⟨y, z, rfl, x, f1_w, f2_w, rfl⟩)⟩⟩⟩⟩
  exact (snd_43 n _ _ _ _ _ c311 _ _ _ _ e1_w).2 rfl
end DEED10
end
section
/-! ===== mark_w on_w both_w sides, the state_w alike_w ===== -/
section DEED11
variable {xs : Nat → Int} {L K n : Nat} {c d : Nat} {h h' h1 h2 x x2_w : XH} {D : DD} {b : Nat}
theorem fr_k (cd : CDw 6 D h) (rf : RF D h) (a : ∀ o k : Nat, 6 ≤ o → o ≤ 24 → h2 o k = h o k) (e : ∀ o k : Nat, 188 ≤ o → o ≤ 190 → h2 o k = h o k) : CDw 6 D h2 ∧ RF D h2 := ⟨cd.fr a, rf.fr (funext fun k => e 188 k (by decide) (by decide)) (funext fun k => e 189 k (by decide) (by decide)) (funext fun k => e 190 k (by decide) (by decide))⟩
theorem mark_k {m b : Int} {r1_w r2 : List Int} (cd : CDw 6 D h) (rf : RF D h) (sm_w : SM D h) (hb_w : b = 0 ∨ b = 1) (e1_w : evF xs L g_ck K g_cW g_M n 48 [0, m, b] ((a_g3, c, d), h) = some (1, r1_w, ((a_g3, c, d), h1))) (e2_w : evF xs L g_ck K g_cW g_M n 311 [182, m, b] ((a_g3, c, d), h1) = some (1, r2, ((a_g3, c, d), h2))) : r1_w = r2 ∧ CDw 6 D h2 ∧ RF D h2 ∧ SM D h2 := by
  have q1_w := mark_c hb_w e1_w
  have hi_w : ∀ k : Nat, h1 195 k = h 195 k := fun k => by
    rcases q1_w with ⟨-, -, -, e⟩ | ⟨-, -, -, x, lc, e⟩ | ⟨-, -, -, x, lc, e⟩ | ⟨-, -, ⟨-, -, e⟩ | ⟨-, -, x, lc, e⟩⟩ | ⟨-, -, ⟨-, -, e⟩ | ⟨-, -, x, lc, e⟩⟩
    · rw [e]
    · rw [e, up_ne (by omega), lc.1 _ _ (by omega)]
    · rw [e, up_ne (by omega), lc.1 _ _ (by omega)]
    · rw [e]
    · rw [e, up_ne (by omega), lc.1 _ _ (by omega)]
    · rw [e]
    · rw [e, up_ne (by omega), lc.1 _ _ (by omega)]
  have mk0 := sm_w.2.2.2.2.2.1
  have mk1 := sm_w.2.2.2.2.2.2
  have q2_w := mark_r hb_w (by rw [hi_w]; exact mk0.1) (by rw [hi_w]; exact mk1.1) e2_w
  rcases q1_w with ⟨y1, y2, a1_w, e⟩ | ⟨rfl, rfl, a1_w, x, lc, e⟩ | ⟨rfl, rfl, a1_w, x, lc, e⟩ | ⟨rfl, rfl, ⟨z, a1_w, e⟩ | ⟨z, a1_w, x, lc, e⟩⟩ | ⟨rfl, rfl, ⟨z, a1_w, e⟩ | ⟨z, a1_w, x, lc, e⟩⟩
  · rcases q2_w with ⟨-, b1, b2⟩ | ⟨mn_w, u1, u2_w, -⟩
    · subst e
      subst b2
      exact ⟨a1_w.trans b1.symm, thz_k cd rf sm_w⟩
    · omega
  · rcases q2_w with ⟨u, -⟩ | ⟨mn_w, u1, u2_w, ⟨-, b1, x2_w, f1_w, f2_w, f3_w⟩ | ⟨u, -⟩ | ⟨u, -⟩⟩
    · omega
    · obtain rfl : mn_w = 0 := by omega
      obtain ⟨k1_w, k2⟩ := fr_k (h2 := h2) cd rf (fun o k a b => by rw [f3_w, up_ne (by omega), f1_w o k (by omega), up_ne (by omega), th_e (by omega), e, up_ne (by omega), lc.1 o k (by omega)]) (fun o k a b => by rw [f3_w, up_ne (by omega), f1_w o k (by omega), up_ne (by omega), th_e (by omega), e, up_ne (by omega), lc.1 o k (by omega)])
      exact ⟨a1_w.trans b1.symm, k1_w, k2, SM.lay0 sm_w lc e f1_w f2_w f3_w⟩
    · exact absurd u (by decide)
    · exact absurd u (by decide)
  · rcases q2_w with ⟨u, -⟩ | ⟨mn_w, u1, u2_w, ⟨-, b1, x2_w, f1_w, f2_w, f3_w⟩ | ⟨u, -⟩ | ⟨u, -⟩⟩
    · omega
    · obtain rfl : mn_w = 1 := by omega
      obtain ⟨k1_w, k2⟩ := fr_k (h2 := h2) cd rf (fun o k a b => by rw [f3_w, up_ne (by omega), f1_w o k (by omega), up_ne (by omega), th_e (by omega), e, up_ne (by omega), lc.1 o k (by omega)]) (fun o k a b => by rw [f3_w, up_ne (by omega), f1_w o k (by omega), up_ne (by omega), th_e (by omega), e, up_ne (by omega), lc.1 o k (by omega)])
      exact ⟨a1_w.trans b1.symm, k1_w, k2, SM.lay1 sm_w lc e f1_w f2_w f3_w⟩
    · exact absurd u (by decide)
    · exact absurd u (by decide)
  · rcases q2_w with ⟨u, -⟩ | ⟨mn_w, u1, u2_w, ⟨u, -⟩ | ⟨-, v, b1, b2⟩ | ⟨-, v, -⟩⟩
    · omega
    · exact absurd u (by decide)
    · subst e
      subst b2
      exact ⟨a1_w.trans b1.symm, thz_k cd rf sm_w⟩
    · obtain rfl : mn_w = 0 := by omega
      rw [hi_w] at v
      exact absurd (mk0.2.1.mp z) v
  · rcases q2_w with ⟨u, -⟩ | ⟨mn_w, u1, u2_w, ⟨u, -⟩ | ⟨-, v, -⟩ | ⟨-, v, b1, x2_w, f1_w, f2_w, f3_w⟩⟩
    · omega
    · exact absurd u (by decide)
    · obtain rfl : mn_w = 0 := by omega
      rw [hi_w] at v
      exact absurd (mk0.2.1.mpr v) z
    · obtain rfl : mn_w = 0 := by omega
      rw [hi_w] at v
      obtain ⟨k1_w, k2⟩ := fr_k (h2 := h2) cd rf (fun o k a b => by rw [f3_w, up_ne (by omega), f1_w o k (by omega), up_ne (by omega), th_e (by omega), e, up_ne (by omega), lc.1 o k (by omega)]) (fun o k a b => by rw [f3_w, up_ne (by omega), f1_w o k (by omega), up_ne (by omega), th_e (by omega), e, up_ne (by omega), lc.1 o k (by omega)])
      exact ⟨a1_w.trans b1.symm, k1_w, k2, SM.back sm_w (Or.inl ⟨rfl, rfl, rfl, rfl⟩) v lc e f1_w f2_w f3_w⟩
  · rcases q2_w with ⟨u, -⟩ | ⟨mn_w, u1, u2_w, ⟨u, -⟩ | ⟨-, v, b1, b2⟩ | ⟨-, v, -⟩⟩
    · omega
    · exact absurd u (by decide)
    · subst e
      subst b2
      exact ⟨a1_w.trans b1.symm, thz_k cd rf sm_w⟩
    · obtain rfl : mn_w = 1 := by omega
      rw [hi_w] at v
      exact absurd (mk1.2.1.mp z) v
  · rcases q2_w with ⟨u, -⟩ | ⟨mn_w, u1, u2_w, ⟨u, -⟩ | ⟨-, v, -⟩ | ⟨-, v, b1, x2_w, f1_w, f2_w, f3_w⟩⟩
    · omega
    · exact absurd u (by decide)
    · obtain rfl : mn_w = 1 := by omega
      rw [hi_w] at v
      exact absurd (mk1.2.1.mpr v) z
    · obtain rfl : mn_w = 1 := by omega
      rw [hi_w] at v
      obtain ⟨k1_w, k2⟩ := fr_k (h2 := h2) cd rf (fun o k a b => by rw [f3_w, up_ne (by omega), f1_w o k (by omega), up_ne (by omega), th_e (by omega), e, up_ne (by omega), lc.1 o k (by omega)]) (fun o k a b => by rw [f3_w, up_ne (by omega), f1_w o k (by omega), up_ne (by omega), th_e (by omega), e, up_ne (by omega), lc.1 o k (by omega)])
      exact ⟨a1_w.trans b1.symm, k1_w, k2, SM.back sm_w (Or.inr ⟨rfl, rfl, rfl, rfl⟩) v lc e f1_w f2_w f3_w⟩
end DEED11
end
section
/-! ===== run on_w both_w sides ===== -/
theorem rm_19 {m : Nat} (hm_w : m < 6) : (r_A 188).2.2[19 + m]? = some (73 + 3 * m, 76 + 3 * m, ((1 : Nat), (0 : Int), (3 : Int))) := by
  match m, hm_w with
  | 0, _ => rfl
  | 1, _ => rfl
  | 2, _ => rfl
  | 3, _ => rfl
  | 4, _ => rfl
  | 5, _ => rfl
section DEED8
variable {xs : Nat → Int} {L K n : Nat} {c d : Nat} {h h' h1 h2 : XH} {D : DD}
theorem iv03 {P : Int × Int} {u v : Int} (k : IV P (1, 0, u) v) : ∃ s : Nat, (s : Int) ≤ u ∧ v = (s : Int) := ⟨v.toNat, by have := k.1; have := k.2.1; omega, by have := k.1; omega⟩
theorem ruh_of (lq : LQ h) (rf : RF D h) : ∃ S U M r : Nat, RUH S U M r h ∧ D.1 = (S : Int) ∧ U = D.2.2.2.1.length ∧ M = nM D := by
  obtain ⟨P, hQ, -⟩ := lq
  obtain ⟨⟨-, a2, a3, -, a5, a6⟩, ⟨b1, b2, b3⟩, -⟩ := rf.ix
  obtain ⟨r, r4, er⟩ := iv03 (s_cell hQ (r := 3) (x := (162, 163, (1, 0, 4))) rfl (i := 162) (j := 0) (by decide) (by decide) (by decide))
  have e0 : (429 * 0 + 162 : Nat) = 162 := rfl
  rw [e0] at er
  refine ⟨D.1.toNat, _, nM D, r, ⟨by rw [b1]; omega, by omega, a2, a5, a3, a6, fun m z => ?_, fun q z1 z2 => ?_, er, by omega⟩, by omega, rfl, rfl⟩
  · have m6_w : m < 6 := by
      have : nM D ≤ 6 := a6
      omega
    obtain ⟨s, s3_w, es⟩ := iv03 (q_cell hQ (by decide) (rm_19 m6_w) rfl (i := 74 + 3 * m) (by dsimp only; omega) (by dsimp only; omega))
    exact ⟨s, by omega, es⟩
  · obtain ⟨s, s3_w, es⟩ := iv03 (s_cell hQ (r := 1) (x := (78, 150, (1, 0, 3))) rfl (i := q) (j := 0) z1 z2 (by decide))
    rw [Nat.mul_zero, Nat.zero_add] at es
    exact ⟨s, by omega, es⟩
theorem run_k {r1_w r2 : List Int} (cd : CDw 6 D h) (rf : RF D h) (sm_w : SM D h) (lq : LQ h) (e1_w : evF xs L g_ck K g_cW g_M n 11 [0] ((a_g3, c, d), h) = some (1, r1_w, ((a_g3, c, d), h1))) (e2_w : evF xs L g_ck K g_cW g_M n 271 [182] ((a_g3, c, d), h1) = some (1, r2, ((a_g3, c, d), h2))) : r1_w = r2 ∧ CDw 6 D h2 ∧ RF D h2 ∧ SM D h2 := by
  obtain ⟨w, w8, wc, wr_w⟩ := sm_w.pn
  obtain ⟨S, U, M, r, ru, -⟩ := ruh_of lq rf
  have er : h 194 162 = (r : Int) := ru.2.2.2.2.2.2.2.2.1
  have r4 : r ≤ 4 := ru.2.2.2.2.2.2.2.2.2
  have hr : h 70 10 = (r : Int) := by
    have e := sm_w.2.2.1 162 (Or.inr (Or.inr (Or.inr rfl)))
    rw [cl_ru (by omega)] at e
    have e' : h 70 10 = h 194 (0 + 162) := e
    rw [e', Nat.zero_add, er]
  have c11 : CS43 11 [0] h (fun k v h' => k = 1 → (r = 4 ∧ v = [-1] ∧ h' = h) ∨ (r < 4 ∧ ∃ x y, KEP w 0 0 3 h x ∧ FrW u3_W x y ∧ v = [(r : Int)] ∧ h' = j_up y 70 10 ((r + 1 : Nat) : Int))) := by
    rw [cs43_11, kk_11]
    exact ⟨w, r, wc, w8, hr, r4, fun y _ => Or.inl ⟨y, rfl, rfl⟩, fun y x z kx fz _ => Or.inr ⟨y, x, z, kx, fz, rfl, rfl⟩⟩
  have q1_w := (snd_43 n _ _ _ _ _ c11 _ _ _ _ e1_w).2 rfl
  have hi_w : ∀ o k : Nat, 178 ≤ o → h1 o k = h o k := fun o k z => by
    rcases q1_w with ⟨-, -, e⟩ | ⟨-, x, y, kx, fy, -, e⟩
    · rw [e]
    · rw [e, up_ne (by omega), u3_f fy (by omega)]
      exact kx.1 o k (by omega)
  have rf1 : RF D h1 := rf.fr (funext fun k => hi_w 188 k (by decide)) (funext fun k => hi_w 189 k (by decide)) (funext fun k => hi_w 190 k (by decide))
  have ru1 : RUH S U M r h1 := by
    obtain ⟨a1_w, a2, a3, a4, a5, a6, a7, a8, a9, a10⟩ := ru
    refine ⟨(hi_w 188 0 (by decide)).trans a1_w, a2, (hi_w 188 2 (by decide)).trans a3, a4, (hi_w 188 3 (by decide)).trans a5, a6, fun m z => ?_, fun q z1 z2 => ?_, (hi_w 194 162 (by decide)).trans a9, a10⟩
    · rw [hi_w 188 _ (by decide)]
      exact a7 m z
    · rw [hi_w 194 _ (by decide)]
      exact a8 q z1 z2
  have c271 : CS43 271 [182] h1 (fun k v h' => k = 1 → (r = 4 ∧ v = [-1] ∧ h' = thz h1) ∨ (r < 4 ∧ ∃ x, RKP w (thz h1) x ∧ Fr (m_W 270) x h' ∧ (∀ q : Nat, q < 162 ∨ 404 ≤ q → h' 194 q = x 194 q) ∧ h' 194 162 = ((r + 1 : Nat) : Int) ∧ v = [(r : Int)])) := by
    rw [cs43_271, kk_271]
    exact ⟨S, U, M, r, w, ru1, (hi_w 182 18 (by decide)).trans wr_w, w8, fun y _ => Or.inl ⟨y, rfl, rfl⟩, fun y x z kx f1_w f2_w f3_w _ => Or.inr ⟨y, x, kx, f1_w, f2_w, f3_w, rfl⟩⟩
  have q2_w := (snd_43 n _ _ _ _ _ c271 _ _ _ _ e2_w).2 rfl
  rcases q1_w with ⟨y, a1_w, a2⟩ | ⟨y, x, z, kx, fz, a1_w, a2⟩
  · rcases q2_w with ⟨-, b1, b2⟩ | ⟨y2, -⟩
    · subst a2
      subst b2
      exact ⟨a1_w.trans b1.symm, thz_k cd rf sm_w⟩
    · omega
  · rcases q2_w with ⟨y2, -⟩ | ⟨-, x2_w, rk, d1_w, d2_w, d3_w, b1⟩
    · omega
    · refine ⟨a1_w.trans b1.symm, cd.fr (fun o k a b => ?_), rf1.fr ?_ ?_ ?_, SM.run sm_w wc hr kx fz a2 rk d1_w d2_w d3_w⟩
      · rw [m270_f d1_w (by omega), rk.1 o k (by omega) (by omega), th_e (by omega), a2, up_ne (by omega), u3_f fz (by omega)]
        exact kx.1 o k (by omega)
      · exact (d1_w.row rfl (by decide)).trans (funext fun k => by rw [rk.1 188 k (by omega) (by omega), th_e (by decide)])
      · exact (d1_w.row rfl (by decide)).trans (funext fun k => by rw [rk.1 189 k (by omega) (by omega), th_e (by decide)])
      · exact (d1_w.row rfl (by decide)).trans (funext fun k => by rw [rk.1 190 k (by omega) (by omega), th_e (by decide)])
end DEED8
end
section
/-! ===== contracts: the reference's books: what is_w asked_w of none; opens, draws ===== -/
def tpL3 : List Nat := [222, 223, 225, 226, 227, 228, 229, 230, 231, 232, 243, 244, 245, 246, 247, 248, 249, 250, 251, 252, 253, 254, 255, 256, 257, 258, 259, 285, 287]
def CTop3 : CSt := fun f _ _ Q => tpL3.contains f = true ∧ ∀ k r h', Q k r h'
theorem tpL3_ok : (tpL3.all fun f => tpS (fun g => tpL3.contains g) (g_M f).2.2.2.2) = true := by decide +kernel
theorem snd_top3 {xs : Nat → Int} {L K : Nat} : ∀ n, SndC CTop3 (evF xs L g_ck K g_cW g_M n) := snd_all snd_none (fun f av h Q hQ => Or.inr (fun av h Q hQ => tpS_ok (F := fun g => tpL3.contains g) (fun g e av h Q hq => ⟨e, hq⟩) _ (List.all_eq_true.mp tpL3_ok f (by
  have := hQ.1
  rw [List.contains_iff_mem] at this
  exact this)) _ _ _ (fun c vs en' h' _ => hQ.2 _ _ _)))
def k258f : KT := kFr 258
def k259f : KT := kFr 259
def k285f : KT := kFr 285
def k287f : KT := kFr 287
/-- all_w blocks_w of the state_w but the tried one are as_w they were -/
def BKq (h h' : XH) : Prop := ∀ q : Nat, q < 4719 → h' 194 q = h 194 q
def k274 : KT := fun av h Q => match av with
  | [t, a] => t = 182 ∧ (a = 0 ∨ a = 1) ∧ Q 1 [a] (j_up h 182 0 (if a = 0 then 1 else 0))
  | _ => False
def OPN (h h' : XH) : Prop := (∀ x k : Nat, ¬ (x = 194 ∧ 4719 ≤ k ∧ k < 5123) → ¬ (x = 182 ∧ k = 19) → h' x k = h x k) ∧ h' 182 19 = j32 (h 182 19 + 1) ∧ ∀ q : Nat, q < 404 → h' 194 (4719 + q) = h 194 q
def k298 : KT := fun av h Q => match av with
  | [t] => t = 182 ∧ ∀ h', OPN h h' → Q 1 [] h'
  | _ => False
/-- a draw_w, and what is_w drawn -/
def dG (g : Nat) : Nat := (g * 1103515245 + 12345) % 2147483648
def k309 : KT := fun av h Q => match av with
  | [t, m] => t = 182 ∧ ∃ g mn_w : Nat, h 182 29 = (g : Int) ∧ g < 2147483648 ∧ m = (mn_w : Int) ∧ 1 ≤ mn_w ∧ mn_w ≤ 200 ∧ Q 1 [((dG g / 65536 % mn_w : Nat) : Int)] (j_up h 182 29 ((dG g : Nat) : Int))
  | _ => False
section KKG3
variable {h h1 h2 h' : XH} {Q : Nat → List Int → XH → Prop} {t b m p s f o v c a : Int} {D : DD} {k : Nat} {av : List Int}
theorem kk_258f : k258f av h Q = (av.getD 0 0 = 182 ∧ ∀ k r h', Fr (m_W 258) h h' → Q k r h') := id rfl
theorem kk_259f : k259f av h Q = (av.getD 0 0 = 182 ∧ ∀ k r h', Fr (m_W 259) h h' → Q k r h') := id rfl
theorem kk_285f : k285f av h Q = (av.getD 0 0 = 182 ∧ ∀ k r h', Fr (m_W 285) h h' → Q k r h') := id rfl
theorem kk_287f : k287f av h Q = (av.getD 0 0 = 182 ∧ ∀ k r h', Fr (m_W 287) h h' → Q k r h') := id rfl
theorem kk_274 : k274 [182, a] h Q = ((a = 0 ∨ a = 1) ∧ Q 1 [a] (j_up h 182 0 (if a = 0 then 1 else 0))) := propext ⟨fun a => a.2, fun a => ⟨rfl, a⟩⟩
theorem kk_298 : k298 [182] h Q = ∀ h', OPN h h' → Q 1 [] h' := propext ⟨fun a => a.2, fun a => ⟨rfl, a⟩⟩
theorem kk_309 : k309 [182, m] h Q = ∃ g mn_w : Nat, h 182 29 = (g : Int) ∧ g < 2147483648 ∧ m = (mn_w : Int) ∧ 1 ≤ mn_w ∧ mn_w ≤ 200 ∧ Q 1 [((dG g / 65536 % mn_w : Nat) : Int)] (j_up h 182 29 ((dG g : Nat) : Int)) := propext ⟨fun a => a.2, fun a => ⟨rfl, a⟩⟩
theorem BKq.rf : BKq h h := fun _ _ => rfl
theorem BKq.tr (a : BKq h h1) (b : BKq h1 h2) : BKq h h2 := fun q z => (b q z).trans (a q z)
theorem BKq.fr {W : List Nat × List Nat} (f : Fr W h h') (z : W.2.contains 194 = false) : BKq h h' := fun q _ => congrFun (f.row z (by decide)) q
theorem BKq.u {o k : Nat} {x : Int} (z : o = 194 → 4719 ≤ k) : BKq h (j_up h o k x) := fun q y => up_ne (fun e => by have := z e.1.symm; omega)
theorem OPN.bk (o : OPN h h') : BKq h h' := fun q z => o.1 194 q (by omega) (by omega)
end KKG3
def CS44 : CSt := fun f => match f with
  | 258 => k258f
  | 259 => k259f
  | 285 => k285f
  | 287 => k287f
  | _ => CS43 f
theorem cs44_54 {av : List Int} {h : XH} {Q : Nat → List Int → XH → Prop} : CS44 54 av h Q = k54 av h Q := id rfl
theorem cs44_55 {av : List Int} {h : XH} {Q : Nat → List Int → XH → Prop} : CS44 55 av h Q = k55 av h Q := id rfl
theorem cs44_68 {av : List Int} {h : XH} {Q : Nat → List Int → XH → Prop} : CS44 68 av h Q = k68 av h Q := id rfl
theorem cs44_69 {av : List Int} {h : XH} {Q : Nat → List Int → XH → Prop} : CS44 69 av h Q = k69 av h Q := id rfl
theorem cs44_70 {av : List Int} {h : XH} {Q : Nat → List Int → XH → Prop} : CS44 70 av h Q = k70 av h Q := id rfl
theorem cs44_71 {av : List Int} {h : XH} {Q : Nat → List Int → XH → Prop} : CS44 71 av h Q = k71 av h Q := id rfl
theorem cs44_72 {av : List Int} {h : XH} {Q : Nat → List Int → XH → Prop} : CS44 72 av h Q = k72 av h Q := id rfl
theorem cs44_73 {av : List Int} {h : XH} {Q : Nat → List Int → XH → Prop} : CS44 73 av h Q = k73 av h Q := id rfl
theorem cs44_74 {av : List Int} {h : XH} {Q : Nat → List Int → XH → Prop} : CS44 74 av h Q = k74 av h Q := id rfl
theorem cs44_75 {av : List Int} {h : XH} {Q : Nat → List Int → XH → Prop} : CS44 75 av h Q = k75 av h Q := id rfl
theorem cs44_186 {av : List Int} {h : XH} {Q : Nat → List Int → XH → Prop} : CS44 186 av h Q = k186 av h Q := id rfl
theorem cs44_187 {av : List Int} {h : XH} {Q : Nat → List Int → XH → Prop} : CS44 187 av h Q = k187 av h Q := id rfl
theorem cs44_188 {av : List Int} {h : XH} {Q : Nat → List Int → XH → Prop} : CS44 188 av h Q = k188 av h Q := id rfl
theorem cs44_189 {av : List Int} {h : XH} {Q : Nat → List Int → XH → Prop} : CS44 189 av h Q = k189 av h Q := id rfl
theorem cs44_191 {av : List Int} {h : XH} {Q : Nat → List Int → XH → Prop} : CS44 191 av h Q = k191 av h Q := id rfl
theorem cs44_192 {av : List Int} {h : XH} {Q : Nat → List Int → XH → Prop} : CS44 192 av h Q = k192 av h Q := id rfl
theorem cs44_193 {av : List Int} {h : XH} {Q : Nat → List Int → XH → Prop} : CS44 193 av h Q = k193 av h Q := id rfl
theorem cs44_198 {av : List Int} {h : XH} {Q : Nat → List Int → XH → Prop} : CS44 198 av h Q = k198 av h Q := id rfl
theorem cs44_207 {av : List Int} {h : XH} {Q : Nat → List Int → XH → Prop} : CS44 207 av h Q = k207 av h Q := id rfl
theorem cs44_195 {av : List Int} {h : XH} {Q : Nat → List Int → XH → Prop} : CS44 195 av h Q = k195 av h Q := id rfl
theorem cs44_196 {av : List Int} {h : XH} {Q : Nat → List Int → XH → Prop} : CS44 196 av h Q = k196 av h Q := id rfl
theorem cs44_201 {av : List Int} {h : XH} {Q : Nat → List Int → XH → Prop} : CS44 201 av h Q = k201 av h Q := id rfl
theorem cs44_203 {av : List Int} {h : XH} {Q : Nat → List Int → XH → Prop} : CS44 203 av h Q = k203 av h Q := id rfl
theorem cs44_204 {av : List Int} {h : XH} {Q : Nat → List Int → XH → Prop} : CS44 204 av h Q = k204 av h Q := id rfl
theorem cs44_194 {av : List Int} {h : XH} {Q : Nat → List Int → XH → Prop} : CS44 194 av h Q = k194 av h Q := id rfl
theorem cs44_197 {av : List Int} {h : XH} {Q : Nat → List Int → XH → Prop} : CS44 197 av h Q = k197 av h Q := id rfl
theorem cs44_200 {av : List Int} {h : XH} {Q : Nat → List Int → XH → Prop} : CS44 200 av h Q = k200 av h Q := id rfl
theorem cs44_202 {av : List Int} {h : XH} {Q : Nat → List Int → XH → Prop} : CS44 202 av h Q = k202 av h Q := id rfl
theorem cs44_205 {av : List Int} {h : XH} {Q : Nat → List Int → XH → Prop} : CS44 205 av h Q = k205 av h Q := id rfl
theorem cs44_208 {av : List Int} {h : XH} {Q : Nat → List Int → XH → Prop} : CS44 208 av h Q = k208 av h Q := id rfl
theorem cs44_209 {av : List Int} {h : XH} {Q : Nat → List Int → XH → Prop} : CS44 209 av h Q = k209 av h Q := id rfl
theorem cs44_211 {av : List Int} {h : XH} {Q : Nat → List Int → XH → Prop} : CS44 211 av h Q = k211 av h Q := id rfl
theorem cs44_216 {av : List Int} {h : XH} {Q : Nat → List Int → XH → Prop} : CS44 216 av h Q = k216 av h Q := id rfl
theorem cs44_217 {av : List Int} {h : XH} {Q : Nat → List Int → XH → Prop} : CS44 217 av h Q = k217 av h Q := id rfl
theorem cs44_218 {av : List Int} {h : XH} {Q : Nat → List Int → XH → Prop} : CS44 218 av h Q = k218 av h Q := id rfl
theorem cs44_219 {av : List Int} {h : XH} {Q : Nat → List Int → XH → Prop} : CS44 219 av h Q = k219 av h Q := id rfl
theorem cs44_220 {av : List Int} {h : XH} {Q : Nat → List Int → XH → Prop} : CS44 220 av h Q = k220 av h Q := id rfl
theorem cs44_221 {av : List Int} {h : XH} {Q : Nat → List Int → XH → Prop} : CS44 221 av h Q = k221 av h Q := id rfl
theorem cs44_210 {av : List Int} {h : XH} {Q : Nat → List Int → XH → Prop} : CS44 210 av h Q = k210 av h Q := id rfl
theorem cs44_212 {av : List Int} {h : XH} {Q : Nat → List Int → XH → Prop} : CS44 212 av h Q = k212 av h Q := id rfl
theorem cs44_213 {av : List Int} {h : XH} {Q : Nat → List Int → XH → Prop} : CS44 213 av h Q = k213 av h Q := id rfl
theorem cs44_190 {av : List Int} {h : XH} {Q : Nat → List Int → XH → Prop} : CS44 190 av h Q = k190 av h Q := id rfl
theorem cs44_199 {av : List Int} {h : XH} {Q : Nat → List Int → XH → Prop} : CS44 199 av h Q = k199 av h Q := id rfl
theorem cs44_225 {av : List Int} {h : XH} {Q : Nat → List Int → XH → Prop} : CS44 225 av h Q = k225 av h Q := id rfl
theorem cs44_226 {av : List Int} {h : XH} {Q : Nat → List Int → XH → Prop} : CS44 226 av h Q = k226 av h Q := id rfl
theorem cs44_227 {av : List Int} {h : XH} {Q : Nat → List Int → XH → Prop} : CS44 227 av h Q = k227 av h Q := id rfl
theorem cs44_228 {av : List Int} {h : XH} {Q : Nat → List Int → XH → Prop} : CS44 228 av h Q = k228 av h Q := id rfl
theorem cs44_333 {av : List Int} {h : XH} {Q : Nat → List Int → XH → Prop} : CS44 333 av h Q = k333 av h Q := id rfl
theorem cs44_67 {av : List Int} {h : XH} {Q : Nat → List Int → XH → Prop} : CS44 67 av h Q = k67 av h Q := id rfl
theorem cs44_65 {av : List Int} {h : XH} {Q : Nat → List Int → XH → Prop} : CS44 65 av h Q = k65 av h Q := id rfl
theorem cs44_66 {av : List Int} {h : XH} {Q : Nat → List Int → XH → Prop} : CS44 66 av h Q = k66 av h Q := id rfl
theorem cs44_64 {av : List Int} {h : XH} {Q : Nat → List Int → XH → Prop} : CS44 64 av h Q = k64 av h Q := id rfl
theorem cs44_63 {av : List Int} {h : XH} {Q : Nat → List Int → XH → Prop} : CS44 63 av h Q = k63 av h Q := id rfl
theorem cs44_77 {av : List Int} {h : XH} {Q : Nat → List Int → XH → Prop} : CS44 77 av h Q = k77 av h Q := id rfl
theorem cs44_76 {av : List Int} {h : XH} {Q : Nat → List Int → XH → Prop} : CS44 76 av h Q = k76 av h Q := id rfl
theorem cs44_133 {av : List Int} {h : XH} {Q : Nat → List Int → XH → Prop} : CS44 133 av h Q = k133 av h Q := id rfl
theorem cs44_134 {av : List Int} {h : XH} {Q : Nat → List Int → XH → Prop} : CS44 134 av h Q = k134 av h Q := id rfl
theorem cs44_135 {av : List Int} {h : XH} {Q : Nat → List Int → XH → Prop} : CS44 135 av h Q = k135 av h Q := id rfl
theorem cs44_136 {av : List Int} {h : XH} {Q : Nat → List Int → XH → Prop} : CS44 136 av h Q = k136 av h Q := id rfl
theorem cs44_138 {av : List Int} {h : XH} {Q : Nat → List Int → XH → Prop} : CS44 138 av h Q = k138 av h Q := id rfl
theorem cs44_139 {av : List Int} {h : XH} {Q : Nat → List Int → XH → Prop} : CS44 139 av h Q = k139 av h Q := id rfl
theorem cs44_105 {av : List Int} {h : XH} {Q : Nat → List Int → XH → Prop} : CS44 105 av h Q = k105 av h Q := id rfl
theorem cs44_102 {av : List Int} {h : XH} {Q : Nat → List Int → XH → Prop} : CS44 102 av h Q = k102 av h Q := id rfl
theorem cs44_103 {av : List Int} {h : XH} {Q : Nat → List Int → XH → Prop} : CS44 103 av h Q = k103 av h Q := id rfl
theorem cs44_104 {av : List Int} {h : XH} {Q : Nat → List Int → XH → Prop} : CS44 104 av h Q = k104 av h Q := id rfl
theorem cs44_106 {av : List Int} {h : XH} {Q : Nat → List Int → XH → Prop} : CS44 106 av h Q = k106 av h Q := id rfl
theorem cs44_140 {av : List Int} {h : XH} {Q : Nat → List Int → XH → Prop} : CS44 140 av h Q = k140 av h Q := id rfl
theorem cs44_137 {av : List Int} {h : XH} {Q : Nat → List Int → XH → Prop} : CS44 137 av h Q = k137 av h Q := id rfl
theorem cs44_127 {av : List Int} {h : XH} {Q : Nat → List Int → XH → Prop} : CS44 127 av h Q = k127 av h Q := id rfl
theorem cs44_56 {av : List Int} {h : XH} {Q : Nat → List Int → XH → Prop} : CS44 56 av h Q = k56 av h Q := id rfl
theorem cs44_57 {av : List Int} {h : XH} {Q : Nat → List Int → XH → Prop} : CS44 57 av h Q = k57 av h Q := id rfl
theorem cs44_79 {av : List Int} {h : XH} {Q : Nat → List Int → XH → Prop} : CS44 79 av h Q = k79 av h Q := id rfl
theorem cs44_101 {av : List Int} {h : XH} {Q : Nat → List Int → XH → Prop} : CS44 101 av h Q = k101 av h Q := id rfl
theorem cs44_96 {av : List Int} {h : XH} {Q : Nat → List Int → XH → Prop} : CS44 96 av h Q = k96 av h Q := id rfl
theorem cs44_99 {av : List Int} {h : XH} {Q : Nat → List Int → XH → Prop} : CS44 99 av h Q = k99c av h Q := id rfl
theorem cs44_100 {av : List Int} {h : XH} {Q : Nat → List Int → XH → Prop} : CS44 100 av h Q = k100 av h Q := id rfl
theorem cs44_98 {av : List Int} {h : XH} {Q : Nat → List Int → XH → Prop} : CS44 98 av h Q = k98 av h Q := id rfl
theorem cs44_122 {av : List Int} {h : XH} {Q : Nat → List Int → XH → Prop} : CS44 122 av h Q = k122 av h Q := id rfl
theorem cs44_123 {av : List Int} {h : XH} {Q : Nat → List Int → XH → Prop} : CS44 123 av h Q = k123 av h Q := id rfl
theorem cs44_124 {av : List Int} {h : XH} {Q : Nat → List Int → XH → Prop} : CS44 124 av h Q = k124 av h Q := id rfl
theorem cs44_125 {av : List Int} {h : XH} {Q : Nat → List Int → XH → Prop} : CS44 125 av h Q = k125 av h Q := id rfl
theorem cs44_126 {av : List Int} {h : XH} {Q : Nat → List Int → XH → Prop} : CS44 126 av h Q = k126 av h Q := id rfl
theorem cs44_84 {av : List Int} {h : XH} {Q : Nat → List Int → XH → Prop} : CS44 84 av h Q = k84 av h Q := id rfl
theorem cs44_82 {av : List Int} {h : XH} {Q : Nat → List Int → XH → Prop} : CS44 82 av h Q = k82 av h Q := id rfl
theorem cs44_83 {av : List Int} {h : XH} {Q : Nat → List Int → XH → Prop} : CS44 83 av h Q = k83 av h Q := id rfl
theorem cs44_85 {av : List Int} {h : XH} {Q : Nat → List Int → XH → Prop} : CS44 85 av h Q = k85 av h Q := id rfl
theorem cs44_89 {av : List Int} {h : XH} {Q : Nat → List Int → XH → Prop} : CS44 89 av h Q = k89 av h Q := id rfl
theorem cs44_90 {av : List Int} {h : XH} {Q : Nat → List Int → XH → Prop} : CS44 90 av h Q = k90 av h Q := id rfl
theorem cs44_91 {av : List Int} {h : XH} {Q : Nat → List Int → XH → Prop} : CS44 91 av h Q = k91 av h Q := id rfl
theorem cs44_88 {av : List Int} {h : XH} {Q : Nat → List Int → XH → Prop} : CS44 88 av h Q = k88 av h Q := id rfl
theorem cs44_86 {av : List Int} {h : XH} {Q : Nat → List Int → XH → Prop} : CS44 86 av h Q = k86 av h Q := id rfl
theorem cs44_87 {av : List Int} {h : XH} {Q : Nat → List Int → XH → Prop} : CS44 87 av h Q = k87 av h Q := id rfl
theorem cs44_81 {av : List Int} {h : XH} {Q : Nat → List Int → XH → Prop} : CS44 81 av h Q = k81 av h Q := id rfl
theorem cs44_128 {av : List Int} {h : XH} {Q : Nat → List Int → XH → Prop} : CS44 128 av h Q = k128 av h Q := id rfl
theorem cs44_119 {av : List Int} {h : XH} {Q : Nat → List Int → XH → Prop} : CS44 119 av h Q = k119 av h Q := id rfl
theorem cs44_58 {av : List Int} {h : XH} {Q : Nat → List Int → XH → Prop} : CS44 58 av h Q = k58 av h Q := id rfl
theorem cs44_80 {av : List Int} {h : XH} {Q : Nat → List Int → XH → Prop} : CS44 80 av h Q = k80 av h Q := id rfl
theorem cs44_97 {av : List Int} {h : XH} {Q : Nat → List Int → XH → Prop} : CS44 97 av h Q = k97s av h Q := id rfl
theorem cs44_156 {av : List Int} {h : XH} {Q : Nat → List Int → XH → Prop} : CS44 156 av h Q = k156 av h Q := id rfl
theorem cs44_142 {av : List Int} {h : XH} {Q : Nat → List Int → XH → Prop} : CS44 142 av h Q = k142 av h Q := id rfl
theorem cs44_3 {av : List Int} {h : XH} {Q : Nat → List Int → XH → Prop} : CS44 3 av h Q = k3s av h Q := id rfl
theorem cs44_61 {av : List Int} {h : XH} {Q : Nat → List Int → XH → Prop} : CS44 61 av h Q = k61z av h Q := id rfl
theorem cs44_2 {av : List Int} {h : XH} {Q : Nat → List Int → XH → Prop} : CS44 2 av h Q = k2s av h Q := id rfl
theorem cs44_240 {av : List Int} {h : XH} {Q : Nat → List Int → XH → Prop} : CS44 240 av h Q = k240s av h Q := id rfl
theorem cs44_241 {av : List Int} {h : XH} {Q : Nat → List Int → XH → Prop} : CS44 241 av h Q = k241s av h Q := id rfl
theorem cs44_206 {av : List Int} {h : XH} {Q : Nat → List Int → XH → Prop} : CS44 206 av h Q = k206s av h Q := id rfl
theorem cs44_113 {av : List Int} {h : XH} {Q : Nat → List Int → XH → Prop} : CS44 113 av h Q = k113 av h Q := id rfl
theorem cs44_114 {av : List Int} {h : XH} {Q : Nat → List Int → XH → Prop} : CS44 114 av h Q = k114 av h Q := id rfl
theorem cs44_116 {av : List Int} {h : XH} {Q : Nat → List Int → XH → Prop} : CS44 116 av h Q = k116 av h Q := id rfl
theorem cs44_117 {av : List Int} {h : XH} {Q : Nat → List Int → XH → Prop} : CS44 117 av h Q = k117 av h Q := id rfl
theorem cs44_121 {av : List Int} {h : XH} {Q : Nat → List Int → XH → Prop} : CS44 121 av h Q = k121 av h Q := id rfl
theorem cs44_129 {av : List Int} {h : XH} {Q : Nat → List Int → XH → Prop} : CS44 129 av h Q = k129 av h Q := id rfl
theorem cs44_130 {av : List Int} {h : XH} {Q : Nat → List Int → XH → Prop} : CS44 130 av h Q = k130 av h Q := id rfl
theorem cs44_131 {av : List Int} {h : XH} {Q : Nat → List Int → XH → Prop} : CS44 131 av h Q = k131 av h Q := id rfl
theorem cs44_132 {av : List Int} {h : XH} {Q : Nat → List Int → XH → Prop} : CS44 132 av h Q = k132 av h Q := id rfl
theorem cs44_120 {av : List Int} {h : XH} {Q : Nat → List Int → XH → Prop} : CS44 120 av h Q = k120 av h Q := id rfl
theorem cs44_4 {av : List Int} {h : XH} {Q : Nat → List Int → XH → Prop} : CS44 4 av h Q = k4 av h Q := id rfl
theorem cs44_229 {av : List Int} {h : XH} {Q : Nat → List Int → XH → Prop} : CS44 229 av h Q = k229 av h Q := id rfl
theorem cs44_233 {av : List Int} {h : XH} {Q : Nat → List Int → XH → Prop} : CS44 233 av h Q = k233 av h Q := id rfl
theorem cs44_234 {av : List Int} {h : XH} {Q : Nat → List Int → XH → Prop} : CS44 234 av h Q = k234 av h Q := id rfl
theorem cs44_215 {av : List Int} {h : XH} {Q : Nat → List Int → XH → Prop} : CS44 215 av h Q = k215 av h Q := id rfl
theorem cs44_214 {av : List Int} {h : XH} {Q : Nat → List Int → XH → Prop} : CS44 214 av h Q = k214 av h Q := id rfl
theorem cs44_146 {av : List Int} {h : XH} {Q : Nat → List Int → XH → Prop} : CS44 146 av h Q = k146 av h Q := id rfl
theorem cs44_147 {av : List Int} {h : XH} {Q : Nat → List Int → XH → Prop} : CS44 147 av h Q = k147 av h Q := id rfl
theorem cs44_149 {av : List Int} {h : XH} {Q : Nat → List Int → XH → Prop} : CS44 149 av h Q = k149 av h Q := id rfl
theorem cs44_155 {av : List Int} {h : XH} {Q : Nat → List Int → XH → Prop} : CS44 155 av h Q = k155 av h Q := id rfl
theorem cs44_157 {av : List Int} {h : XH} {Q : Nat → List Int → XH → Prop} : CS44 157 av h Q = k157 av h Q := id rfl
theorem cs44_165 {av : List Int} {h : XH} {Q : Nat → List Int → XH → Prop} : CS44 165 av h Q = k165 av h Q := id rfl
theorem cs44_59 {av : List Int} {h : XH} {Q : Nat → List Int → XH → Prop} : CS44 59 av h Q = k59 av h Q := id rfl
theorem cs44_107 {av : List Int} {h : XH} {Q : Nat → List Int → XH → Prop} : CS44 107 av h Q = k107 av h Q := id rfl
theorem cs44_108 {av : List Int} {h : XH} {Q : Nat → List Int → XH → Prop} : CS44 108 av h Q = k108 av h Q := id rfl
theorem cs44_109 {av : List Int} {h : XH} {Q : Nat → List Int → XH → Prop} : CS44 109 av h Q = k109 av h Q := id rfl
theorem cs44_110 {av : List Int} {h : XH} {Q : Nat → List Int → XH → Prop} : CS44 110 av h Q = k110 av h Q := id rfl
theorem cs44_111 {av : List Int} {h : XH} {Q : Nat → List Int → XH → Prop} : CS44 111 av h Q = k111 av h Q := id rfl
theorem cs44_112 {av : List Int} {h : XH} {Q : Nat → List Int → XH → Prop} : CS44 112 av h Q = k112 av h Q := id rfl
theorem cs44_143 {av : List Int} {h : XH} {Q : Nat → List Int → XH → Prop} : CS44 143 av h Q = k143 av h Q := id rfl
theorem cs44_170 {av : List Int} {h : XH} {Q : Nat → List Int → XH → Prop} : CS44 170 av h Q = k170 av h Q := id rfl
theorem cs44_168 {av : List Int} {h : XH} {Q : Nat → List Int → XH → Prop} : CS44 168 av h Q = k168 av h Q := id rfl
theorem cs44_169 {av : List Int} {h : XH} {Q : Nat → List Int → XH → Prop} : CS44 169 av h Q = k169 av h Q := id rfl
theorem cs44_181 {av : List Int} {h : XH} {Q : Nat → List Int → XH → Prop} : CS44 181 av h Q = k181 av h Q := id rfl
theorem cs44_5 {av : List Int} {h : XH} {Q : Nat → List Int → XH → Prop} : CS44 5 av h Q = k5 av h Q := id rfl
theorem cs44_6 {av : List Int} {h : XH} {Q : Nat → List Int → XH → Prop} : CS44 6 av h Q = k6 av h Q := id rfl
theorem cs44_7 {av : List Int} {h : XH} {Q : Nat → List Int → XH → Prop} : CS44 7 av h Q = k7 av h Q := id rfl
theorem cs44_8 {av : List Int} {h : XH} {Q : Nat → List Int → XH → Prop} : CS44 8 av h Q = k8 av h Q := id rfl
theorem cs44_9 {av : List Int} {h : XH} {Q : Nat → List Int → XH → Prop} : CS44 9 av h Q = k9 av h Q := id rfl
theorem cs44_10 {av : List Int} {h : XH} {Q : Nat → List Int → XH → Prop} : CS44 10 av h Q = k10s av h Q := id rfl
theorem cs44_11 {av : List Int} {h : XH} {Q : Nat → List Int → XH → Prop} : CS44 11 av h Q = k11 av h Q := id rfl
theorem cs44_12 {av : List Int} {h : XH} {Q : Nat → List Int → XH → Prop} : CS44 12 av h Q = k12s av h Q := id rfl
theorem cs44_40 {av : List Int} {h : XH} {Q : Nat → List Int → XH → Prop} : CS44 40 av h Q = k40s av h Q := id rfl
theorem cs44_49 {av : List Int} {h : XH} {Q : Nat → List Int → XH → Prop} : CS44 49 av h Q = k49 av h Q := id rfl
theorem cs44_50 {av : List Int} {h : XH} {Q : Nat → List Int → XH → Prop} : CS44 50 av h Q = k50 av h Q := id rfl
theorem cs44_48 {av : List Int} {h : XH} {Q : Nat → List Int → XH → Prop} : CS44 48 av h Q = k48 av h Q := id rfl
theorem cs44_224 {av : List Int} {h : XH} {Q : Nat → List Int → XH → Prop} : CS44 224 av h Q = k224s av h Q := id rfl
theorem cs44_230 {av : List Int} {h : XH} {Q : Nat → List Int → XH → Prop} : CS44 230 av h Q = k230 av h Q := id rfl
theorem cs44_235 {av : List Int} {h : XH} {Q : Nat → List Int → XH → Prop} : CS44 235 av h Q = k235 av h Q := id rfl
theorem cs44_236 {av : List Int} {h : XH} {Q : Nat → List Int → XH → Prop} : CS44 236 av h Q = k236 av h Q := id rfl
theorem cs44_237 {av : List Int} {h : XH} {Q : Nat → List Int → XH → Prop} : CS44 237 av h Q = k237 av h Q := id rfl
theorem cs44_238 {av : List Int} {h : XH} {Q : Nat → List Int → XH → Prop} : CS44 238 av h Q = k238 av h Q := id rfl
theorem cs44_243 {av : List Int} {h : XH} {Q : Nat → List Int → XH → Prop} : CS44 243 av h Q = k243 av h Q := id rfl
theorem cs44_256 {av : List Int} {h : XH} {Q : Nat → List Int → XH → Prop} : CS44 256 av h Q = k256 av h Q := id rfl
theorem cs44_264 {av : List Int} {h : XH} {Q : Nat → List Int → XH → Prop} : CS44 264 av h Q = k264 av h Q := id rfl
theorem cs44_266 {av : List Int} {h : XH} {Q : Nat → List Int → XH → Prop} : CS44 266 av h Q = k266 av h Q := id rfl
theorem cs44_239 {av : List Int} {h : XH} {Q : Nat → List Int → XH → Prop} : CS44 239 av h Q = k239 av h Q := id rfl
theorem cs44_242 {av : List Int} {h : XH} {Q : Nat → List Int → XH → Prop} : CS44 242 av h Q = k242s av h Q := id rfl
theorem cs44_260 {av : List Int} {h : XH} {Q : Nat → List Int → XH → Prop} : CS44 260 av h Q = k260 av h Q := id rfl
theorem cs44_261 {av : List Int} {h : XH} {Q : Nat → List Int → XH → Prop} : CS44 261 av h Q = k261 av h Q := id rfl
theorem cs44_262 {av : List Int} {h : XH} {Q : Nat → List Int → XH → Prop} : CS44 262 av h Q = k262 av h Q := id rfl
theorem cs44_263 {av : List Int} {h : XH} {Q : Nat → List Int → XH → Prop} : CS44 263 av h Q = k263 av h Q := id rfl
theorem cs44_265 {av : List Int} {h : XH} {Q : Nat → List Int → XH → Prop} : CS44 265 av h Q = k265 av h Q := id rfl
theorem cs44_267 {av : List Int} {h : XH} {Q : Nat → List Int → XH → Prop} : CS44 267 av h Q = k267 av h Q := id rfl
theorem cs44_268 {av : List Int} {h : XH} {Q : Nat → List Int → XH → Prop} : CS44 268 av h Q = k268 av h Q := id rfl
theorem cs44_272 {av : List Int} {h : XH} {Q : Nat → List Int → XH → Prop} : CS44 272 av h Q = k272 av h Q := id rfl
theorem cs44_304 {av : List Int} {h : XH} {Q : Nat → List Int → XH → Prop} : CS44 304 av h Q = k304 av h Q := id rfl
theorem cs44_311 {av : List Int} {h : XH} {Q : Nat → List Int → XH → Prop} : CS44 311 av h Q = k311 av h Q := id rfl
theorem cs44_254 {av : List Int} {h : XH} {Q : Nat → List Int → XH → Prop} : CS44 254 av h Q = k254f av h Q := id rfl
theorem cs44_257 {av : List Int} {h : XH} {Q : Nat → List Int → XH → Prop} : CS44 257 av h Q = k257f av h Q := id rfl
theorem cs44_269 {av : List Int} {h : XH} {Q : Nat → List Int → XH → Prop} : CS44 269 av h Q = k269 av h Q := id rfl
theorem cs44_270 {av : List Int} {h : XH} {Q : Nat → List Int → XH → Prop} : CS44 270 av h Q = k270 av h Q := id rfl
theorem cs44_271 {av : List Int} {h : XH} {Q : Nat → List Int → XH → Prop} : CS44 271 av h Q = k271 av h Q := id rfl
theorem cs44_258 {av : List Int} {h : XH} {Q : Nat → List Int → XH → Prop} : CS44 258 av h Q = k258f av h Q := id rfl
theorem cs44_259 {av : List Int} {h : XH} {Q : Nat → List Int → XH → Prop} : CS44 259 av h Q = k259f av h Q := id rfl
theorem cs44_285 {av : List Int} {h : XH} {Q : Nat → List Int → XH → Prop} : CS44 285 av h Q = k285f av h Q := id rfl
theorem cs44_287 {av : List Int} {h : XH} {Q : Nat → List Int → XH → Prop} : CS44 287 av h Q = k287f av h Q := id rfl
theorem kFr_ok3 {xs : Nat → Int} {L K n f : Nat} {cd : Nat × Nat} {av : List Int} {h : XH} {Q : Nat → List Int → XH → Prop} (h1 : tpL3.contains f = true) (h2 : m_in f = true) (hQ : kFr f av h Q) {k : Nat} {r : List Int} {g' : XS × Nat × Nat} {h' : XH} (e : evF xs L g_ck K g_cW g_M n f av ((a_g3, cd), h) = some (k, r, (g', h'))) : (k = 1 → g' = (a_g3, cd)) ∧ Q k r h' :=
  ⟨(snd_top3 n cd f av h (fun _ _ _ => True) ⟨h1, fun _ _ _ => trivial⟩ k r g' h' e).1, hQ.2 k r h' (fr_all n f av (a_g3, cd) h k r g' h' h2 rfl (Or.inr hQ.1) e).2⟩
theorem snd_44 {xs : Nat → Int} {L K : Nat} : ∀ n, SndC CS44 (evF xs L g_ck K g_cW g_M n) := fun n cd f av h Q hQ k r g' h' e => by
  unfold CS44 at hQ
  split at hQ
  · exact kFr_ok3 (by decide) (by decide) hQ e
  · exact kFr_ok3 (by decide) (by decide) hQ e
  · exact kFr_ok3 (by decide) (by decide) hQ e
  · exact kFr_ok3 (by decide) (by decide) hQ e
  · exact snd_43 n cd _ av h Q hQ k r g' h' e
def CS45 : CSt := fun f => match f with
  | 274 => k274
  | 298 => k298
  | 309 => k309
  | _ => CS44 f
theorem cs45_54 {av : List Int} {h : XH} {Q : Nat → List Int → XH → Prop} : CS45 54 av h Q = k54 av h Q := id rfl
theorem cs45_55 {av : List Int} {h : XH} {Q : Nat → List Int → XH → Prop} : CS45 55 av h Q = k55 av h Q := id rfl
theorem cs45_68 {av : List Int} {h : XH} {Q : Nat → List Int → XH → Prop} : CS45 68 av h Q = k68 av h Q := id rfl
theorem cs45_69 {av : List Int} {h : XH} {Q : Nat → List Int → XH → Prop} : CS45 69 av h Q = k69 av h Q := id rfl
theorem cs45_70 {av : List Int} {h : XH} {Q : Nat → List Int → XH → Prop} : CS45 70 av h Q = k70 av h Q := id rfl
theorem cs45_71 {av : List Int} {h : XH} {Q : Nat → List Int → XH → Prop} : CS45 71 av h Q = k71 av h Q := id rfl
theorem cs45_72 {av : List Int} {h : XH} {Q : Nat → List Int → XH → Prop} : CS45 72 av h Q = k72 av h Q := id rfl
theorem cs45_73 {av : List Int} {h : XH} {Q : Nat → List Int → XH → Prop} : CS45 73 av h Q = k73 av h Q := id rfl
theorem cs45_74 {av : List Int} {h : XH} {Q : Nat → List Int → XH → Prop} : CS45 74 av h Q = k74 av h Q := id rfl
theorem cs45_75 {av : List Int} {h : XH} {Q : Nat → List Int → XH → Prop} : CS45 75 av h Q = k75 av h Q := id rfl
theorem cs45_186 {av : List Int} {h : XH} {Q : Nat → List Int → XH → Prop} : CS45 186 av h Q = k186 av h Q := id rfl
theorem cs45_187 {av : List Int} {h : XH} {Q : Nat → List Int → XH → Prop} : CS45 187 av h Q = k187 av h Q := id rfl
theorem cs45_188 {av : List Int} {h : XH} {Q : Nat → List Int → XH → Prop} : CS45 188 av h Q = k188 av h Q := id rfl
theorem cs45_189 {av : List Int} {h : XH} {Q : Nat → List Int → XH → Prop} : CS45 189 av h Q = k189 av h Q := id rfl
theorem cs45_191 {av : List Int} {h : XH} {Q : Nat → List Int → XH → Prop} : CS45 191 av h Q = k191 av h Q := id rfl
theorem cs45_192 {av : List Int} {h : XH} {Q : Nat → List Int → XH → Prop} : CS45 192 av h Q = k192 av h Q := id rfl
theorem cs45_193 {av : List Int} {h : XH} {Q : Nat → List Int → XH → Prop} : CS45 193 av h Q = k193 av h Q := id rfl
theorem cs45_198 {av : List Int} {h : XH} {Q : Nat → List Int → XH → Prop} : CS45 198 av h Q = k198 av h Q := id rfl
theorem cs45_207 {av : List Int} {h : XH} {Q : Nat → List Int → XH → Prop} : CS45 207 av h Q = k207 av h Q := id rfl
theorem cs45_195 {av : List Int} {h : XH} {Q : Nat → List Int → XH → Prop} : CS45 195 av h Q = k195 av h Q := id rfl
theorem cs45_196 {av : List Int} {h : XH} {Q : Nat → List Int → XH → Prop} : CS45 196 av h Q = k196 av h Q := id rfl
theorem cs45_201 {av : List Int} {h : XH} {Q : Nat → List Int → XH → Prop} : CS45 201 av h Q = k201 av h Q := id rfl
theorem cs45_203 {av : List Int} {h : XH} {Q : Nat → List Int → XH → Prop} : CS45 203 av h Q = k203 av h Q := id rfl
theorem cs45_204 {av : List Int} {h : XH} {Q : Nat → List Int → XH → Prop} : CS45 204 av h Q = k204 av h Q := id rfl
theorem cs45_194 {av : List Int} {h : XH} {Q : Nat → List Int → XH → Prop} : CS45 194 av h Q = k194 av h Q := id rfl
theorem cs45_197 {av : List Int} {h : XH} {Q : Nat → List Int → XH → Prop} : CS45 197 av h Q = k197 av h Q := id rfl
theorem cs45_200 {av : List Int} {h : XH} {Q : Nat → List Int → XH → Prop} : CS45 200 av h Q = k200 av h Q := id rfl
theorem cs45_202 {av : List Int} {h : XH} {Q : Nat → List Int → XH → Prop} : CS45 202 av h Q = k202 av h Q := id rfl
theorem cs45_205 {av : List Int} {h : XH} {Q : Nat → List Int → XH → Prop} : CS45 205 av h Q = k205 av h Q := id rfl
theorem cs45_208 {av : List Int} {h : XH} {Q : Nat → List Int → XH → Prop} : CS45 208 av h Q = k208 av h Q := id rfl
theorem cs45_209 {av : List Int} {h : XH} {Q : Nat → List Int → XH → Prop} : CS45 209 av h Q = k209 av h Q := id rfl
theorem cs45_211 {av : List Int} {h : XH} {Q : Nat → List Int → XH → Prop} : CS45 211 av h Q = k211 av h Q := id rfl
theorem cs45_216 {av : List Int} {h : XH} {Q : Nat → List Int → XH → Prop} : CS45 216 av h Q = k216 av h Q := id rfl
theorem cs45_217 {av : List Int} {h : XH} {Q : Nat → List Int → XH → Prop} : CS45 217 av h Q = k217 av h Q := id rfl
theorem cs45_218 {av : List Int} {h : XH} {Q : Nat → List Int → XH → Prop} : CS45 218 av h Q = k218 av h Q := id rfl
theorem cs45_219 {av : List Int} {h : XH} {Q : Nat → List Int → XH → Prop} : CS45 219 av h Q = k219 av h Q := id rfl
theorem cs45_220 {av : List Int} {h : XH} {Q : Nat → List Int → XH → Prop} : CS45 220 av h Q = k220 av h Q := id rfl
theorem cs45_221 {av : List Int} {h : XH} {Q : Nat → List Int → XH → Prop} : CS45 221 av h Q = k221 av h Q := id rfl
theorem cs45_210 {av : List Int} {h : XH} {Q : Nat → List Int → XH → Prop} : CS45 210 av h Q = k210 av h Q := id rfl
theorem cs45_212 {av : List Int} {h : XH} {Q : Nat → List Int → XH → Prop} : CS45 212 av h Q = k212 av h Q := id rfl
theorem cs45_213 {av : List Int} {h : XH} {Q : Nat → List Int → XH → Prop} : CS45 213 av h Q = k213 av h Q := id rfl
theorem cs45_190 {av : List Int} {h : XH} {Q : Nat → List Int → XH → Prop} : CS45 190 av h Q = k190 av h Q := id rfl
theorem cs45_199 {av : List Int} {h : XH} {Q : Nat → List Int → XH → Prop} : CS45 199 av h Q = k199 av h Q := id rfl
theorem cs45_225 {av : List Int} {h : XH} {Q : Nat → List Int → XH → Prop} : CS45 225 av h Q = k225 av h Q := id rfl
theorem cs45_226 {av : List Int} {h : XH} {Q : Nat → List Int → XH → Prop} : CS45 226 av h Q = k226 av h Q := id rfl
theorem cs45_227 {av : List Int} {h : XH} {Q : Nat → List Int → XH → Prop} : CS45 227 av h Q = k227 av h Q := id rfl
theorem cs45_228 {av : List Int} {h : XH} {Q : Nat → List Int → XH → Prop} : CS45 228 av h Q = k228 av h Q := id rfl
theorem cs45_333 {av : List Int} {h : XH} {Q : Nat → List Int → XH → Prop} : CS45 333 av h Q = k333 av h Q := id rfl
theorem cs45_67 {av : List Int} {h : XH} {Q : Nat → List Int → XH → Prop} : CS45 67 av h Q = k67 av h Q := id rfl
theorem cs45_65 {av : List Int} {h : XH} {Q : Nat → List Int → XH → Prop} : CS45 65 av h Q = k65 av h Q := id rfl
theorem cs45_66 {av : List Int} {h : XH} {Q : Nat → List Int → XH → Prop} : CS45 66 av h Q = k66 av h Q := id rfl
theorem cs45_64 {av : List Int} {h : XH} {Q : Nat → List Int → XH → Prop} : CS45 64 av h Q = k64 av h Q := id rfl
theorem cs45_63 {av : List Int} {h : XH} {Q : Nat → List Int → XH → Prop} : CS45 63 av h Q = k63 av h Q := id rfl
theorem cs45_77 {av : List Int} {h : XH} {Q : Nat → List Int → XH → Prop} : CS45 77 av h Q = k77 av h Q := id rfl
theorem cs45_76 {av : List Int} {h : XH} {Q : Nat → List Int → XH → Prop} : CS45 76 av h Q = k76 av h Q := id rfl
theorem cs45_133 {av : List Int} {h : XH} {Q : Nat → List Int → XH → Prop} : CS45 133 av h Q = k133 av h Q := id rfl
theorem cs45_134 {av : List Int} {h : XH} {Q : Nat → List Int → XH → Prop} : CS45 134 av h Q = k134 av h Q := id rfl
theorem cs45_135 {av : List Int} {h : XH} {Q : Nat → List Int → XH → Prop} : CS45 135 av h Q = k135 av h Q := id rfl
theorem cs45_136 {av : List Int} {h : XH} {Q : Nat → List Int → XH → Prop} : CS45 136 av h Q = k136 av h Q := id rfl
theorem cs45_138 {av : List Int} {h : XH} {Q : Nat → List Int → XH → Prop} : CS45 138 av h Q = k138 av h Q := id rfl
theorem cs45_139 {av : List Int} {h : XH} {Q : Nat → List Int → XH → Prop} : CS45 139 av h Q = k139 av h Q := id rfl
theorem cs45_105 {av : List Int} {h : XH} {Q : Nat → List Int → XH → Prop} : CS45 105 av h Q = k105 av h Q := id rfl
theorem cs45_102 {av : List Int} {h : XH} {Q : Nat → List Int → XH → Prop} : CS45 102 av h Q = k102 av h Q := id rfl
theorem cs45_103 {av : List Int} {h : XH} {Q : Nat → List Int → XH → Prop} : CS45 103 av h Q = k103 av h Q := id rfl
theorem cs45_104 {av : List Int} {h : XH} {Q : Nat → List Int → XH → Prop} : CS45 104 av h Q = k104 av h Q := id rfl
theorem cs45_106 {av : List Int} {h : XH} {Q : Nat → List Int → XH → Prop} : CS45 106 av h Q = k106 av h Q := id rfl
theorem cs45_140 {av : List Int} {h : XH} {Q : Nat → List Int → XH → Prop} : CS45 140 av h Q = k140 av h Q := id rfl
theorem cs45_137 {av : List Int} {h : XH} {Q : Nat → List Int → XH → Prop} : CS45 137 av h Q = k137 av h Q := id rfl
theorem cs45_127 {av : List Int} {h : XH} {Q : Nat → List Int → XH → Prop} : CS45 127 av h Q = k127 av h Q := id rfl
theorem cs45_56 {av : List Int} {h : XH} {Q : Nat → List Int → XH → Prop} : CS45 56 av h Q = k56 av h Q := id rfl
theorem cs45_57 {av : List Int} {h : XH} {Q : Nat → List Int → XH → Prop} : CS45 57 av h Q = k57 av h Q := id rfl
theorem cs45_79 {av : List Int} {h : XH} {Q : Nat → List Int → XH → Prop} : CS45 79 av h Q = k79 av h Q := id rfl
theorem cs45_101 {av : List Int} {h : XH} {Q : Nat → List Int → XH → Prop} : CS45 101 av h Q = k101 av h Q := id rfl
theorem cs45_96 {av : List Int} {h : XH} {Q : Nat → List Int → XH → Prop} : CS45 96 av h Q = k96 av h Q := id rfl
theorem cs45_99 {av : List Int} {h : XH} {Q : Nat → List Int → XH → Prop} : CS45 99 av h Q = k99c av h Q := id rfl
theorem cs45_100 {av : List Int} {h : XH} {Q : Nat → List Int → XH → Prop} : CS45 100 av h Q = k100 av h Q := id rfl
theorem cs45_98 {av : List Int} {h : XH} {Q : Nat → List Int → XH → Prop} : CS45 98 av h Q = k98 av h Q := id rfl
theorem cs45_122 {av : List Int} {h : XH} {Q : Nat → List Int → XH → Prop} : CS45 122 av h Q = k122 av h Q := id rfl
theorem cs45_123 {av : List Int} {h : XH} {Q : Nat → List Int → XH → Prop} : CS45 123 av h Q = k123 av h Q := id rfl
theorem cs45_124 {av : List Int} {h : XH} {Q : Nat → List Int → XH → Prop} : CS45 124 av h Q = k124 av h Q := id rfl
theorem cs45_125 {av : List Int} {h : XH} {Q : Nat → List Int → XH → Prop} : CS45 125 av h Q = k125 av h Q := id rfl
theorem cs45_126 {av : List Int} {h : XH} {Q : Nat → List Int → XH → Prop} : CS45 126 av h Q = k126 av h Q := id rfl
theorem cs45_84 {av : List Int} {h : XH} {Q : Nat → List Int → XH → Prop} : CS45 84 av h Q = k84 av h Q := id rfl
theorem cs45_82 {av : List Int} {h : XH} {Q : Nat → List Int → XH → Prop} : CS45 82 av h Q = k82 av h Q := id rfl
theorem cs45_83 {av : List Int} {h : XH} {Q : Nat → List Int → XH → Prop} : CS45 83 av h Q = k83 av h Q := id rfl
theorem cs45_85 {av : List Int} {h : XH} {Q : Nat → List Int → XH → Prop} : CS45 85 av h Q = k85 av h Q := id rfl
theorem cs45_89 {av : List Int} {h : XH} {Q : Nat → List Int → XH → Prop} : CS45 89 av h Q = k89 av h Q := id rfl
theorem cs45_90 {av : List Int} {h : XH} {Q : Nat → List Int → XH → Prop} : CS45 90 av h Q = k90 av h Q := id rfl
theorem cs45_91 {av : List Int} {h : XH} {Q : Nat → List Int → XH → Prop} : CS45 91 av h Q = k91 av h Q := id rfl
theorem cs45_88 {av : List Int} {h : XH} {Q : Nat → List Int → XH → Prop} : CS45 88 av h Q = k88 av h Q := id rfl
theorem cs45_86 {av : List Int} {h : XH} {Q : Nat → List Int → XH → Prop} : CS45 86 av h Q = k86 av h Q := id rfl
theorem cs45_87 {av : List Int} {h : XH} {Q : Nat → List Int → XH → Prop} : CS45 87 av h Q = k87 av h Q := id rfl
theorem cs45_81 {av : List Int} {h : XH} {Q : Nat → List Int → XH → Prop} : CS45 81 av h Q = k81 av h Q := id rfl
theorem cs45_128 {av : List Int} {h : XH} {Q : Nat → List Int → XH → Prop} : CS45 128 av h Q = k128 av h Q := id rfl
theorem cs45_119 {av : List Int} {h : XH} {Q : Nat → List Int → XH → Prop} : CS45 119 av h Q = k119 av h Q := id rfl
theorem cs45_58 {av : List Int} {h : XH} {Q : Nat → List Int → XH → Prop} : CS45 58 av h Q = k58 av h Q := id rfl
theorem cs45_80 {av : List Int} {h : XH} {Q : Nat → List Int → XH → Prop} : CS45 80 av h Q = k80 av h Q := id rfl
theorem cs45_97 {av : List Int} {h : XH} {Q : Nat → List Int → XH → Prop} : CS45 97 av h Q = k97s av h Q := id rfl
theorem cs45_156 {av : List Int} {h : XH} {Q : Nat → List Int → XH → Prop} : CS45 156 av h Q = k156 av h Q := id rfl
theorem cs45_142 {av : List Int} {h : XH} {Q : Nat → List Int → XH → Prop} : CS45 142 av h Q = k142 av h Q := id rfl
theorem cs45_3 {av : List Int} {h : XH} {Q : Nat → List Int → XH → Prop} : CS45 3 av h Q = k3s av h Q := id rfl
theorem cs45_61 {av : List Int} {h : XH} {Q : Nat → List Int → XH → Prop} : CS45 61 av h Q = k61z av h Q := id rfl
theorem cs45_2 {av : List Int} {h : XH} {Q : Nat → List Int → XH → Prop} : CS45 2 av h Q = k2s av h Q := id rfl
theorem cs45_240 {av : List Int} {h : XH} {Q : Nat → List Int → XH → Prop} : CS45 240 av h Q = k240s av h Q := id rfl
theorem cs45_241 {av : List Int} {h : XH} {Q : Nat → List Int → XH → Prop} : CS45 241 av h Q = k241s av h Q := id rfl
theorem cs45_206 {av : List Int} {h : XH} {Q : Nat → List Int → XH → Prop} : CS45 206 av h Q = k206s av h Q := id rfl
theorem cs45_113 {av : List Int} {h : XH} {Q : Nat → List Int → XH → Prop} : CS45 113 av h Q = k113 av h Q := id rfl
theorem cs45_114 {av : List Int} {h : XH} {Q : Nat → List Int → XH → Prop} : CS45 114 av h Q = k114 av h Q := id rfl
theorem cs45_116 {av : List Int} {h : XH} {Q : Nat → List Int → XH → Prop} : CS45 116 av h Q = k116 av h Q := id rfl
theorem cs45_117 {av : List Int} {h : XH} {Q : Nat → List Int → XH → Prop} : CS45 117 av h Q = k117 av h Q := id rfl
theorem cs45_121 {av : List Int} {h : XH} {Q : Nat → List Int → XH → Prop} : CS45 121 av h Q = k121 av h Q := id rfl
theorem cs45_129 {av : List Int} {h : XH} {Q : Nat → List Int → XH → Prop} : CS45 129 av h Q = k129 av h Q := id rfl
theorem cs45_130 {av : List Int} {h : XH} {Q : Nat → List Int → XH → Prop} : CS45 130 av h Q = k130 av h Q := id rfl
theorem cs45_131 {av : List Int} {h : XH} {Q : Nat → List Int → XH → Prop} : CS45 131 av h Q = k131 av h Q := id rfl
theorem cs45_132 {av : List Int} {h : XH} {Q : Nat → List Int → XH → Prop} : CS45 132 av h Q = k132 av h Q := id rfl
theorem cs45_120 {av : List Int} {h : XH} {Q : Nat → List Int → XH → Prop} : CS45 120 av h Q = k120 av h Q := id rfl
theorem cs45_4 {av : List Int} {h : XH} {Q : Nat → List Int → XH → Prop} : CS45 4 av h Q = k4 av h Q := id rfl
theorem cs45_229 {av : List Int} {h : XH} {Q : Nat → List Int → XH → Prop} : CS45 229 av h Q = k229 av h Q := id rfl
theorem cs45_233 {av : List Int} {h : XH} {Q : Nat → List Int → XH → Prop} : CS45 233 av h Q = k233 av h Q := id rfl
theorem cs45_234 {av : List Int} {h : XH} {Q : Nat → List Int → XH → Prop} : CS45 234 av h Q = k234 av h Q := id rfl
theorem cs45_215 {av : List Int} {h : XH} {Q : Nat → List Int → XH → Prop} : CS45 215 av h Q = k215 av h Q := id rfl
theorem cs45_214 {av : List Int} {h : XH} {Q : Nat → List Int → XH → Prop} : CS45 214 av h Q = k214 av h Q := id rfl
theorem cs45_146 {av : List Int} {h : XH} {Q : Nat → List Int → XH → Prop} : CS45 146 av h Q = k146 av h Q := id rfl
theorem cs45_147 {av : List Int} {h : XH} {Q : Nat → List Int → XH → Prop} : CS45 147 av h Q = k147 av h Q := id rfl
theorem cs45_149 {av : List Int} {h : XH} {Q : Nat → List Int → XH → Prop} : CS45 149 av h Q = k149 av h Q := id rfl
theorem cs45_155 {av : List Int} {h : XH} {Q : Nat → List Int → XH → Prop} : CS45 155 av h Q = k155 av h Q := id rfl
theorem cs45_157 {av : List Int} {h : XH} {Q : Nat → List Int → XH → Prop} : CS45 157 av h Q = k157 av h Q := id rfl
theorem cs45_165 {av : List Int} {h : XH} {Q : Nat → List Int → XH → Prop} : CS45 165 av h Q = k165 av h Q := id rfl
theorem cs45_59 {av : List Int} {h : XH} {Q : Nat → List Int → XH → Prop} : CS45 59 av h Q = k59 av h Q := id rfl
theorem cs45_107 {av : List Int} {h : XH} {Q : Nat → List Int → XH → Prop} : CS45 107 av h Q = k107 av h Q := id rfl
theorem cs45_108 {av : List Int} {h : XH} {Q : Nat → List Int → XH → Prop} : CS45 108 av h Q = k108 av h Q := id rfl
theorem cs45_109 {av : List Int} {h : XH} {Q : Nat → List Int → XH → Prop} : CS45 109 av h Q = k109 av h Q := id rfl
theorem cs45_110 {av : List Int} {h : XH} {Q : Nat → List Int → XH → Prop} : CS45 110 av h Q = k110 av h Q := id rfl
theorem cs45_111 {av : List Int} {h : XH} {Q : Nat → List Int → XH → Prop} : CS45 111 av h Q = k111 av h Q := id rfl
theorem cs45_112 {av : List Int} {h : XH} {Q : Nat → List Int → XH → Prop} : CS45 112 av h Q = k112 av h Q := id rfl
theorem cs45_143 {av : List Int} {h : XH} {Q : Nat → List Int → XH → Prop} : CS45 143 av h Q = k143 av h Q := id rfl
theorem cs45_170 {av : List Int} {h : XH} {Q : Nat → List Int → XH → Prop} : CS45 170 av h Q = k170 av h Q := id rfl
theorem cs45_168 {av : List Int} {h : XH} {Q : Nat → List Int → XH → Prop} : CS45 168 av h Q = k168 av h Q := id rfl
theorem cs45_169 {av : List Int} {h : XH} {Q : Nat → List Int → XH → Prop} : CS45 169 av h Q = k169 av h Q := id rfl
theorem cs45_181 {av : List Int} {h : XH} {Q : Nat → List Int → XH → Prop} : CS45 181 av h Q = k181 av h Q := id rfl
theorem cs45_5 {av : List Int} {h : XH} {Q : Nat → List Int → XH → Prop} : CS45 5 av h Q = k5 av h Q := id rfl
theorem cs45_6 {av : List Int} {h : XH} {Q : Nat → List Int → XH → Prop} : CS45 6 av h Q = k6 av h Q := id rfl
theorem cs45_7 {av : List Int} {h : XH} {Q : Nat → List Int → XH → Prop} : CS45 7 av h Q = k7 av h Q := id rfl
theorem cs45_8 {av : List Int} {h : XH} {Q : Nat → List Int → XH → Prop} : CS45 8 av h Q = k8 av h Q := id rfl
theorem cs45_9 {av : List Int} {h : XH} {Q : Nat → List Int → XH → Prop} : CS45 9 av h Q = k9 av h Q := id rfl
theorem cs45_10 {av : List Int} {h : XH} {Q : Nat → List Int → XH → Prop} : CS45 10 av h Q = k10s av h Q := id rfl
theorem cs45_11 {av : List Int} {h : XH} {Q : Nat → List Int → XH → Prop} : CS45 11 av h Q = k11 av h Q := id rfl
theorem cs45_12 {av : List Int} {h : XH} {Q : Nat → List Int → XH → Prop} : CS45 12 av h Q = k12s av h Q := id rfl
theorem cs45_40 {av : List Int} {h : XH} {Q : Nat → List Int → XH → Prop} : CS45 40 av h Q = k40s av h Q := id rfl
theorem cs45_49 {av : List Int} {h : XH} {Q : Nat → List Int → XH → Prop} : CS45 49 av h Q = k49 av h Q := id rfl
theorem cs45_50 {av : List Int} {h : XH} {Q : Nat → List Int → XH → Prop} : CS45 50 av h Q = k50 av h Q := id rfl
theorem cs45_48 {av : List Int} {h : XH} {Q : Nat → List Int → XH → Prop} : CS45 48 av h Q = k48 av h Q := id rfl
theorem cs45_224 {av : List Int} {h : XH} {Q : Nat → List Int → XH → Prop} : CS45 224 av h Q = k224s av h Q := id rfl
theorem cs45_230 {av : List Int} {h : XH} {Q : Nat → List Int → XH → Prop} : CS45 230 av h Q = k230 av h Q := id rfl
theorem cs45_235 {av : List Int} {h : XH} {Q : Nat → List Int → XH → Prop} : CS45 235 av h Q = k235 av h Q := id rfl
theorem cs45_236 {av : List Int} {h : XH} {Q : Nat → List Int → XH → Prop} : CS45 236 av h Q = k236 av h Q := id rfl
theorem cs45_237 {av : List Int} {h : XH} {Q : Nat → List Int → XH → Prop} : CS45 237 av h Q = k237 av h Q := id rfl
theorem cs45_238 {av : List Int} {h : XH} {Q : Nat → List Int → XH → Prop} : CS45 238 av h Q = k238 av h Q := id rfl
theorem cs45_243 {av : List Int} {h : XH} {Q : Nat → List Int → XH → Prop} : CS45 243 av h Q = k243 av h Q := id rfl
theorem cs45_256 {av : List Int} {h : XH} {Q : Nat → List Int → XH → Prop} : CS45 256 av h Q = k256 av h Q := id rfl
theorem cs45_264 {av : List Int} {h : XH} {Q : Nat → List Int → XH → Prop} : CS45 264 av h Q = k264 av h Q := id rfl
theorem cs45_266 {av : List Int} {h : XH} {Q : Nat → List Int → XH → Prop} : CS45 266 av h Q = k266 av h Q := id rfl
theorem cs45_239 {av : List Int} {h : XH} {Q : Nat → List Int → XH → Prop} : CS45 239 av h Q = k239 av h Q := id rfl
theorem cs45_242 {av : List Int} {h : XH} {Q : Nat → List Int → XH → Prop} : CS45 242 av h Q = k242s av h Q := id rfl
theorem cs45_260 {av : List Int} {h : XH} {Q : Nat → List Int → XH → Prop} : CS45 260 av h Q = k260 av h Q := id rfl
theorem cs45_261 {av : List Int} {h : XH} {Q : Nat → List Int → XH → Prop} : CS45 261 av h Q = k261 av h Q := id rfl
theorem cs45_262 {av : List Int} {h : XH} {Q : Nat → List Int → XH → Prop} : CS45 262 av h Q = k262 av h Q := id rfl
theorem cs45_263 {av : List Int} {h : XH} {Q : Nat → List Int → XH → Prop} : CS45 263 av h Q = k263 av h Q := id rfl
theorem cs45_265 {av : List Int} {h : XH} {Q : Nat → List Int → XH → Prop} : CS45 265 av h Q = k265 av h Q := id rfl
theorem cs45_267 {av : List Int} {h : XH} {Q : Nat → List Int → XH → Prop} : CS45 267 av h Q = k267 av h Q := id rfl
theorem cs45_268 {av : List Int} {h : XH} {Q : Nat → List Int → XH → Prop} : CS45 268 av h Q = k268 av h Q := id rfl
theorem cs45_272 {av : List Int} {h : XH} {Q : Nat → List Int → XH → Prop} : CS45 272 av h Q = k272 av h Q := id rfl
theorem cs45_304 {av : List Int} {h : XH} {Q : Nat → List Int → XH → Prop} : CS45 304 av h Q = k304 av h Q := id rfl
theorem cs45_311 {av : List Int} {h : XH} {Q : Nat → List Int → XH → Prop} : CS45 311 av h Q = k311 av h Q := id rfl
theorem cs45_254 {av : List Int} {h : XH} {Q : Nat → List Int → XH → Prop} : CS45 254 av h Q = k254f av h Q := id rfl
theorem cs45_257 {av : List Int} {h : XH} {Q : Nat → List Int → XH → Prop} : CS45 257 av h Q = k257f av h Q := id rfl
theorem cs45_269 {av : List Int} {h : XH} {Q : Nat → List Int → XH → Prop} : CS45 269 av h Q = k269 av h Q := id rfl
theorem cs45_270 {av : List Int} {h : XH} {Q : Nat → List Int → XH → Prop} : CS45 270 av h Q = k270 av h Q := id rfl
theorem cs45_271 {av : List Int} {h : XH} {Q : Nat → List Int → XH → Prop} : CS45 271 av h Q = k271 av h Q := id rfl
theorem cs45_258 {av : List Int} {h : XH} {Q : Nat → List Int → XH → Prop} : CS45 258 av h Q = k258f av h Q := id rfl
theorem cs45_259 {av : List Int} {h : XH} {Q : Nat → List Int → XH → Prop} : CS45 259 av h Q = k259f av h Q := id rfl
theorem cs45_285 {av : List Int} {h : XH} {Q : Nat → List Int → XH → Prop} : CS45 285 av h Q = k285f av h Q := id rfl
theorem cs45_287 {av : List Int} {h : XH} {Q : Nat → List Int → XH → Prop} : CS45 287 av h Q = k287f av h Q := id rfl
theorem cs45_274 {av : List Int} {h : XH} {Q : Nat → List Int → XH → Prop} : CS45 274 av h Q = k274 av h Q := id rfl
theorem cs45_298 {av : List Int} {h : XH} {Q : Nat → List Int → XH → Prop} : CS45 298 av h Q = k298 av h Q := id rfl
theorem cs45_309 {av : List Int} {h : XH} {Q : Nat → List Int → XH → Prop} : CS45 309 av h Q = k309 av h Q := id rfl
theorem m_274 : BodyOK CS45 CS45 274 := fun av h Q hQ => by
  rw [cs45_274] at hQ
  unfold k274 at hQ
  split at hQ
  · rename_i t a
    obtain ⟨rfl, ha_w, hQ⟩ := hQ
    show pS CS45 bb_274 [182, a] h _
    unfold bb_274
    rcases ha_w with rfl | rfl
    · simp only [qe_1, qe_3, qe_4, qe_5, qe_7, qe_72, qe_10, qe_102, qe_13, qe_14, qe_15, qe_16, qe_17, qe_18, qe_20, qe_22, qe_23, qe_21, qe_24, qe_25, qe_26, qe_27, qe_28, qe_30, qe_31, qe_32, qc_20, qc_22, qc_23, qc_21, qc_24, qc_25, qc_26, qc_27, qc_1, qc_3, qc_4, qc_7, qc_13, qc_28, qc_32, qs_1, qs_2, qs_3, qs_4, qs_5, qs_6, qs_9, qs_10, qs_11, qs_14, qs_15, qs_16, qs_27, qs_17, qs_18, qs_19, qs_20, qs_22, qs_23, qs_28, qs_25, qs_26, qs_7, qs_8, kc_1, kn_1, kc_2, kn_2, kc_3, kn_3, kc_4, kn_4, kc_5, kn_5, kc_6, kn_6, kc_7, kn_7, kc_8, kn_8, kc_9, kn_9, kc_10, kn_10, kc_11, kn_11, kc_12, kn_12, kc_13, kn_13, kc_14, kn_14, kc_15, kn_15, kc_16, kc_17, kc_18, kc_19, kc_20, kc_21, kc_22, kc_23, kc_30, kc_32, kc_40, kc_43, kc_45, kc_48, kc_52, kc_56, kc_57, kc_59, kc_60, kc_61, kc_63, kc_64, kc_72, kc_78, kc_97, kc_99, kc_122, kc_126, kc_128, kc_192, kc_200, kc_255, kc_999, kc_1000, kc_9999, kn_9999, kc_10000, kc_12345, kc_65536, kc_252645135, kc_858993459, kc_1103515245, kc_1431655765, kc_2147483647, kc_0, kc_24, kc_28, kc_37, kc_41, kc_42, kc_73, kc_91, kc_95, kc_96, kc_98, kc_100, kc_112, kc_125, kc_150, kc_162, kc_163, kc_168, kc_186, kc_190, kc_250, kc_355, kc_356, kc_404, kc_405, kc_429, kc_573, kc_1002, kc_1100, kc_1891, kc_2200, kc_4719, kc_4869, kc_4881, kc_5148, kc_19741, kc_25433, kc_320403, kc_628412, kc_629093, kc_660401, kc_679843, kc_918640, kc_979410, kc_1178088, kc_6232410, kc_24644941, kc_36238189, kc_38270444, kc_392531318, kc_425693491, kc_1342154595, kc_2147483648, kc_42328242873, kc_891704255789, kc_1722105685577, kc_1858726030364, ct_0, ct_1, ct_2, ct_3, ct_4, ct_5, cf_0, cf_1, cf_2, cf_3, cf_4, cf_5, w_ty6, w_ty7, m_sv, m_z0, m_hd, m_g0, m_gs, m_s0, m_ss, m_ap, m_an, forall_const, true_and, and_true, ne_eq, not_true_eq_false, not_false_eq_true, false_implies, true_implies, implies_true, eq_self, reduceCtorEq, Nat.reduceDiv, Nat.reduceMod, Int.reduceToNat, or_true, true_or, or_false, false_or, or_self, m_it, m_if, m_c1, m_01, m_02, m_03, m_04, m_10, m_12, m_13, m_14, m_20, m_21, m_23, m_24, m_30, m_31, m_32, m_34, m_40, m_41, m_42, m_43, Int.reduceLE, Int.reduceLT, Int.reduceGE, Int.reduceGT, Int.reduceNeg, Int.reduceAdd, Int.reduceSub, Int.reduceMul, Int.reduceEq, Int.reduceNe, Nat.reduceAdd, jun2, ro_0_0, ro_0_1, ro_0_2, ro_0_3, ro_0_4, ro_0_5, ro_0_6, ro_0_7, ro_0_8, ro_0_9, ro_0_10, ro_0_11, ro_0_12, ro_1_0, ro_1_1, ro_2_0, ro_4_0, ro_6_0, ro_6_1, ro_6_2, ro_6_3, ro_6_4, ro_6_5, ro_6_6, ro_6_7, ro_6_8, ro_8_0, ro_10_0, ro_12_0, ro_14_0, ro_16_0, ro_18_0, ro_20_0, ro_22_0, ro_22_1, ro_22_2, ro_23_0, ro_25_0, ro_27_0, ro_29_0, ro_29_1, ro_29_2, ro_29_3, ro_29_4, ro_29_5, ro_29_6, ro_29_7, ro_29_8, ro_31_0, ro_33_0, ro_35_0, ro_37_0, ro_39_0, ro_41_0, ro_43_0, ro_45_0, ro_45_1, ro_45_2, ro_46_0, ro_48_0, ro_50_0, ro_52_0, ro_52_1, ro_52_2, ro_52_3, ro_53_0, ro_55_0, ro_57_0, ro_59_0, ro_61_0, ro_61_1, ro_61_2, ro_61_3, ro_62_0, ro_64_0, ro_66_0, ro_68_0, ro_70_0, ro_70_1, ro_70_2, ro_70_3, ro_70_4, ro_70_5, ro_70_6, ro_70_7, ro_70_8, ro_70_9, ro_71_0, ro_73_0, ro_75_0, ro_77_0, ro_79_0, ro_81_0, ro_83_0, ro_85_0, ro_87_0, ro_89_0, ro_91_0, ro_91_1, ro_91_2, ro_91_3, ro_91_4, ro_91_5, ro_91_6, ro_91_7, ro_91_8, ro_91_9, ro_92_0, ro_94_0, ro_96_0, ro_98_0, ro_100_0, ro_102_0, ro_104_0, ro_106_0, ro_108_0, ro_110_0, ro_112_0, ro_112_1, ro_112_2, ro_112_3, ro_112_4, ro_112_5, ro_112_6, ro_112_7, ro_112_8, ro_112_9, ro_113_0, ro_115_0, ro_117_0, ro_119_0, ro_121_0, ro_123_0, ro_125_0, ro_127_0, ro_129_0, ro_131_0, ro_133_0, ro_133_1, ro_133_2, ro_133_3, ro_133_4, ro_133_5, ro_133_6, ro_133_7, ro_133_8, ro_133_9, ro_134_0, ro_136_0, ro_138_0, ro_140_0, ro_142_0, ro_144_0, ro_146_0, ro_148_0, ro_150_0, ro_152_0, ro_154_0, ro_155_0, ro_157_0, ro_157_1, ro_157_2, ro_157_3, ro_157_4, ro_157_5, ro_157_6, ro_157_7, ro_157_8, ro_157_9, ro_158_0, ro_160_0, ro_162_0, ro_164_0, ro_166_0, ro_168_0, ro_170_0, ro_172_0, ro_174_0, ro_176_0, ro_178_0, ro_180_0, ro_182_1, ro_182_4, ro_182_5, ro_182_6, ro_182_9, ro_182_10, ro_182_11, ro_182_13, ro_182_14, ro_182_15, ro_182_16, ro_182_17, ro_182_20, ro_182_21, ro_182_22, ro_182_23, ro_182_24, ro_182_26, ro_182_27, ro_182_28, lo_3, lo_5, lo_7, lo_9, lo_11, lo_13, lo_15, lo_17, lo_19, lo_21, lo_24, lo_26, lo_28, lo_30, lo_32, lo_34, lo_36, lo_38, lo_40, lo_42, lo_44, lo_47, lo_49, lo_51, lo_54, lo_56, lo_58, lo_60, lo_63, lo_65, lo_67, lo_69, lo_72, lo_74, lo_76, lo_78, lo_80, lo_82, lo_84, lo_86, lo_88, lo_90, lo_93, lo_95, lo_97, lo_99, lo_101, lo_103, lo_105, lo_107, lo_109, lo_111, lo_114, lo_116, lo_118, lo_120, lo_122, lo_124, lo_126, lo_128, lo_130, lo_132, lo_135, lo_137, lo_139, lo_141, lo_143, lo_145, lo_147, lo_149, lo_151, lo_153, lo_156, lo_159, lo_161, lo_163, lo_165, lo_167, lo_169, lo_171, lo_173, lo_175, lo_177, lo_179, lo_181, lo_183, lo_184, lo_185, lo_186, lo_187, lo_188, lo_189, lo_190, lo_191, lo_192, lo_193, lo_194, lo_195, lo_196, lo_197, lo_198, lo_199, lo_200, lo_201, lo_202, lo_203, jp_nn, jp_eq, jp_e1, Classical.not_not, ji0, ji1, ji2, jl_0, jl_1, jl_2, jl_3, jl_4, jl_5, jl_6, jl_7, jl_8, jl_9, jl_10, jl_11, jl_12, jl_13, jl_14, jl_15, jl_16, jl_17, jl_18, jl_19, jl_20, jl_21, jl_22, jl_23, jl_24, jl_25, jl_26, jl_27, jl_28, jl_29, jl_30, jl_31, jl_32, jl_33, jl_34, jl_35, jl_36, jl_37, jl_38, jl_39, jl_40, jl_95, jl_96, jl_97, jl_98, jl_99, jl_100, jl_101, jl_102, jl_103, jl_104, jl_105, jl_106, jl_107, jl_108, jl_109, jl_110, jl_111, jl_112, jl_113, jl_114, jl_186, jl_1100, jr, ju, jpT, jpF, tnc, Nat.reduceEqDiff, reduceIte, and_false, false_and, not_true_eq_false, not_false_eq_true, or_false, gt_iff_lt, ge_iff_le, Int.lt_irrefl, Int.le_refl] at hQ ⊢
      exact hQ
    · simp only [qe_1, qe_3, qe_4, qe_5, qe_7, qe_72, qe_10, qe_102, qe_13, qe_14, qe_15, qe_16, qe_17, qe_18, qe_20, qe_22, qe_23, qe_21, qe_24, qe_25, qe_26, qe_27, qe_28, qe_30, qe_31, qe_32, qc_20, qc_22, qc_23, qc_21, qc_24, qc_25, qc_26, qc_27, qc_1, qc_3, qc_4, qc_7, qc_13, qc_28, qc_32, qs_1, qs_2, qs_3, qs_4, qs_5, qs_6, qs_9, qs_10, qs_11, qs_14, qs_15, qs_16, qs_27, qs_17, qs_18, qs_19, qs_20, qs_22, qs_23, qs_28, qs_25, qs_26, qs_7, qs_8, kc_1, kn_1, kc_2, kn_2, kc_3, kn_3, kc_4, kn_4, kc_5, kn_5, kc_6, kn_6, kc_7, kn_7, kc_8, kn_8, kc_9, kn_9, kc_10, kn_10, kc_11, kn_11, kc_12, kn_12, kc_13, kn_13, kc_14, kn_14, kc_15, kn_15, kc_16, kc_17, kc_18, kc_19, kc_20, kc_21, kc_22, kc_23, kc_30, kc_32, kc_40, kc_43, kc_45, kc_48, kc_52, kc_56, kc_57, kc_59, kc_60, kc_61, kc_63, kc_64, kc_72, kc_78, kc_97, kc_99, kc_122, kc_126, kc_128, kc_192, kc_200, kc_255, kc_999, kc_1000, kc_9999, kn_9999, kc_10000, kc_12345, kc_65536, kc_252645135, kc_858993459, kc_1103515245, kc_1431655765, kc_2147483647, kc_0, kc_24, kc_28, kc_37, kc_41, kc_42, kc_73, kc_91, kc_95, kc_96, kc_98, kc_100, kc_112, kc_125, kc_150, kc_162, kc_163, kc_168, kc_186, kc_190, kc_250, kc_355, kc_356, kc_404, kc_405, kc_429, kc_573, kc_1002, kc_1100, kc_1891, kc_2200, kc_4719, kc_4869, kc_4881, kc_5148, kc_19741, kc_25433, kc_320403, kc_628412, kc_629093, kc_660401, kc_679843, kc_918640, kc_979410, kc_1178088, kc_6232410, kc_24644941, kc_36238189, kc_38270444, kc_392531318, kc_425693491, kc_1342154595, kc_2147483648, kc_42328242873, kc_891704255789, kc_1722105685577, kc_1858726030364, ct_0, ct_1, ct_2, ct_3, ct_4, ct_5, cf_0, cf_1, cf_2, cf_3, cf_4, cf_5, w_ty6, w_ty7, m_sv, m_z0, m_hd, m_g0, m_gs, m_s0, m_ss, m_ap, m_an, forall_const, true_and, and_true, ne_eq, not_true_eq_false, not_false_eq_true, false_implies, true_implies, implies_true, eq_self, reduceCtorEq, Nat.reduceDiv, Nat.reduceMod, Int.reduceToNat, or_true, true_or, or_false, false_or, or_self, m_it, m_if, m_c1, m_01, m_02, m_03, m_04, m_10, m_12, m_13, m_14, m_20, m_21, m_23, m_24, m_30, m_31, m_32, m_34, m_40, m_41, m_42, m_43, Int.reduceLE, Int.reduceLT, Int.reduceGE, Int.reduceGT, Int.reduceNeg, Int.reduceAdd, Int.reduceSub, Int.reduceMul, Int.reduceEq, Int.reduceNe, Nat.reduceAdd, jun2, ro_0_0, ro_0_1, ro_0_2, ro_0_3, ro_0_4, ro_0_5, ro_0_6, ro_0_7, ro_0_8, ro_0_9, ro_0_10, ro_0_11, ro_0_12, ro_1_0, ro_1_1, ro_2_0, ro_4_0, ro_6_0, ro_6_1, ro_6_2, ro_6_3, ro_6_4, ro_6_5, ro_6_6, ro_6_7, ro_6_8, ro_8_0, ro_10_0, ro_12_0, ro_14_0, ro_16_0, ro_18_0, ro_20_0, ro_22_0, ro_22_1, ro_22_2, ro_23_0, ro_25_0, ro_27_0, ro_29_0, ro_29_1, ro_29_2, ro_29_3, ro_29_4, ro_29_5, ro_29_6, ro_29_7, ro_29_8, ro_31_0, ro_33_0, ro_35_0, ro_37_0, ro_39_0, ro_41_0, ro_43_0, ro_45_0, ro_45_1, ro_45_2, ro_46_0, ro_48_0, ro_50_0, ro_52_0, ro_52_1, ro_52_2, ro_52_3, ro_53_0, ro_55_0, ro_57_0, ro_59_0, ro_61_0, ro_61_1, ro_61_2, ro_61_3, ro_62_0, ro_64_0, ro_66_0, ro_68_0, ro_70_0, ro_70_1, ro_70_2, ro_70_3, ro_70_4, ro_70_5, ro_70_6, ro_70_7, ro_70_8, ro_70_9, ro_71_0, ro_73_0, ro_75_0, ro_77_0, ro_79_0, ro_81_0, ro_83_0, ro_85_0, ro_87_0, ro_89_0, ro_91_0, ro_91_1, ro_91_2, ro_91_3, ro_91_4, ro_91_5, ro_91_6, ro_91_7, ro_91_8, ro_91_9, ro_92_0, ro_94_0, ro_96_0, ro_98_0, ro_100_0, ro_102_0, ro_104_0, ro_106_0, ro_108_0, ro_110_0, ro_112_0, ro_112_1, ro_112_2, ro_112_3, ro_112_4, ro_112_5, ro_112_6, ro_112_7, ro_112_8, ro_112_9, ro_113_0, ro_115_0, ro_117_0, ro_119_0, ro_121_0, ro_123_0, ro_125_0, ro_127_0, ro_129_0, ro_131_0, ro_133_0, ro_133_1, ro_133_2, ro_133_3, ro_133_4, ro_133_5, ro_133_6, ro_133_7, ro_133_8, ro_133_9, ro_134_0, ro_136_0, ro_138_0, ro_140_0, ro_142_0, ro_144_0, ro_146_0, ro_148_0, ro_150_0, ro_152_0, ro_154_0, ro_155_0, ro_157_0, ro_157_1, ro_157_2, ro_157_3, ro_157_4, ro_157_5, ro_157_6, ro_157_7, ro_157_8, ro_157_9, ro_158_0, ro_160_0, ro_162_0, ro_164_0, ro_166_0, ro_168_0, ro_170_0, ro_172_0, ro_174_0, ro_176_0, ro_178_0, ro_180_0, ro_182_1, ro_182_4, ro_182_5, ro_182_6, ro_182_9, ro_182_10, ro_182_11, ro_182_13, ro_182_14, ro_182_15, ro_182_16, ro_182_17, ro_182_20, ro_182_21, ro_182_22, ro_182_23, ro_182_24, ro_182_26, ro_182_27, ro_182_28, lo_3, lo_5, lo_7, lo_9, lo_11, lo_13, lo_15, lo_17, lo_19, lo_21, lo_24, lo_26, lo_28, lo_30, lo_32, lo_34, lo_36, lo_38, lo_40, lo_42, lo_44, lo_47, lo_49, lo_51, lo_54, lo_56, lo_58, lo_60, lo_63, lo_65, lo_67, lo_69, lo_72, lo_74, lo_76, lo_78, lo_80, lo_82, lo_84, lo_86, lo_88, lo_90, lo_93, lo_95, lo_97, lo_99, lo_101, lo_103, lo_105, lo_107, lo_109, lo_111, lo_114, lo_116, lo_118, lo_120, lo_122, lo_124, lo_126, lo_128, lo_130, lo_132, lo_135, lo_137, lo_139, lo_141, lo_143, lo_145, lo_147, lo_149, lo_151, lo_153, lo_156, lo_159, lo_161, lo_163, lo_165, lo_167, lo_169, lo_171, lo_173, lo_175, lo_177, lo_179, lo_181, lo_183, lo_184, lo_185, lo_186, lo_187, lo_188, lo_189, lo_190, lo_191, lo_192, lo_193, lo_194, lo_195, lo_196, lo_197, lo_198, lo_199, lo_200, lo_201, lo_202, lo_203, jp_nn, jp_eq, jp_e1, Classical.not_not, ji0, ji1, ji2, jl_0, jl_1, jl_2, jl_3, jl_4, jl_5, jl_6, jl_7, jl_8, jl_9, jl_10, jl_11, jl_12, jl_13, jl_14, jl_15, jl_16, jl_17, jl_18, jl_19, jl_20, jl_21, jl_22, jl_23, jl_24, jl_25, jl_26, jl_27, jl_28, jl_29, jl_30, jl_31, jl_32, jl_33, jl_34, jl_35, jl_36, jl_37, jl_38, jl_39, jl_40, jl_95, jl_96, jl_97, jl_98, jl_99, jl_100, jl_101, jl_102, jl_103, jl_104, jl_105, jl_106, jl_107, jl_108, jl_109, jl_110, jl_111, jl_112, jl_113, jl_114, jl_186, jl_1100, jr, ju, jpT, jpF, tnc, Nat.reduceEqDiff, reduceIte, and_false, false_and, not_true_eq_false, not_false_eq_true, or_false, gt_iff_lt, ge_iff_le, Int.lt_irrefl, Int.le_refl] at hQ ⊢
      exact hQ
  · exact hQ.elim
theorem m_298 : BodyOK CS45 CS45 298 := fun av h Q hQ => by
  rw [cs45_298] at hQ
  unfold k298 at hQ
  split at hQ
  · rename_i t
    obtain ⟨rfl, hQ⟩ := hQ
    show pS CS45 bb_298 [182] h _
    unfold bb_298
    simp only [qe_1, qe_3, qe_4, qe_5, qe_7, qe_72, qe_10, qe_102, qe_13, qe_14, qe_15, qe_16, qe_17, qe_18, qe_20, qe_22, qe_23, qe_21, qe_24, qe_25, qe_26, qe_27, qe_28, qe_30, qe_31, qe_32, qc_20, qc_22, qc_23, qc_21, qc_24, qc_25, qc_26, qc_27, qc_1, qc_3, qc_4, qc_7, qc_13, qc_28, qc_32, qs_1, qs_2, qs_3, qs_4, qs_5, qs_6, qs_9, qs_10, qs_11, qs_14, qs_15, qs_16, qs_27, qs_17, qs_18, qs_19, qs_20, qs_22, qs_23, qs_28, qs_25, qs_26, qs_7, qs_8, kc_1, kn_1, kc_2, kn_2, kc_3, kn_3, kc_4, kn_4, kc_5, kn_5, kc_6, kn_6, kc_7, kn_7, kc_8, kn_8, kc_9, kn_9, kc_10, kn_10, kc_11, kn_11, kc_12, kn_12, kc_13, kn_13, kc_14, kn_14, kc_15, kn_15, kc_16, kc_17, kc_18, kc_19, kc_20, kc_21, kc_22, kc_23, kc_30, kc_32, kc_40, kc_43, kc_45, kc_48, kc_52, kc_56, kc_57, kc_59, kc_60, kc_61, kc_63, kc_64, kc_72, kc_78, kc_97, kc_99, kc_122, kc_126, kc_128, kc_192, kc_200, kc_255, kc_999, kc_1000, kc_9999, kn_9999, kc_10000, kc_12345, kc_65536, kc_252645135, kc_858993459, kc_1103515245, kc_1431655765, kc_2147483647, kc_0, kc_24, kc_28, kc_37, kc_41, kc_42, kc_73, kc_91, kc_95, kc_96, kc_98, kc_100, kc_112, kc_125, kc_150, kc_162, kc_163, kc_168, kc_186, kc_190, kc_250, kc_355, kc_356, kc_404, kc_405, kc_429, kc_573, kc_1002, kc_1100, kc_1891, kc_2200, kc_4719, kc_4869, kc_4881, kc_5148, kc_19741, kc_25433, kc_320403, kc_628412, kc_629093, kc_660401, kc_679843, kc_918640, kc_979410, kc_1178088, kc_6232410, kc_24644941, kc_36238189, kc_38270444, kc_392531318, kc_425693491, kc_1342154595, kc_2147483648, kc_42328242873, kc_891704255789, kc_1722105685577, kc_1858726030364, ct_0, ct_1, ct_2, ct_3, ct_4, ct_5, cf_0, cf_1, cf_2, cf_3, cf_4, cf_5, w_ty6, w_ty7, m_sv, m_z0, m_hd, m_g0, m_gs, m_s0, m_ss, m_ap, m_an, forall_const, true_and, and_true, ne_eq, not_true_eq_false, not_false_eq_true, false_implies, true_implies, implies_true, eq_self, reduceCtorEq, Nat.reduceDiv, Nat.reduceMod, Int.reduceToNat, or_true, true_or, or_false, false_or, or_self, m_it, m_if, m_c1, m_01, m_02, m_03, m_04, m_10, m_12, m_13, m_14, m_20, m_21, m_23, m_24, m_30, m_31, m_32, m_34, m_40, m_41, m_42, m_43, Int.reduceLE, Int.reduceLT, Int.reduceGE, Int.reduceGT, Int.reduceNeg, Int.reduceAdd, Int.reduceSub, Int.reduceMul, Int.reduceEq, Int.reduceNe, Nat.reduceAdd, jun2, ro_0_0, ro_0_1, ro_0_2, ro_0_3, ro_0_4, ro_0_5, ro_0_6, ro_0_7, ro_0_8, ro_0_9, ro_0_10, ro_0_11, ro_0_12, ro_1_0, ro_1_1, ro_2_0, ro_4_0, ro_6_0, ro_6_1, ro_6_2, ro_6_3, ro_6_4, ro_6_5, ro_6_6, ro_6_7, ro_6_8, ro_8_0, ro_10_0, ro_12_0, ro_14_0, ro_16_0, ro_18_0, ro_20_0, ro_22_0, ro_22_1, ro_22_2, ro_23_0, ro_25_0, ro_27_0, ro_29_0, ro_29_1, ro_29_2, ro_29_3, ro_29_4, ro_29_5, ro_29_6, ro_29_7, ro_29_8, ro_31_0, ro_33_0, ro_35_0, ro_37_0, ro_39_0, ro_41_0, ro_43_0, ro_45_0, ro_45_1, ro_45_2, ro_46_0, ro_48_0, ro_50_0, ro_52_0, ro_52_1, ro_52_2, ro_52_3, ro_53_0, ro_55_0, ro_57_0, ro_59_0, ro_61_0, ro_61_1, ro_61_2, ro_61_3, ro_62_0, ro_64_0, ro_66_0, ro_68_0, ro_70_0, ro_70_1, ro_70_2, ro_70_3, ro_70_4, ro_70_5, ro_70_6, ro_70_7, ro_70_8, ro_70_9, ro_71_0, ro_73_0, ro_75_0, ro_77_0, ro_79_0, ro_81_0, ro_83_0, ro_85_0, ro_87_0, ro_89_0, ro_91_0, ro_91_1, ro_91_2, ro_91_3, ro_91_4, ro_91_5, ro_91_6, ro_91_7, ro_91_8, ro_91_9, ro_92_0, ro_94_0, ro_96_0, ro_98_0, ro_100_0, ro_102_0, ro_104_0, ro_106_0, ro_108_0, ro_110_0, ro_112_0, ro_112_1, ro_112_2, ro_112_3, ro_112_4, ro_112_5, ro_112_6, ro_112_7, ro_112_8, ro_112_9, ro_113_0, ro_115_0, ro_117_0, ro_119_0, ro_121_0, ro_123_0, ro_125_0, ro_127_0, ro_129_0, ro_131_0, ro_133_0, ro_133_1, ro_133_2, ro_133_3, ro_133_4, ro_133_5, ro_133_6, ro_133_7, ro_133_8, ro_133_9, ro_134_0, ro_136_0, ro_138_0, ro_140_0, ro_142_0, ro_144_0, ro_146_0, ro_148_0, ro_150_0, ro_152_0, ro_154_0, ro_155_0, ro_157_0, ro_157_1, ro_157_2, ro_157_3, ro_157_4, ro_157_5, ro_157_6, ro_157_7, ro_157_8, ro_157_9, ro_158_0, ro_160_0, ro_162_0, ro_164_0, ro_166_0, ro_168_0, ro_170_0, ro_172_0, ro_174_0, ro_176_0, ro_178_0, ro_180_0, ro_182_1, ro_182_4, ro_182_5, ro_182_6, ro_182_9, ro_182_10, ro_182_11, ro_182_13, ro_182_14, ro_182_15, ro_182_16, ro_182_17, ro_182_20, ro_182_21, ro_182_22, ro_182_23, ro_182_24, ro_182_26, ro_182_27, ro_182_28, lo_3, lo_5, lo_7, lo_9, lo_11, lo_13, lo_15, lo_17, lo_19, lo_21, lo_24, lo_26, lo_28, lo_30, lo_32, lo_34, lo_36, lo_38, lo_40, lo_42, lo_44, lo_47, lo_49, lo_51, lo_54, lo_56, lo_58, lo_60, lo_63, lo_65, lo_67, lo_69, lo_72, lo_74, lo_76, lo_78, lo_80, lo_82, lo_84, lo_86, lo_88, lo_90, lo_93, lo_95, lo_97, lo_99, lo_101, lo_103, lo_105, lo_107, lo_109, lo_111, lo_114, lo_116, lo_118, lo_120, lo_122, lo_124, lo_126, lo_128, lo_130, lo_132, lo_135, lo_137, lo_139, lo_141, lo_143, lo_145, lo_147, lo_149, lo_151, lo_153, lo_156, lo_159, lo_161, lo_163, lo_165, lo_167, lo_169, lo_171, lo_173, lo_175, lo_177, lo_179, lo_181, lo_183, lo_184, lo_185, lo_186, lo_187, lo_188, lo_189, lo_190, lo_191, lo_192, lo_193, lo_194, lo_195, lo_196, lo_197, lo_198, lo_199, lo_200, lo_201, lo_202, lo_203, jp_nn, jp_eq, jp_e1, Classical.not_not, ji0, ji1, ji2, cs45_224, kk_224s, jl_0, jl_1, jl_2, jl_3, jl_4, jl_5, jl_6, jl_7, jl_8, jl_9, jl_10, jl_11, jl_12, jl_13, jl_14, jl_15, jl_16, jl_17, jl_18, jl_19, jl_20, jl_21, jl_22, jl_23, jl_24, jl_25, jl_26, jl_27, jl_28, jl_29, jl_30, jl_31, jl_32, jl_33, jl_34, jl_35, jl_36, jl_37, jl_38, jl_39, jl_40, jl_95, jl_96, jl_97, jl_98, jl_99, jl_100, jl_101, jl_102, jl_103, jl_104, jl_105, jl_106, jl_107, jl_108, jl_109, jl_110, jl_111, jl_112, jl_113, jl_114, jl_186, jl_1100, jr, ju, jpT, jpF, tnc, Nat.reduceEqDiff, reduceIte, and_false, false_and, not_true_eq_false, not_false_eq_true, or_false, gt_iff_lt, ge_iff_le, Int.lt_irrefl, Int.le_refl]
    refine ⟨0, 4719, 404, rfl, rfl, rfl, by decide, by decide, by decide, fun h' f1_w f2_w => hQ _ ⟨fun x k z1 z2 => ?_, ?_, fun q z => ?_⟩⟩
    · rw [f1_w x k (by omega)]
      exact up_ne z2
    · rw [f1_w 182 19 (by omega)]
      exact up_eq
    · rw [f2_w q z, Nat.zero_add]
  · exact hQ.elim
theorem jdv2 {x y : Int} : j_div 2 x y = j64 (x.tdiv y) := rfl
theorem jdv3 {x y : Int} : j_div 3 x y = x.tmod y := rfl
theorem jun3 {x : Int} : j_un 3 x = j32 x := rfl
theorem dG_ev {g : Nat} (hg : g < 2147483648) : j_div 3 (j_lop 0 (j_lop 2 (g : Int) 1103515245) 12345) 2147483648 = ((dG g : Nat) : Int) := by
  have e1_w : j64 ((g : Int) * 1103515245) = (g : Int) * 1103515245 := j64_id (by omega) (by omega)
  have e2_w : j64 ((g : Int) * 1103515245 + 12345) = (g : Int) * 1103515245 + 12345 := j64_id (by omega) (by omega)
  rw [jdv3, jlo0, jlo2, e1_w, e2_w, Int.tmod_eq_emod_of_nonneg (by omega)]
  unfold dG
  omega
theorem dD_ev {g m : Nat} (hg : g < 2147483648) (hm_w : 1 ≤ m) (hm2 : m ≤ 200) : j_un 3 (j_div 3 (j_div 2 (g : Int) 65536) (m : Int)) = ((g / 65536 % m : Nat) : Int) := by
  have e0 : (g : Int) / 65536 = ((g / 65536 : Nat) : Int) := by omega
  have e1_w : j64 ((g / 65536 : Nat) : Int) = ((g / 65536 : Nat) : Int) := j64_id (by omega) (by omega)
  have := Nat.mod_lt (g / 65536) (show 0 < m by omega)
  rw [jun3, jdv3, jdv2, Int.tdiv_eq_ediv_of_nonneg (by omega), e0, e1_w, Int.tmod_eq_emod_of_nonneg (by omega), ← Int.natCast_emod]
  exact j32_id (by omega) (by omega)
theorem m_309 : BodyOK CS45 CS45 309 := fun av h Q hQ => by
  rw [cs45_309] at hQ
  unfold k309 at hQ
  split at hQ
  · rename_i t m
    obtain ⟨rfl, g, mn_w, eg, hg, rfl, m1_w, m2_w, hQ⟩ := hQ
    show pS CS45 bb_309 [182, (mn_w : Int)] h _
    unfold bb_309
    have e1_w := dG_ev hg
    have e2_w := dD_ev (g := dG g) (m := mn_w) (Nat.mod_lt _ (by decide)) m1_w m2_w
    simp only [qe_1, qe_3, qe_4, qe_5, qe_7, qe_72, qe_10, qe_102, qe_13, qe_14, qe_15, qe_16, qe_17, qe_18, qe_20, qe_22, qe_23, qe_21, qe_24, qe_25, qe_26, qe_27, qe_28, qe_30, qe_31, qe_32, qc_20, qc_22, qc_23, qc_21, qc_24, qc_25, qc_26, qc_27, qc_1, qc_3, qc_4, qc_7, qc_13, qc_28, qc_32, qs_1, qs_2, qs_3, qs_4, qs_5, qs_6, qs_9, qs_10, qs_11, qs_14, qs_15, qs_16, qs_27, qs_17, qs_18, qs_19, qs_20, qs_22, qs_23, qs_28, qs_25, qs_26, qs_7, qs_8, kc_1, kn_1, kc_2, kn_2, kc_3, kn_3, kc_4, kn_4, kc_5, kn_5, kc_6, kn_6, kc_7, kn_7, kc_8, kn_8, kc_9, kn_9, kc_10, kn_10, kc_11, kn_11, kc_12, kn_12, kc_13, kn_13, kc_14, kn_14, kc_15, kn_15, kc_16, kc_17, kc_18, kc_19, kc_20, kc_21, kc_22, kc_23, kc_30, kc_32, kc_40, kc_43, kc_45, kc_48, kc_52, kc_56, kc_57, kc_59, kc_60, kc_61, kc_63, kc_64, kc_72, kc_78, kc_97, kc_99, kc_122, kc_126, kc_128, kc_192, kc_200, kc_255, kc_999, kc_1000, kc_9999, kn_9999, kc_10000, kc_12345, kc_65536, kc_252645135, kc_858993459, kc_1103515245, kc_1431655765, kc_2147483647, kc_0, kc_24, kc_28, kc_37, kc_41, kc_42, kc_73, kc_91, kc_95, kc_96, kc_98, kc_100, kc_112, kc_125, kc_150, kc_162, kc_163, kc_168, kc_186, kc_190, kc_250, kc_355, kc_356, kc_404, kc_405, kc_429, kc_573, kc_1002, kc_1100, kc_1891, kc_2200, kc_4719, kc_4869, kc_4881, kc_5148, kc_19741, kc_25433, kc_320403, kc_628412, kc_629093, kc_660401, kc_679843, kc_918640, kc_979410, kc_1178088, kc_6232410, kc_24644941, kc_36238189, kc_38270444, kc_392531318, kc_425693491, kc_1342154595, kc_2147483648, kc_42328242873, kc_891704255789, kc_1722105685577, kc_1858726030364, ct_0, ct_1, ct_2, ct_3, ct_4, ct_5, cf_0, cf_1, cf_2, cf_3, cf_4, cf_5, w_ty6, w_ty7, m_sv, m_z0, m_hd, m_g0, m_gs, m_s0, m_ss, m_ap, m_an, forall_const, true_and, and_true, ne_eq, not_true_eq_false, not_false_eq_true, false_implies, true_implies, implies_true, eq_self, reduceCtorEq, Nat.reduceDiv, Nat.reduceMod, Int.reduceToNat, or_true, true_or, or_false, false_or, or_self, m_it, m_if, m_c1, m_01, m_02, m_03, m_04, m_10, m_12, m_13, m_14, m_20, m_21, m_23, m_24, m_30, m_31, m_32, m_34, m_40, m_41, m_42, m_43, Int.reduceLE, Int.reduceLT, Int.reduceGE, Int.reduceGT, Int.reduceNeg, Int.reduceAdd, Int.reduceSub, Int.reduceMul, Int.reduceEq, Int.reduceNe, Nat.reduceAdd, jun2, ro_0_0, ro_0_1, ro_0_2, ro_0_3, ro_0_4, ro_0_5, ro_0_6, ro_0_7, ro_0_8, ro_0_9, ro_0_10, ro_0_11, ro_0_12, ro_1_0, ro_1_1, ro_2_0, ro_4_0, ro_6_0, ro_6_1, ro_6_2, ro_6_3, ro_6_4, ro_6_5, ro_6_6, ro_6_7, ro_6_8, ro_8_0, ro_10_0, ro_12_0, ro_14_0, ro_16_0, ro_18_0, ro_20_0, ro_22_0, ro_22_1, ro_22_2, ro_23_0, ro_25_0, ro_27_0, ro_29_0, ro_29_1, ro_29_2, ro_29_3, ro_29_4, ro_29_5, ro_29_6, ro_29_7, ro_29_8, ro_31_0, ro_33_0, ro_35_0, ro_37_0, ro_39_0, ro_41_0, ro_43_0, ro_45_0, ro_45_1, ro_45_2, ro_46_0, ro_48_0, ro_50_0, ro_52_0, ro_52_1, ro_52_2, ro_52_3, ro_53_0, ro_55_0, ro_57_0, ro_59_0, ro_61_0, ro_61_1, ro_61_2, ro_61_3, ro_62_0, ro_64_0, ro_66_0, ro_68_0, ro_70_0, ro_70_1, ro_70_2, ro_70_3, ro_70_4, ro_70_5, ro_70_6, ro_70_7, ro_70_8, ro_70_9, ro_71_0, ro_73_0, ro_75_0, ro_77_0, ro_79_0, ro_81_0, ro_83_0, ro_85_0, ro_87_0, ro_89_0, ro_91_0, ro_91_1, ro_91_2, ro_91_3, ro_91_4, ro_91_5, ro_91_6, ro_91_7, ro_91_8, ro_91_9, ro_92_0, ro_94_0, ro_96_0, ro_98_0, ro_100_0, ro_102_0, ro_104_0, ro_106_0, ro_108_0, ro_110_0, ro_112_0, ro_112_1, ro_112_2, ro_112_3, ro_112_4, ro_112_5, ro_112_6, ro_112_7, ro_112_8, ro_112_9, ro_113_0, ro_115_0, ro_117_0, ro_119_0, ro_121_0, ro_123_0, ro_125_0, ro_127_0, ro_129_0, ro_131_0, ro_133_0, ro_133_1, ro_133_2, ro_133_3, ro_133_4, ro_133_5, ro_133_6, ro_133_7, ro_133_8, ro_133_9, ro_134_0, ro_136_0, ro_138_0, ro_140_0, ro_142_0, ro_144_0, ro_146_0, ro_148_0, ro_150_0, ro_152_0, ro_154_0, ro_155_0, ro_157_0, ro_157_1, ro_157_2, ro_157_3, ro_157_4, ro_157_5, ro_157_6, ro_157_7, ro_157_8, ro_157_9, ro_158_0, ro_160_0, ro_162_0, ro_164_0, ro_166_0, ro_168_0, ro_170_0, ro_172_0, ro_174_0, ro_176_0, ro_178_0, ro_180_0, ro_182_1, ro_182_4, ro_182_5, ro_182_6, ro_182_9, ro_182_10, ro_182_11, ro_182_13, ro_182_14, ro_182_15, ro_182_16, ro_182_17, ro_182_20, ro_182_21, ro_182_22, ro_182_23, ro_182_24, ro_182_26, ro_182_27, ro_182_28, lo_3, lo_5, lo_7, lo_9, lo_11, lo_13, lo_15, lo_17, lo_19, lo_21, lo_24, lo_26, lo_28, lo_30, lo_32, lo_34, lo_36, lo_38, lo_40, lo_42, lo_44, lo_47, lo_49, lo_51, lo_54, lo_56, lo_58, lo_60, lo_63, lo_65, lo_67, lo_69, lo_72, lo_74, lo_76, lo_78, lo_80, lo_82, lo_84, lo_86, lo_88, lo_90, lo_93, lo_95, lo_97, lo_99, lo_101, lo_103, lo_105, lo_107, lo_109, lo_111, lo_114, lo_116, lo_118, lo_120, lo_122, lo_124, lo_126, lo_128, lo_130, lo_132, lo_135, lo_137, lo_139, lo_141, lo_143, lo_145, lo_147, lo_149, lo_151, lo_153, lo_156, lo_159, lo_161, lo_163, lo_165, lo_167, lo_169, lo_171, lo_173, lo_175, lo_177, lo_179, lo_181, lo_183, lo_184, lo_185, lo_186, lo_187, lo_188, lo_189, lo_190, lo_191, lo_192, lo_193, lo_194, lo_195, lo_196, lo_197, lo_198, lo_199, lo_200, lo_201, lo_202, lo_203, jp_nn, jp_eq, jp_e1, Classical.not_not, ji0, ji1, ji2, jl_0, jl_1, jl_2, jl_3, jl_4, jl_5, jl_6, jl_7, jl_8, jl_9, jl_10, jl_11, jl_12, jl_13, jl_14, jl_15, jl_16, jl_17, jl_18, jl_19, jl_20, jl_21, jl_22, jl_23, jl_24, jl_25, jl_26, jl_27, jl_28, jl_29, jl_30, jl_31, jl_32, jl_33, jl_34, jl_35, jl_36, jl_37, jl_38, jl_39, jl_40, jl_95, jl_96, jl_97, jl_98, jl_99, jl_100, jl_101, jl_102, jl_103, jl_104, jl_105, jl_106, jl_107, jl_108, jl_109, jl_110, jl_111, jl_112, jl_113, jl_114, jl_186, jl_1100, jr, ju, jpT, jpF, tnc, Nat.reduceEqDiff, reduceIte, and_false, false_and, not_true_eq_false, not_false_eq_true, or_false, gt_iff_lt, ge_iff_le, Int.lt_irrefl, Int.le_refl, eg, e1_w, e2_w]
    intros
    exact hQ
  · exact hQ.elim
theorem snd_45 {xs : Nat → Int} {L K : Nat} : ∀ n, SndC CS45 (evF xs L g_ck K g_cW g_M n) := snd_all snd_44 (fun f av h Q hQ => by
  unfold CS45 at hQ
  split at hQ
  · exact Or.inr m_274
  · exact Or.inr m_298
  · exact Or.inr m_309
  · exact Or.inl hQ)
end
section
/-! ===== contracts: judged, swing, gains, bears, heaviest, days change no block_w but the tried one ===== -/
/-- lines that a work can_w hold -/
def LNB (h : XH) : Prop := ∀ n : Nat, (n : Int) < h 191 0 → (h 191 (1 + 4 * n) = 0 → 0 ≤ h 191 (2 + 4 * n) ∧ h 191 (2 + 4 * n) < 6 ∧ 0 ≤ h 191 (3 + 4 * n) ∧ h 191 (3 + 4 * n) ≤ 12) ∧ (h 191 (1 + 4 * n) = 1 → 0 ≤ h 191 (2 + 4 * n) ∧ h 191 (2 + 4 * n) < 6 ∧ 0 ≤ h 191 (4 + 4 * n) ∧ h 191 (4 + 4 * n) ≤ 11) ∧ (h 191 (1 + 4 * n) = 2 → 0 ≤ h 191 (2 + 4 * n) ∧ h 191 (2 + 4 * n) ≤ 11)
def k273b : KT := fun av h Q => match av with
  | [t, w] => t = 182 ∧ ∃ M S : Nat, h 188 3 = (M : Int) ∧ M ≤ 6 ∧ h 188 0 = (S : Int) ∧ S ≤ 12 ∧ h 191 0 ≤ 30 ∧ LNB h ∧ ∀ k r h', BKq h h' → Q k r h'
  | _ => False
def k299b : KT := fun av h Q => match av with
  | [t, m, p, v, s] => t = 182 ∧ ∃ D : DD, RF D h ∧ ∀ k r h', BKq h h' → Q k r h'
  | _ => False
def k300b : KT := fun av h Q => match av with
  | [t, m, s] => t = 182 ∧ h 188 3 ≤ 6 ∧ ∀ k r h', BKq h h' → Q k r h'
  | _ => False
def k301b : KT := fun av h Q => match av with
  | [t, m] => t = 182 ∧ 0 ≤ m ∧ m < 6 ∧ ∀ k r h', BKq h h' → h' 188 = h 188 → Q k r h'
  | _ => False
def k310b : KT := fun av h Q => match av with
  | [t, a, b, w] => t = 182 ∧ h 188 3 ≤ 6 ∧ h 188 0 ≤ 12 ∧ ∀ k r h', BKq h h' → Q k r h'
  | _ => False
section KKG4
variable {h h1 h2 h' : XH} {Q : Nat → List Int → XH → Prop} {t b m p s f o v c a w : Int} {D : DD} {k : Nat} {av : List Int}
theorem kk_273b : k273b [182, w] h Q = ∃ M S : Nat, h 188 3 = (M : Int) ∧ M ≤ 6 ∧ h 188 0 = (S : Int) ∧ S ≤ 12 ∧ h 191 0 ≤ 30 ∧ LNB h ∧ ∀ k r h', BKq h h' → Q k r h' := propext ⟨fun a => a.2, fun a => ⟨rfl, a⟩⟩
theorem kk_299b : k299b [182, m, p, v, s] h Q = ∃ D : DD, RF D h ∧ ∀ k r h', BKq h h' → Q k r h' := propext ⟨fun a => a.2, fun a => ⟨rfl, a⟩⟩
theorem kk_300b : k300b [182, m, s] h Q = (h 188 3 ≤ 6 ∧ ∀ k r h', BKq h h' → Q k r h') := propext ⟨fun a => a.2, fun a => ⟨rfl, a⟩⟩
theorem kk_301b : k301b [182, m] h Q = (0 ≤ m ∧ m < 6 ∧ ∀ k r h', BKq h h' → h' 188 = h 188 → Q k r h') := propext ⟨fun a => a.2, fun a => ⟨rfl, a⟩⟩
theorem kk_310b : k310b [182, a, b, w] h Q = (h 188 3 ≤ 6 ∧ h 188 0 ≤ 12 ∧ ∀ k r h', BKq h h' → Q k r h') := propext ⟨fun a => a.2, fun a => ⟨rfl, a⟩⟩
theorem OPN.row (o : OPN h h') (z1 : k ≠ 194) (z2 : k ≠ 182) : h' k = h k := funext fun q => o.1 k q (by omega) (by omega)
end KKG4
def CS46 : CSt := fun f => match f with
  | 273 => k273b
  | 299 => k299b
  | 300 => k300b
  | 301 => k301b
  | 310 => k310b
  | _ => CS45 f
theorem cs46_54 {av : List Int} {h : XH} {Q : Nat → List Int → XH → Prop} : CS46 54 av h Q = k54 av h Q := id rfl
theorem cs46_55 {av : List Int} {h : XH} {Q : Nat → List Int → XH → Prop} : CS46 55 av h Q = k55 av h Q := id rfl
theorem cs46_68 {av : List Int} {h : XH} {Q : Nat → List Int → XH → Prop} : CS46 68 av h Q = k68 av h Q := id rfl
theorem cs46_69 {av : List Int} {h : XH} {Q : Nat → List Int → XH → Prop} : CS46 69 av h Q = k69 av h Q := id rfl
theorem cs46_70 {av : List Int} {h : XH} {Q : Nat → List Int → XH → Prop} : CS46 70 av h Q = k70 av h Q := id rfl
theorem cs46_71 {av : List Int} {h : XH} {Q : Nat → List Int → XH → Prop} : CS46 71 av h Q = k71 av h Q := id rfl
theorem cs46_72 {av : List Int} {h : XH} {Q : Nat → List Int → XH → Prop} : CS46 72 av h Q = k72 av h Q := id rfl
theorem cs46_73 {av : List Int} {h : XH} {Q : Nat → List Int → XH → Prop} : CS46 73 av h Q = k73 av h Q := id rfl
theorem cs46_74 {av : List Int} {h : XH} {Q : Nat → List Int → XH → Prop} : CS46 74 av h Q = k74 av h Q := id rfl
theorem cs46_75 {av : List Int} {h : XH} {Q : Nat → List Int → XH → Prop} : CS46 75 av h Q = k75 av h Q := id rfl
theorem cs46_186 {av : List Int} {h : XH} {Q : Nat → List Int → XH → Prop} : CS46 186 av h Q = k186 av h Q := id rfl
theorem cs46_187 {av : List Int} {h : XH} {Q : Nat → List Int → XH → Prop} : CS46 187 av h Q = k187 av h Q := id rfl
theorem cs46_188 {av : List Int} {h : XH} {Q : Nat → List Int → XH → Prop} : CS46 188 av h Q = k188 av h Q := id rfl
theorem cs46_189 {av : List Int} {h : XH} {Q : Nat → List Int → XH → Prop} : CS46 189 av h Q = k189 av h Q := id rfl
theorem cs46_191 {av : List Int} {h : XH} {Q : Nat → List Int → XH → Prop} : CS46 191 av h Q = k191 av h Q := id rfl
theorem cs46_192 {av : List Int} {h : XH} {Q : Nat → List Int → XH → Prop} : CS46 192 av h Q = k192 av h Q := id rfl
theorem cs46_193 {av : List Int} {h : XH} {Q : Nat → List Int → XH → Prop} : CS46 193 av h Q = k193 av h Q := id rfl
theorem cs46_198 {av : List Int} {h : XH} {Q : Nat → List Int → XH → Prop} : CS46 198 av h Q = k198 av h Q := id rfl
theorem cs46_207 {av : List Int} {h : XH} {Q : Nat → List Int → XH → Prop} : CS46 207 av h Q = k207 av h Q := id rfl
theorem cs46_195 {av : List Int} {h : XH} {Q : Nat → List Int → XH → Prop} : CS46 195 av h Q = k195 av h Q := id rfl
theorem cs46_196 {av : List Int} {h : XH} {Q : Nat → List Int → XH → Prop} : CS46 196 av h Q = k196 av h Q := id rfl
theorem cs46_201 {av : List Int} {h : XH} {Q : Nat → List Int → XH → Prop} : CS46 201 av h Q = k201 av h Q := id rfl
theorem cs46_203 {av : List Int} {h : XH} {Q : Nat → List Int → XH → Prop} : CS46 203 av h Q = k203 av h Q := id rfl
theorem cs46_204 {av : List Int} {h : XH} {Q : Nat → List Int → XH → Prop} : CS46 204 av h Q = k204 av h Q := id rfl
theorem cs46_194 {av : List Int} {h : XH} {Q : Nat → List Int → XH → Prop} : CS46 194 av h Q = k194 av h Q := id rfl
theorem cs46_197 {av : List Int} {h : XH} {Q : Nat → List Int → XH → Prop} : CS46 197 av h Q = k197 av h Q := id rfl
theorem cs46_200 {av : List Int} {h : XH} {Q : Nat → List Int → XH → Prop} : CS46 200 av h Q = k200 av h Q := id rfl
theorem cs46_202 {av : List Int} {h : XH} {Q : Nat → List Int → XH → Prop} : CS46 202 av h Q = k202 av h Q := id rfl
theorem cs46_205 {av : List Int} {h : XH} {Q : Nat → List Int → XH → Prop} : CS46 205 av h Q = k205 av h Q := id rfl
theorem cs46_208 {av : List Int} {h : XH} {Q : Nat → List Int → XH → Prop} : CS46 208 av h Q = k208 av h Q := id rfl
theorem cs46_209 {av : List Int} {h : XH} {Q : Nat → List Int → XH → Prop} : CS46 209 av h Q = k209 av h Q := id rfl
theorem cs46_211 {av : List Int} {h : XH} {Q : Nat → List Int → XH → Prop} : CS46 211 av h Q = k211 av h Q := id rfl
theorem cs46_216 {av : List Int} {h : XH} {Q : Nat → List Int → XH → Prop} : CS46 216 av h Q = k216 av h Q := id rfl
theorem cs46_217 {av : List Int} {h : XH} {Q : Nat → List Int → XH → Prop} : CS46 217 av h Q = k217 av h Q := id rfl
theorem cs46_218 {av : List Int} {h : XH} {Q : Nat → List Int → XH → Prop} : CS46 218 av h Q = k218 av h Q := id rfl
theorem cs46_219 {av : List Int} {h : XH} {Q : Nat → List Int → XH → Prop} : CS46 219 av h Q = k219 av h Q := id rfl
theorem cs46_220 {av : List Int} {h : XH} {Q : Nat → List Int → XH → Prop} : CS46 220 av h Q = k220 av h Q := id rfl
theorem cs46_221 {av : List Int} {h : XH} {Q : Nat → List Int → XH → Prop} : CS46 221 av h Q = k221 av h Q := id rfl
theorem cs46_210 {av : List Int} {h : XH} {Q : Nat → List Int → XH → Prop} : CS46 210 av h Q = k210 av h Q := id rfl
theorem cs46_212 {av : List Int} {h : XH} {Q : Nat → List Int → XH → Prop} : CS46 212 av h Q = k212 av h Q := id rfl
theorem cs46_213 {av : List Int} {h : XH} {Q : Nat → List Int → XH → Prop} : CS46 213 av h Q = k213 av h Q := id rfl
theorem cs46_190 {av : List Int} {h : XH} {Q : Nat → List Int → XH → Prop} : CS46 190 av h Q = k190 av h Q := id rfl
theorem cs46_199 {av : List Int} {h : XH} {Q : Nat → List Int → XH → Prop} : CS46 199 av h Q = k199 av h Q := id rfl
theorem cs46_225 {av : List Int} {h : XH} {Q : Nat → List Int → XH → Prop} : CS46 225 av h Q = k225 av h Q := id rfl
theorem cs46_226 {av : List Int} {h : XH} {Q : Nat → List Int → XH → Prop} : CS46 226 av h Q = k226 av h Q := id rfl
theorem cs46_227 {av : List Int} {h : XH} {Q : Nat → List Int → XH → Prop} : CS46 227 av h Q = k227 av h Q := id rfl
theorem cs46_228 {av : List Int} {h : XH} {Q : Nat → List Int → XH → Prop} : CS46 228 av h Q = k228 av h Q := id rfl
theorem cs46_333 {av : List Int} {h : XH} {Q : Nat → List Int → XH → Prop} : CS46 333 av h Q = k333 av h Q := id rfl
theorem cs46_67 {av : List Int} {h : XH} {Q : Nat → List Int → XH → Prop} : CS46 67 av h Q = k67 av h Q := id rfl
theorem cs46_65 {av : List Int} {h : XH} {Q : Nat → List Int → XH → Prop} : CS46 65 av h Q = k65 av h Q := id rfl
theorem cs46_66 {av : List Int} {h : XH} {Q : Nat → List Int → XH → Prop} : CS46 66 av h Q = k66 av h Q := id rfl
theorem cs46_64 {av : List Int} {h : XH} {Q : Nat → List Int → XH → Prop} : CS46 64 av h Q = k64 av h Q := id rfl
theorem cs46_63 {av : List Int} {h : XH} {Q : Nat → List Int → XH → Prop} : CS46 63 av h Q = k63 av h Q := id rfl
theorem cs46_77 {av : List Int} {h : XH} {Q : Nat → List Int → XH → Prop} : CS46 77 av h Q = k77 av h Q := id rfl
theorem cs46_76 {av : List Int} {h : XH} {Q : Nat → List Int → XH → Prop} : CS46 76 av h Q = k76 av h Q := id rfl
theorem cs46_133 {av : List Int} {h : XH} {Q : Nat → List Int → XH → Prop} : CS46 133 av h Q = k133 av h Q := id rfl
theorem cs46_134 {av : List Int} {h : XH} {Q : Nat → List Int → XH → Prop} : CS46 134 av h Q = k134 av h Q := id rfl
theorem cs46_135 {av : List Int} {h : XH} {Q : Nat → List Int → XH → Prop} : CS46 135 av h Q = k135 av h Q := id rfl
theorem cs46_136 {av : List Int} {h : XH} {Q : Nat → List Int → XH → Prop} : CS46 136 av h Q = k136 av h Q := id rfl
theorem cs46_138 {av : List Int} {h : XH} {Q : Nat → List Int → XH → Prop} : CS46 138 av h Q = k138 av h Q := id rfl
theorem cs46_139 {av : List Int} {h : XH} {Q : Nat → List Int → XH → Prop} : CS46 139 av h Q = k139 av h Q := id rfl
theorem cs46_105 {av : List Int} {h : XH} {Q : Nat → List Int → XH → Prop} : CS46 105 av h Q = k105 av h Q := id rfl
theorem cs46_102 {av : List Int} {h : XH} {Q : Nat → List Int → XH → Prop} : CS46 102 av h Q = k102 av h Q := id rfl
theorem cs46_103 {av : List Int} {h : XH} {Q : Nat → List Int → XH → Prop} : CS46 103 av h Q = k103 av h Q := id rfl
theorem cs46_104 {av : List Int} {h : XH} {Q : Nat → List Int → XH → Prop} : CS46 104 av h Q = k104 av h Q := id rfl
theorem cs46_106 {av : List Int} {h : XH} {Q : Nat → List Int → XH → Prop} : CS46 106 av h Q = k106 av h Q := id rfl
theorem cs46_140 {av : List Int} {h : XH} {Q : Nat → List Int → XH → Prop} : CS46 140 av h Q = k140 av h Q := id rfl
theorem cs46_137 {av : List Int} {h : XH} {Q : Nat → List Int → XH → Prop} : CS46 137 av h Q = k137 av h Q := id rfl
theorem cs46_127 {av : List Int} {h : XH} {Q : Nat → List Int → XH → Prop} : CS46 127 av h Q = k127 av h Q := id rfl
theorem cs46_56 {av : List Int} {h : XH} {Q : Nat → List Int → XH → Prop} : CS46 56 av h Q = k56 av h Q := id rfl
theorem cs46_57 {av : List Int} {h : XH} {Q : Nat → List Int → XH → Prop} : CS46 57 av h Q = k57 av h Q := id rfl
theorem cs46_79 {av : List Int} {h : XH} {Q : Nat → List Int → XH → Prop} : CS46 79 av h Q = k79 av h Q := id rfl
theorem cs46_101 {av : List Int} {h : XH} {Q : Nat → List Int → XH → Prop} : CS46 101 av h Q = k101 av h Q := id rfl
theorem cs46_96 {av : List Int} {h : XH} {Q : Nat → List Int → XH → Prop} : CS46 96 av h Q = k96 av h Q := id rfl
theorem cs46_99 {av : List Int} {h : XH} {Q : Nat → List Int → XH → Prop} : CS46 99 av h Q = k99c av h Q := id rfl
theorem cs46_100 {av : List Int} {h : XH} {Q : Nat → List Int → XH → Prop} : CS46 100 av h Q = k100 av h Q := id rfl
theorem cs46_98 {av : List Int} {h : XH} {Q : Nat → List Int → XH → Prop} : CS46 98 av h Q = k98 av h Q := id rfl
theorem cs46_122 {av : List Int} {h : XH} {Q : Nat → List Int → XH → Prop} : CS46 122 av h Q = k122 av h Q := id rfl
theorem cs46_123 {av : List Int} {h : XH} {Q : Nat → List Int → XH → Prop} : CS46 123 av h Q = k123 av h Q := id rfl
theorem cs46_124 {av : List Int} {h : XH} {Q : Nat → List Int → XH → Prop} : CS46 124 av h Q = k124 av h Q := id rfl
theorem cs46_125 {av : List Int} {h : XH} {Q : Nat → List Int → XH → Prop} : CS46 125 av h Q = k125 av h Q := id rfl
theorem cs46_126 {av : List Int} {h : XH} {Q : Nat → List Int → XH → Prop} : CS46 126 av h Q = k126 av h Q := id rfl
theorem cs46_84 {av : List Int} {h : XH} {Q : Nat → List Int → XH → Prop} : CS46 84 av h Q = k84 av h Q := id rfl
theorem cs46_82 {av : List Int} {h : XH} {Q : Nat → List Int → XH → Prop} : CS46 82 av h Q = k82 av h Q := id rfl
theorem cs46_83 {av : List Int} {h : XH} {Q : Nat → List Int → XH → Prop} : CS46 83 av h Q = k83 av h Q := id rfl
theorem cs46_85 {av : List Int} {h : XH} {Q : Nat → List Int → XH → Prop} : CS46 85 av h Q = k85 av h Q := id rfl
theorem cs46_89 {av : List Int} {h : XH} {Q : Nat → List Int → XH → Prop} : CS46 89 av h Q = k89 av h Q := id rfl
theorem cs46_90 {av : List Int} {h : XH} {Q : Nat → List Int → XH → Prop} : CS46 90 av h Q = k90 av h Q := id rfl
theorem cs46_91 {av : List Int} {h : XH} {Q : Nat → List Int → XH → Prop} : CS46 91 av h Q = k91 av h Q := id rfl
theorem cs46_88 {av : List Int} {h : XH} {Q : Nat → List Int → XH → Prop} : CS46 88 av h Q = k88 av h Q := id rfl
theorem cs46_86 {av : List Int} {h : XH} {Q : Nat → List Int → XH → Prop} : CS46 86 av h Q = k86 av h Q := id rfl
theorem cs46_87 {av : List Int} {h : XH} {Q : Nat → List Int → XH → Prop} : CS46 87 av h Q = k87 av h Q := id rfl
theorem cs46_81 {av : List Int} {h : XH} {Q : Nat → List Int → XH → Prop} : CS46 81 av h Q = k81 av h Q := id rfl
theorem cs46_128 {av : List Int} {h : XH} {Q : Nat → List Int → XH → Prop} : CS46 128 av h Q = k128 av h Q := id rfl
theorem cs46_119 {av : List Int} {h : XH} {Q : Nat → List Int → XH → Prop} : CS46 119 av h Q = k119 av h Q := id rfl
theorem cs46_58 {av : List Int} {h : XH} {Q : Nat → List Int → XH → Prop} : CS46 58 av h Q = k58 av h Q := id rfl
theorem cs46_80 {av : List Int} {h : XH} {Q : Nat → List Int → XH → Prop} : CS46 80 av h Q = k80 av h Q := id rfl
theorem cs46_97 {av : List Int} {h : XH} {Q : Nat → List Int → XH → Prop} : CS46 97 av h Q = k97s av h Q := id rfl
theorem cs46_156 {av : List Int} {h : XH} {Q : Nat → List Int → XH → Prop} : CS46 156 av h Q = k156 av h Q := id rfl
theorem cs46_142 {av : List Int} {h : XH} {Q : Nat → List Int → XH → Prop} : CS46 142 av h Q = k142 av h Q := id rfl
theorem cs46_3 {av : List Int} {h : XH} {Q : Nat → List Int → XH → Prop} : CS46 3 av h Q = k3s av h Q := id rfl
theorem cs46_61 {av : List Int} {h : XH} {Q : Nat → List Int → XH → Prop} : CS46 61 av h Q = k61z av h Q := id rfl
theorem cs46_2 {av : List Int} {h : XH} {Q : Nat → List Int → XH → Prop} : CS46 2 av h Q = k2s av h Q := id rfl
theorem cs46_240 {av : List Int} {h : XH} {Q : Nat → List Int → XH → Prop} : CS46 240 av h Q = k240s av h Q := id rfl
theorem cs46_241 {av : List Int} {h : XH} {Q : Nat → List Int → XH → Prop} : CS46 241 av h Q = k241s av h Q := id rfl
theorem cs46_206 {av : List Int} {h : XH} {Q : Nat → List Int → XH → Prop} : CS46 206 av h Q = k206s av h Q := id rfl
theorem cs46_113 {av : List Int} {h : XH} {Q : Nat → List Int → XH → Prop} : CS46 113 av h Q = k113 av h Q := id rfl
theorem cs46_114 {av : List Int} {h : XH} {Q : Nat → List Int → XH → Prop} : CS46 114 av h Q = k114 av h Q := id rfl
theorem cs46_116 {av : List Int} {h : XH} {Q : Nat → List Int → XH → Prop} : CS46 116 av h Q = k116 av h Q := id rfl
theorem cs46_117 {av : List Int} {h : XH} {Q : Nat → List Int → XH → Prop} : CS46 117 av h Q = k117 av h Q := id rfl
theorem cs46_121 {av : List Int} {h : XH} {Q : Nat → List Int → XH → Prop} : CS46 121 av h Q = k121 av h Q := id rfl
theorem cs46_129 {av : List Int} {h : XH} {Q : Nat → List Int → XH → Prop} : CS46 129 av h Q = k129 av h Q := id rfl
theorem cs46_130 {av : List Int} {h : XH} {Q : Nat → List Int → XH → Prop} : CS46 130 av h Q = k130 av h Q := id rfl
theorem cs46_131 {av : List Int} {h : XH} {Q : Nat → List Int → XH → Prop} : CS46 131 av h Q = k131 av h Q := id rfl
theorem cs46_132 {av : List Int} {h : XH} {Q : Nat → List Int → XH → Prop} : CS46 132 av h Q = k132 av h Q := id rfl
theorem cs46_120 {av : List Int} {h : XH} {Q : Nat → List Int → XH → Prop} : CS46 120 av h Q = k120 av h Q := id rfl
theorem cs46_4 {av : List Int} {h : XH} {Q : Nat → List Int → XH → Prop} : CS46 4 av h Q = k4 av h Q := id rfl
theorem cs46_229 {av : List Int} {h : XH} {Q : Nat → List Int → XH → Prop} : CS46 229 av h Q = k229 av h Q := id rfl
theorem cs46_233 {av : List Int} {h : XH} {Q : Nat → List Int → XH → Prop} : CS46 233 av h Q = k233 av h Q := id rfl
theorem cs46_234 {av : List Int} {h : XH} {Q : Nat → List Int → XH → Prop} : CS46 234 av h Q = k234 av h Q := id rfl
theorem cs46_215 {av : List Int} {h : XH} {Q : Nat → List Int → XH → Prop} : CS46 215 av h Q = k215 av h Q := id rfl
theorem cs46_214 {av : List Int} {h : XH} {Q : Nat → List Int → XH → Prop} : CS46 214 av h Q = k214 av h Q := id rfl
theorem cs46_146 {av : List Int} {h : XH} {Q : Nat → List Int → XH → Prop} : CS46 146 av h Q = k146 av h Q := id rfl
theorem cs46_147 {av : List Int} {h : XH} {Q : Nat → List Int → XH → Prop} : CS46 147 av h Q = k147 av h Q := id rfl
theorem cs46_149 {av : List Int} {h : XH} {Q : Nat → List Int → XH → Prop} : CS46 149 av h Q = k149 av h Q := id rfl
theorem cs46_155 {av : List Int} {h : XH} {Q : Nat → List Int → XH → Prop} : CS46 155 av h Q = k155 av h Q := id rfl
theorem cs46_157 {av : List Int} {h : XH} {Q : Nat → List Int → XH → Prop} : CS46 157 av h Q = k157 av h Q := id rfl
theorem cs46_165 {av : List Int} {h : XH} {Q : Nat → List Int → XH → Prop} : CS46 165 av h Q = k165 av h Q := id rfl
theorem cs46_59 {av : List Int} {h : XH} {Q : Nat → List Int → XH → Prop} : CS46 59 av h Q = k59 av h Q := id rfl
theorem cs46_107 {av : List Int} {h : XH} {Q : Nat → List Int → XH → Prop} : CS46 107 av h Q = k107 av h Q := id rfl
theorem cs46_108 {av : List Int} {h : XH} {Q : Nat → List Int → XH → Prop} : CS46 108 av h Q = k108 av h Q := id rfl
theorem cs46_109 {av : List Int} {h : XH} {Q : Nat → List Int → XH → Prop} : CS46 109 av h Q = k109 av h Q := id rfl
theorem cs46_110 {av : List Int} {h : XH} {Q : Nat → List Int → XH → Prop} : CS46 110 av h Q = k110 av h Q := id rfl
theorem cs46_111 {av : List Int} {h : XH} {Q : Nat → List Int → XH → Prop} : CS46 111 av h Q = k111 av h Q := id rfl
theorem cs46_112 {av : List Int} {h : XH} {Q : Nat → List Int → XH → Prop} : CS46 112 av h Q = k112 av h Q := id rfl
theorem cs46_143 {av : List Int} {h : XH} {Q : Nat → List Int → XH → Prop} : CS46 143 av h Q = k143 av h Q := id rfl
theorem cs46_170 {av : List Int} {h : XH} {Q : Nat → List Int → XH → Prop} : CS46 170 av h Q = k170 av h Q := id rfl
theorem cs46_168 {av : List Int} {h : XH} {Q : Nat → List Int → XH → Prop} : CS46 168 av h Q = k168 av h Q := id rfl
theorem cs46_169 {av : List Int} {h : XH} {Q : Nat → List Int → XH → Prop} : CS46 169 av h Q = k169 av h Q := id rfl
theorem cs46_181 {av : List Int} {h : XH} {Q : Nat → List Int → XH → Prop} : CS46 181 av h Q = k181 av h Q := id rfl
theorem cs46_5 {av : List Int} {h : XH} {Q : Nat → List Int → XH → Prop} : CS46 5 av h Q = k5 av h Q := id rfl
theorem cs46_6 {av : List Int} {h : XH} {Q : Nat → List Int → XH → Prop} : CS46 6 av h Q = k6 av h Q := id rfl
theorem cs46_7 {av : List Int} {h : XH} {Q : Nat → List Int → XH → Prop} : CS46 7 av h Q = k7 av h Q := id rfl
theorem cs46_8 {av : List Int} {h : XH} {Q : Nat → List Int → XH → Prop} : CS46 8 av h Q = k8 av h Q := id rfl
theorem cs46_9 {av : List Int} {h : XH} {Q : Nat → List Int → XH → Prop} : CS46 9 av h Q = k9 av h Q := id rfl
theorem cs46_10 {av : List Int} {h : XH} {Q : Nat → List Int → XH → Prop} : CS46 10 av h Q = k10s av h Q := id rfl
theorem cs46_11 {av : List Int} {h : XH} {Q : Nat → List Int → XH → Prop} : CS46 11 av h Q = k11 av h Q := id rfl
theorem cs46_12 {av : List Int} {h : XH} {Q : Nat → List Int → XH → Prop} : CS46 12 av h Q = k12s av h Q := id rfl
theorem cs46_40 {av : List Int} {h : XH} {Q : Nat → List Int → XH → Prop} : CS46 40 av h Q = k40s av h Q := id rfl
theorem cs46_49 {av : List Int} {h : XH} {Q : Nat → List Int → XH → Prop} : CS46 49 av h Q = k49 av h Q := id rfl
theorem cs46_50 {av : List Int} {h : XH} {Q : Nat → List Int → XH → Prop} : CS46 50 av h Q = k50 av h Q := id rfl
theorem cs46_48 {av : List Int} {h : XH} {Q : Nat → List Int → XH → Prop} : CS46 48 av h Q = k48 av h Q := id rfl
theorem cs46_224 {av : List Int} {h : XH} {Q : Nat → List Int → XH → Prop} : CS46 224 av h Q = k224s av h Q := id rfl
theorem cs46_230 {av : List Int} {h : XH} {Q : Nat → List Int → XH → Prop} : CS46 230 av h Q = k230 av h Q := id rfl
theorem cs46_235 {av : List Int} {h : XH} {Q : Nat → List Int → XH → Prop} : CS46 235 av h Q = k235 av h Q := id rfl
theorem cs46_236 {av : List Int} {h : XH} {Q : Nat → List Int → XH → Prop} : CS46 236 av h Q = k236 av h Q := id rfl
theorem cs46_237 {av : List Int} {h : XH} {Q : Nat → List Int → XH → Prop} : CS46 237 av h Q = k237 av h Q := id rfl
theorem cs46_238 {av : List Int} {h : XH} {Q : Nat → List Int → XH → Prop} : CS46 238 av h Q = k238 av h Q := id rfl
theorem cs46_243 {av : List Int} {h : XH} {Q : Nat → List Int → XH → Prop} : CS46 243 av h Q = k243 av h Q := id rfl
theorem cs46_256 {av : List Int} {h : XH} {Q : Nat → List Int → XH → Prop} : CS46 256 av h Q = k256 av h Q := id rfl
theorem cs46_264 {av : List Int} {h : XH} {Q : Nat → List Int → XH → Prop} : CS46 264 av h Q = k264 av h Q := id rfl
theorem cs46_266 {av : List Int} {h : XH} {Q : Nat → List Int → XH → Prop} : CS46 266 av h Q = k266 av h Q := id rfl
theorem cs46_239 {av : List Int} {h : XH} {Q : Nat → List Int → XH → Prop} : CS46 239 av h Q = k239 av h Q := id rfl
theorem cs46_242 {av : List Int} {h : XH} {Q : Nat → List Int → XH → Prop} : CS46 242 av h Q = k242s av h Q := id rfl
theorem cs46_260 {av : List Int} {h : XH} {Q : Nat → List Int → XH → Prop} : CS46 260 av h Q = k260 av h Q := id rfl
theorem cs46_261 {av : List Int} {h : XH} {Q : Nat → List Int → XH → Prop} : CS46 261 av h Q = k261 av h Q := id rfl
theorem cs46_262 {av : List Int} {h : XH} {Q : Nat → List Int → XH → Prop} : CS46 262 av h Q = k262 av h Q := id rfl
theorem cs46_263 {av : List Int} {h : XH} {Q : Nat → List Int → XH → Prop} : CS46 263 av h Q = k263 av h Q := id rfl
theorem cs46_265 {av : List Int} {h : XH} {Q : Nat → List Int → XH → Prop} : CS46 265 av h Q = k265 av h Q := id rfl
theorem cs46_267 {av : List Int} {h : XH} {Q : Nat → List Int → XH → Prop} : CS46 267 av h Q = k267 av h Q := id rfl
theorem cs46_268 {av : List Int} {h : XH} {Q : Nat → List Int → XH → Prop} : CS46 268 av h Q = k268 av h Q := id rfl
theorem cs46_272 {av : List Int} {h : XH} {Q : Nat → List Int → XH → Prop} : CS46 272 av h Q = k272 av h Q := id rfl
theorem cs46_304 {av : List Int} {h : XH} {Q : Nat → List Int → XH → Prop} : CS46 304 av h Q = k304 av h Q := id rfl
theorem cs46_311 {av : List Int} {h : XH} {Q : Nat → List Int → XH → Prop} : CS46 311 av h Q = k311 av h Q := id rfl
theorem cs46_254 {av : List Int} {h : XH} {Q : Nat → List Int → XH → Prop} : CS46 254 av h Q = k254f av h Q := id rfl
theorem cs46_257 {av : List Int} {h : XH} {Q : Nat → List Int → XH → Prop} : CS46 257 av h Q = k257f av h Q := id rfl
theorem cs46_269 {av : List Int} {h : XH} {Q : Nat → List Int → XH → Prop} : CS46 269 av h Q = k269 av h Q := id rfl
theorem cs46_270 {av : List Int} {h : XH} {Q : Nat → List Int → XH → Prop} : CS46 270 av h Q = k270 av h Q := id rfl
theorem cs46_271 {av : List Int} {h : XH} {Q : Nat → List Int → XH → Prop} : CS46 271 av h Q = k271 av h Q := id rfl
theorem cs46_258 {av : List Int} {h : XH} {Q : Nat → List Int → XH → Prop} : CS46 258 av h Q = k258f av h Q := id rfl
theorem cs46_259 {av : List Int} {h : XH} {Q : Nat → List Int → XH → Prop} : CS46 259 av h Q = k259f av h Q := id rfl
theorem cs46_285 {av : List Int} {h : XH} {Q : Nat → List Int → XH → Prop} : CS46 285 av h Q = k285f av h Q := id rfl
theorem cs46_287 {av : List Int} {h : XH} {Q : Nat → List Int → XH → Prop} : CS46 287 av h Q = k287f av h Q := id rfl
theorem cs46_274 {av : List Int} {h : XH} {Q : Nat → List Int → XH → Prop} : CS46 274 av h Q = k274 av h Q := id rfl
theorem cs46_298 {av : List Int} {h : XH} {Q : Nat → List Int → XH → Prop} : CS46 298 av h Q = k298 av h Q := id rfl
theorem cs46_309 {av : List Int} {h : XH} {Q : Nat → List Int → XH → Prop} : CS46 309 av h Q = k309 av h Q := id rfl
theorem cs46_273 {av : List Int} {h : XH} {Q : Nat → List Int → XH → Prop} : CS46 273 av h Q = k273b av h Q := id rfl
theorem cs46_299 {av : List Int} {h : XH} {Q : Nat → List Int → XH → Prop} : CS46 299 av h Q = k299b av h Q := id rfl
theorem cs46_300 {av : List Int} {h : XH} {Q : Nat → List Int → XH → Prop} : CS46 300 av h Q = k300b av h Q := id rfl
theorem cs46_301 {av : List Int} {h : XH} {Q : Nat → List Int → XH → Prop} : CS46 301 av h Q = k301b av h Q := id rfl
theorem cs46_310 {av : List Int} {h : XH} {Q : Nat → List Int → XH → Prop} : CS46 310 av h Q = k310b av h Q := id rfl
theorem m_299b : BodyOK CS46 CS46 299 := fun av h Q hQ => by
  rw [cs46_299] at hQ
  unfold k299b at hQ
  split at hQ
  · rename_i t m p v s
    obtain ⟨rfl, D, rf, hQ⟩ := hQ
    have l6 : D.2.2.2.2.1.length ≤ 6 := rf.ix.1.2.2.2.2.2
    have l12 := lp_lr rf (m := m)
    show pS CS46 bb_299 [182, m, p, v, s] h _
    unfold bb_299
    simp only [qe_1, qe_3, qe_4, qe_5, qe_7, qe_72, qe_10, qe_102, qe_13, qe_14, qe_15, qe_16, qe_17, qe_18, qe_20, qe_22, qe_23, qe_21, qe_24, qe_25, qe_26, qe_27, qe_28, qe_30, qe_31, qe_32, qc_20, qc_22, qc_23, qc_21, qc_24, qc_25, qc_26, qc_27, qc_1, qc_3, qc_4, qc_7, qc_13, qc_28, qc_32, qs_1, qs_2, qs_3, qs_4, qs_5, qs_6, qs_9, qs_10, qs_11, qs_14, qs_15, qs_16, qs_27, qs_17, qs_18, qs_19, qs_20, qs_22, qs_23, qs_28, qs_25, qs_26, qs_7, qs_8, kc_1, kn_1, kc_2, kn_2, kc_3, kn_3, kc_4, kn_4, kc_5, kn_5, kc_6, kn_6, kc_7, kn_7, kc_8, kn_8, kc_9, kn_9, kc_10, kn_10, kc_11, kn_11, kc_12, kn_12, kc_13, kn_13, kc_14, kn_14, kc_15, kn_15, kc_16, kc_17, kc_18, kc_19, kc_20, kc_21, kc_22, kc_23, kc_30, kc_32, kc_40, kc_43, kc_45, kc_48, kc_52, kc_56, kc_57, kc_59, kc_60, kc_61, kc_63, kc_64, kc_72, kc_78, kc_97, kc_99, kc_122, kc_126, kc_128, kc_192, kc_200, kc_255, kc_999, kc_1000, kc_9999, kn_9999, kc_10000, kc_12345, kc_65536, kc_252645135, kc_858993459, kc_1103515245, kc_1431655765, kc_2147483647, kc_0, kc_24, kc_28, kc_37, kc_41, kc_42, kc_73, kc_91, kc_95, kc_96, kc_98, kc_100, kc_112, kc_125, kc_150, kc_162, kc_163, kc_168, kc_186, kc_190, kc_250, kc_355, kc_356, kc_404, kc_405, kc_429, kc_573, kc_1002, kc_1100, kc_1891, kc_2200, kc_4719, kc_4869, kc_4881, kc_5148, kc_19741, kc_25433, kc_320403, kc_628412, kc_629093, kc_660401, kc_679843, kc_918640, kc_979410, kc_1178088, kc_6232410, kc_24644941, kc_36238189, kc_38270444, kc_392531318, kc_425693491, kc_1342154595, kc_2147483648, kc_42328242873, kc_891704255789, kc_1722105685577, kc_1858726030364, ct_0, ct_1, ct_2, ct_3, ct_4, ct_5, cf_0, cf_1, cf_2, cf_3, cf_4, cf_5, w_ty6, w_ty7, m_sv, m_z0, m_hd, m_g0, m_gs, m_s0, m_ss, m_ap, m_an, forall_const, true_and, and_true, ne_eq, not_true_eq_false, not_false_eq_true, false_implies, true_implies, implies_true, eq_self, reduceCtorEq, Nat.reduceDiv, Nat.reduceMod, Int.reduceToNat, or_true, true_or, or_false, false_or, or_self, m_it, m_if, m_c1, m_01, m_02, m_03, m_04, m_10, m_12, m_13, m_14, m_20, m_21, m_23, m_24, m_30, m_31, m_32, m_34, m_40, m_41, m_42, m_43, Int.reduceLE, Int.reduceLT, Int.reduceGE, Int.reduceGT, Int.reduceNeg, Int.reduceAdd, Int.reduceSub, Int.reduceMul, Int.reduceEq, Int.reduceNe, Nat.reduceAdd, jun2, ro_0_0, ro_0_1, ro_0_2, ro_0_3, ro_0_4, ro_0_5, ro_0_6, ro_0_7, ro_0_8, ro_0_9, ro_0_10, ro_0_11, ro_0_12, ro_1_0, ro_1_1, ro_2_0, ro_4_0, ro_6_0, ro_6_1, ro_6_2, ro_6_3, ro_6_4, ro_6_5, ro_6_6, ro_6_7, ro_6_8, ro_8_0, ro_10_0, ro_12_0, ro_14_0, ro_16_0, ro_18_0, ro_20_0, ro_22_0, ro_22_1, ro_22_2, ro_23_0, ro_25_0, ro_27_0, ro_29_0, ro_29_1, ro_29_2, ro_29_3, ro_29_4, ro_29_5, ro_29_6, ro_29_7, ro_29_8, ro_31_0, ro_33_0, ro_35_0, ro_37_0, ro_39_0, ro_41_0, ro_43_0, ro_45_0, ro_45_1, ro_45_2, ro_46_0, ro_48_0, ro_50_0, ro_52_0, ro_52_1, ro_52_2, ro_52_3, ro_53_0, ro_55_0, ro_57_0, ro_59_0, ro_61_0, ro_61_1, ro_61_2, ro_61_3, ro_62_0, ro_64_0, ro_66_0, ro_68_0, ro_70_0, ro_70_1, ro_70_2, ro_70_3, ro_70_4, ro_70_5, ro_70_6, ro_70_7, ro_70_8, ro_70_9, ro_71_0, ro_73_0, ro_75_0, ro_77_0, ro_79_0, ro_81_0, ro_83_0, ro_85_0, ro_87_0, ro_89_0, ro_91_0, ro_91_1, ro_91_2, ro_91_3, ro_91_4, ro_91_5, ro_91_6, ro_91_7, ro_91_8, ro_91_9, ro_92_0, ro_94_0, ro_96_0, ro_98_0, ro_100_0, ro_102_0, ro_104_0, ro_106_0, ro_108_0, ro_110_0, ro_112_0, ro_112_1, ro_112_2, ro_112_3, ro_112_4, ro_112_5, ro_112_6, ro_112_7, ro_112_8, ro_112_9, ro_113_0, ro_115_0, ro_117_0, ro_119_0, ro_121_0, ro_123_0, ro_125_0, ro_127_0, ro_129_0, ro_131_0, ro_133_0, ro_133_1, ro_133_2, ro_133_3, ro_133_4, ro_133_5, ro_133_6, ro_133_7, ro_133_8, ro_133_9, ro_134_0, ro_136_0, ro_138_0, ro_140_0, ro_142_0, ro_144_0, ro_146_0, ro_148_0, ro_150_0, ro_152_0, ro_154_0, ro_155_0, ro_157_0, ro_157_1, ro_157_2, ro_157_3, ro_157_4, ro_157_5, ro_157_6, ro_157_7, ro_157_8, ro_157_9, ro_158_0, ro_160_0, ro_162_0, ro_164_0, ro_166_0, ro_168_0, ro_170_0, ro_172_0, ro_174_0, ro_176_0, ro_178_0, ro_180_0, ro_182_1, ro_182_4, ro_182_5, ro_182_6, ro_182_9, ro_182_10, ro_182_11, ro_182_13, ro_182_14, ro_182_15, ro_182_16, ro_182_17, ro_182_20, ro_182_21, ro_182_22, ro_182_23, ro_182_24, ro_182_26, ro_182_27, ro_182_28, lo_3, lo_5, lo_7, lo_9, lo_11, lo_13, lo_15, lo_17, lo_19, lo_21, lo_24, lo_26, lo_28, lo_30, lo_32, lo_34, lo_36, lo_38, lo_40, lo_42, lo_44, lo_47, lo_49, lo_51, lo_54, lo_56, lo_58, lo_60, lo_63, lo_65, lo_67, lo_69, lo_72, lo_74, lo_76, lo_78, lo_80, lo_82, lo_84, lo_86, lo_88, lo_90, lo_93, lo_95, lo_97, lo_99, lo_101, lo_103, lo_105, lo_107, lo_109, lo_111, lo_114, lo_116, lo_118, lo_120, lo_122, lo_124, lo_126, lo_128, lo_130, lo_132, lo_135, lo_137, lo_139, lo_141, lo_143, lo_145, lo_147, lo_149, lo_151, lo_153, lo_156, lo_159, lo_161, lo_163, lo_165, lo_167, lo_169, lo_171, lo_173, lo_175, lo_177, lo_179, lo_181, lo_183, lo_184, lo_185, lo_186, lo_187, lo_188, lo_189, lo_190, lo_191, lo_192, lo_193, lo_194, lo_195, lo_196, lo_197, lo_198, lo_199, lo_200, lo_201, lo_202, lo_203, jp_nn, jp_eq, jp_e1, Classical.not_not, ji0, ji1, ji2, cs46_198, kk_198, cs46_234, kk_234, cs46_237, kk_237, cs46_264, kk_264, cs46_239, kk_239, cs46_258, kk_258f, cs46_274, kk_274, cs46_298, kk_298, jl_0, jl_1, jl_2, jl_3, jl_4, jl_5, jl_6, jl_7, jl_8, jl_9, jl_10, jl_11, jl_12, jl_13, jl_14, jl_15, jl_16, jl_17, jl_18, jl_19, jl_20, jl_21, jl_22, jl_23, jl_24, jl_25, jl_26, jl_27, jl_28, jl_29, jl_30, jl_31, jl_32, jl_33, jl_34, jl_35, jl_36, jl_37, jl_38, jl_39, jl_40, jl_95, jl_96, jl_97, jl_98, jl_99, jl_100, jl_101, jl_102, jl_103, jl_104, jl_105, jl_106, jl_107, jl_108, jl_109, jl_110, jl_111, jl_112, jl_113, jl_114, jl_186, jl_1100, jr, ju, jpT, jpF, tnc, Nat.reduceEqDiff, reduceIte, and_false, false_and, not_true_eq_false, not_false_eq_true, or_false, gt_iff_lt, ge_iff_le, Int.lt_irrefl, Int.le_refl]
    refine ⟨D, rf, ?_⟩
    by_cases y : 0 ≤ m ∧ m < (D.2.2.2.2.1.length : Int) ∧ 0 ≤ p ∧ p ≤ lastP D m
    · simp only [qe_1, qe_3, qe_4, qe_5, qe_7, qe_72, qe_10, qe_102, qe_13, qe_14, qe_15, qe_16, qe_17, qe_18, qe_20, qe_22, qe_23, qe_21, qe_24, qe_25, qe_26, qe_27, qe_28, qe_30, qe_31, qe_32, qc_20, qc_22, qc_23, qc_21, qc_24, qc_25, qc_26, qc_27, qc_1, qc_3, qc_4, qc_7, qc_13, qc_28, qc_32, qs_1, qs_2, qs_3, qs_4, qs_5, qs_6, qs_9, qs_10, qs_11, qs_14, qs_15, qs_16, qs_27, qs_17, qs_18, qs_19, qs_20, qs_22, qs_23, qs_28, qs_25, qs_26, qs_7, qs_8, kc_1, kn_1, kc_2, kn_2, kc_3, kn_3, kc_4, kn_4, kc_5, kn_5, kc_6, kn_6, kc_7, kn_7, kc_8, kn_8, kc_9, kn_9, kc_10, kn_10, kc_11, kn_11, kc_12, kn_12, kc_13, kn_13, kc_14, kn_14, kc_15, kn_15, kc_16, kc_17, kc_18, kc_19, kc_20, kc_21, kc_22, kc_23, kc_30, kc_32, kc_40, kc_43, kc_45, kc_48, kc_52, kc_56, kc_57, kc_59, kc_60, kc_61, kc_63, kc_64, kc_72, kc_78, kc_97, kc_99, kc_122, kc_126, kc_128, kc_192, kc_200, kc_255, kc_999, kc_1000, kc_9999, kn_9999, kc_10000, kc_12345, kc_65536, kc_252645135, kc_858993459, kc_1103515245, kc_1431655765, kc_2147483647, kc_0, kc_24, kc_28, kc_37, kc_41, kc_42, kc_73, kc_91, kc_95, kc_96, kc_98, kc_100, kc_112, kc_125, kc_150, kc_162, kc_163, kc_168, kc_186, kc_190, kc_250, kc_355, kc_356, kc_404, kc_405, kc_429, kc_573, kc_1002, kc_1100, kc_1891, kc_2200, kc_4719, kc_4869, kc_4881, kc_5148, kc_19741, kc_25433, kc_320403, kc_628412, kc_629093, kc_660401, kc_679843, kc_918640, kc_979410, kc_1178088, kc_6232410, kc_24644941, kc_36238189, kc_38270444, kc_392531318, kc_425693491, kc_1342154595, kc_2147483648, kc_42328242873, kc_891704255789, kc_1722105685577, kc_1858726030364, ct_0, ct_1, ct_2, ct_3, ct_4, ct_5, cf_0, cf_1, cf_2, cf_3, cf_4, cf_5, w_ty6, w_ty7, m_sv, m_z0, m_hd, m_g0, m_gs, m_s0, m_ss, m_ap, m_an, forall_const, true_and, and_true, ne_eq, not_true_eq_false, not_false_eq_true, false_implies, true_implies, implies_true, eq_self, reduceCtorEq, Nat.reduceDiv, Nat.reduceMod, Int.reduceToNat, or_true, true_or, or_false, false_or, or_self, m_it, m_if, m_c1, m_01, m_02, m_03, m_04, m_10, m_12, m_13, m_14, m_20, m_21, m_23, m_24, m_30, m_31, m_32, m_34, m_40, m_41, m_42, m_43, Int.reduceLE, Int.reduceLT, Int.reduceGE, Int.reduceGT, Int.reduceNeg, Int.reduceAdd, Int.reduceSub, Int.reduceMul, Int.reduceEq, Int.reduceNe, Nat.reduceAdd, jun2, ro_0_0, ro_0_1, ro_0_2, ro_0_3, ro_0_4, ro_0_5, ro_0_6, ro_0_7, ro_0_8, ro_0_9, ro_0_10, ro_0_11, ro_0_12, ro_1_0, ro_1_1, ro_2_0, ro_4_0, ro_6_0, ro_6_1, ro_6_2, ro_6_3, ro_6_4, ro_6_5, ro_6_6, ro_6_7, ro_6_8, ro_8_0, ro_10_0, ro_12_0, ro_14_0, ro_16_0, ro_18_0, ro_20_0, ro_22_0, ro_22_1, ro_22_2, ro_23_0, ro_25_0, ro_27_0, ro_29_0, ro_29_1, ro_29_2, ro_29_3, ro_29_4, ro_29_5, ro_29_6, ro_29_7, ro_29_8, ro_31_0, ro_33_0, ro_35_0, ro_37_0, ro_39_0, ro_41_0, ro_43_0, ro_45_0, ro_45_1, ro_45_2, ro_46_0, ro_48_0, ro_50_0, ro_52_0, ro_52_1, ro_52_2, ro_52_3, ro_53_0, ro_55_0, ro_57_0, ro_59_0, ro_61_0, ro_61_1, ro_61_2, ro_61_3, ro_62_0, ro_64_0, ro_66_0, ro_68_0, ro_70_0, ro_70_1, ro_70_2, ro_70_3, ro_70_4, ro_70_5, ro_70_6, ro_70_7, ro_70_8, ro_70_9, ro_71_0, ro_73_0, ro_75_0, ro_77_0, ro_79_0, ro_81_0, ro_83_0, ro_85_0, ro_87_0, ro_89_0, ro_91_0, ro_91_1, ro_91_2, ro_91_3, ro_91_4, ro_91_5, ro_91_6, ro_91_7, ro_91_8, ro_91_9, ro_92_0, ro_94_0, ro_96_0, ro_98_0, ro_100_0, ro_102_0, ro_104_0, ro_106_0, ro_108_0, ro_110_0, ro_112_0, ro_112_1, ro_112_2, ro_112_3, ro_112_4, ro_112_5, ro_112_6, ro_112_7, ro_112_8, ro_112_9, ro_113_0, ro_115_0, ro_117_0, ro_119_0, ro_121_0, ro_123_0, ro_125_0, ro_127_0, ro_129_0, ro_131_0, ro_133_0, ro_133_1, ro_133_2, ro_133_3, ro_133_4, ro_133_5, ro_133_6, ro_133_7, ro_133_8, ro_133_9, ro_134_0, ro_136_0, ro_138_0, ro_140_0, ro_142_0, ro_144_0, ro_146_0, ro_148_0, ro_150_0, ro_152_0, ro_154_0, ro_155_0, ro_157_0, ro_157_1, ro_157_2, ro_157_3, ro_157_4, ro_157_5, ro_157_6, ro_157_7, ro_157_8, ro_157_9, ro_158_0, ro_160_0, ro_162_0, ro_164_0, ro_166_0, ro_168_0, ro_170_0, ro_172_0, ro_174_0, ro_176_0, ro_178_0, ro_180_0, ro_182_1, ro_182_4, ro_182_5, ro_182_6, ro_182_9, ro_182_10, ro_182_11, ro_182_13, ro_182_14, ro_182_15, ro_182_16, ro_182_17, ro_182_20, ro_182_21, ro_182_22, ro_182_23, ro_182_24, ro_182_26, ro_182_27, ro_182_28, lo_3, lo_5, lo_7, lo_9, lo_11, lo_13, lo_15, lo_17, lo_19, lo_21, lo_24, lo_26, lo_28, lo_30, lo_32, lo_34, lo_36, lo_38, lo_40, lo_42, lo_44, lo_47, lo_49, lo_51, lo_54, lo_56, lo_58, lo_60, lo_63, lo_65, lo_67, lo_69, lo_72, lo_74, lo_76, lo_78, lo_80, lo_82, lo_84, lo_86, lo_88, lo_90, lo_93, lo_95, lo_97, lo_99, lo_101, lo_103, lo_105, lo_107, lo_109, lo_111, lo_114, lo_116, lo_118, lo_120, lo_122, lo_124, lo_126, lo_128, lo_130, lo_132, lo_135, lo_137, lo_139, lo_141, lo_143, lo_145, lo_147, lo_149, lo_151, lo_153, lo_156, lo_159, lo_161, lo_163, lo_165, lo_167, lo_169, lo_171, lo_173, lo_175, lo_177, lo_179, lo_181, lo_183, lo_184, lo_185, lo_186, lo_187, lo_188, lo_189, lo_190, lo_191, lo_192, lo_193, lo_194, lo_195, lo_196, lo_197, lo_198, lo_199, lo_200, lo_201, lo_202, lo_203, jp_nn, jp_eq, jp_e1, Classical.not_not, ji0, ji1, ji2, cs46_198, kk_198, cs46_234, kk_234, cs46_237, kk_237, cs46_264, kk_264, cs46_239, kk_239, cs46_258, kk_258f, cs46_274, kk_274, cs46_298, kk_298, jl_0, jl_1, jl_2, jl_3, jl_4, jl_5, jl_6, jl_7, jl_8, jl_9, jl_10, jl_11, jl_12, jl_13, jl_14, jl_15, jl_16, jl_17, jl_18, jl_19, jl_20, jl_21, jl_22, jl_23, jl_24, jl_25, jl_26, jl_27, jl_28, jl_29, jl_30, jl_31, jl_32, jl_33, jl_34, jl_35, jl_36, jl_37, jl_38, jl_39, jl_40, jl_95, jl_96, jl_97, jl_98, jl_99, jl_100, jl_101, jl_102, jl_103, jl_104, jl_105, jl_106, jl_107, jl_108, jl_109, jl_110, jl_111, jl_112, jl_113, jl_114, jl_186, jl_1100, jr, ju, jpT, jpF, tnc, Nat.reduceEqDiff, reduceIte, and_false, false_and, not_true_eq_false, not_false_eq_true, or_false, gt_iff_lt, ge_iff_le, Int.lt_irrefl, Int.le_refl, y, and_self]
      refine ⟨D, m.toNat, rf, by omega, by omega, ?_⟩
      by_cases yv : 0 ≤ v ∧ v ≤ mostS D m
      · by_cases ys : 0 ≤ s ∧ s < h 188 2
        · simp only [qe_1, qe_3, qe_4, qe_5, qe_7, qe_72, qe_10, qe_102, qe_13, qe_14, qe_15, qe_16, qe_17, qe_18, qe_20, qe_22, qe_23, qe_21, qe_24, qe_25, qe_26, qe_27, qe_28, qe_30, qe_31, qe_32, qc_20, qc_22, qc_23, qc_21, qc_24, qc_25, qc_26, qc_27, qc_1, qc_3, qc_4, qc_7, qc_13, qc_28, qc_32, qs_1, qs_2, qs_3, qs_4, qs_5, qs_6, qs_9, qs_10, qs_11, qs_14, qs_15, qs_16, qs_27, qs_17, qs_18, qs_19, qs_20, qs_22, qs_23, qs_28, qs_25, qs_26, qs_7, qs_8, kc_1, kn_1, kc_2, kn_2, kc_3, kn_3, kc_4, kn_4, kc_5, kn_5, kc_6, kn_6, kc_7, kn_7, kc_8, kn_8, kc_9, kn_9, kc_10, kn_10, kc_11, kn_11, kc_12, kn_12, kc_13, kn_13, kc_14, kn_14, kc_15, kn_15, kc_16, kc_17, kc_18, kc_19, kc_20, kc_21, kc_22, kc_23, kc_30, kc_32, kc_40, kc_43, kc_45, kc_48, kc_52, kc_56, kc_57, kc_59, kc_60, kc_61, kc_63, kc_64, kc_72, kc_78, kc_97, kc_99, kc_122, kc_126, kc_128, kc_192, kc_200, kc_255, kc_999, kc_1000, kc_9999, kn_9999, kc_10000, kc_12345, kc_65536, kc_252645135, kc_858993459, kc_1103515245, kc_1431655765, kc_2147483647, kc_0, kc_24, kc_28, kc_37, kc_41, kc_42, kc_73, kc_91, kc_95, kc_96, kc_98, kc_100, kc_112, kc_125, kc_150, kc_162, kc_163, kc_168, kc_186, kc_190, kc_250, kc_355, kc_356, kc_404, kc_405, kc_429, kc_573, kc_1002, kc_1100, kc_1891, kc_2200, kc_4719, kc_4869, kc_4881, kc_5148, kc_19741, kc_25433, kc_320403, kc_628412, kc_629093, kc_660401, kc_679843, kc_918640, kc_979410, kc_1178088, kc_6232410, kc_24644941, kc_36238189, kc_38270444, kc_392531318, kc_425693491, kc_1342154595, kc_2147483648, kc_42328242873, kc_891704255789, kc_1722105685577, kc_1858726030364, ct_0, ct_1, ct_2, ct_3, ct_4, ct_5, cf_0, cf_1, cf_2, cf_3, cf_4, cf_5, w_ty6, w_ty7, m_sv, m_z0, m_hd, m_g0, m_gs, m_s0, m_ss, m_ap, m_an, forall_const, true_and, and_true, ne_eq, not_true_eq_false, not_false_eq_true, false_implies, true_implies, implies_true, eq_self, reduceCtorEq, Nat.reduceDiv, Nat.reduceMod, Int.reduceToNat, or_true, true_or, or_false, false_or, or_self, m_it, m_if, m_c1, m_01, m_02, m_03, m_04, m_10, m_12, m_13, m_14, m_20, m_21, m_23, m_24, m_30, m_31, m_32, m_34, m_40, m_41, m_42, m_43, Int.reduceLE, Int.reduceLT, Int.reduceGE, Int.reduceGT, Int.reduceNeg, Int.reduceAdd, Int.reduceSub, Int.reduceMul, Int.reduceEq, Int.reduceNe, Nat.reduceAdd, jun2, ro_0_0, ro_0_1, ro_0_2, ro_0_3, ro_0_4, ro_0_5, ro_0_6, ro_0_7, ro_0_8, ro_0_9, ro_0_10, ro_0_11, ro_0_12, ro_1_0, ro_1_1, ro_2_0, ro_4_0, ro_6_0, ro_6_1, ro_6_2, ro_6_3, ro_6_4, ro_6_5, ro_6_6, ro_6_7, ro_6_8, ro_8_0, ro_10_0, ro_12_0, ro_14_0, ro_16_0, ro_18_0, ro_20_0, ro_22_0, ro_22_1, ro_22_2, ro_23_0, ro_25_0, ro_27_0, ro_29_0, ro_29_1, ro_29_2, ro_29_3, ro_29_4, ro_29_5, ro_29_6, ro_29_7, ro_29_8, ro_31_0, ro_33_0, ro_35_0, ro_37_0, ro_39_0, ro_41_0, ro_43_0, ro_45_0, ro_45_1, ro_45_2, ro_46_0, ro_48_0, ro_50_0, ro_52_0, ro_52_1, ro_52_2, ro_52_3, ro_53_0, ro_55_0, ro_57_0, ro_59_0, ro_61_0, ro_61_1, ro_61_2, ro_61_3, ro_62_0, ro_64_0, ro_66_0, ro_68_0, ro_70_0, ro_70_1, ro_70_2, ro_70_3, ro_70_4, ro_70_5, ro_70_6, ro_70_7, ro_70_8, ro_70_9, ro_71_0, ro_73_0, ro_75_0, ro_77_0, ro_79_0, ro_81_0, ro_83_0, ro_85_0, ro_87_0, ro_89_0, ro_91_0, ro_91_1, ro_91_2, ro_91_3, ro_91_4, ro_91_5, ro_91_6, ro_91_7, ro_91_8, ro_91_9, ro_92_0, ro_94_0, ro_96_0, ro_98_0, ro_100_0, ro_102_0, ro_104_0, ro_106_0, ro_108_0, ro_110_0, ro_112_0, ro_112_1, ro_112_2, ro_112_3, ro_112_4, ro_112_5, ro_112_6, ro_112_7, ro_112_8, ro_112_9, ro_113_0, ro_115_0, ro_117_0, ro_119_0, ro_121_0, ro_123_0, ro_125_0, ro_127_0, ro_129_0, ro_131_0, ro_133_0, ro_133_1, ro_133_2, ro_133_3, ro_133_4, ro_133_5, ro_133_6, ro_133_7, ro_133_8, ro_133_9, ro_134_0, ro_136_0, ro_138_0, ro_140_0, ro_142_0, ro_144_0, ro_146_0, ro_148_0, ro_150_0, ro_152_0, ro_154_0, ro_155_0, ro_157_0, ro_157_1, ro_157_2, ro_157_3, ro_157_4, ro_157_5, ro_157_6, ro_157_7, ro_157_8, ro_157_9, ro_158_0, ro_160_0, ro_162_0, ro_164_0, ro_166_0, ro_168_0, ro_170_0, ro_172_0, ro_174_0, ro_176_0, ro_178_0, ro_180_0, ro_182_1, ro_182_4, ro_182_5, ro_182_6, ro_182_9, ro_182_10, ro_182_11, ro_182_13, ro_182_14, ro_182_15, ro_182_16, ro_182_17, ro_182_20, ro_182_21, ro_182_22, ro_182_23, ro_182_24, ro_182_26, ro_182_27, ro_182_28, lo_3, lo_5, lo_7, lo_9, lo_11, lo_13, lo_15, lo_17, lo_19, lo_21, lo_24, lo_26, lo_28, lo_30, lo_32, lo_34, lo_36, lo_38, lo_40, lo_42, lo_44, lo_47, lo_49, lo_51, lo_54, lo_56, lo_58, lo_60, lo_63, lo_65, lo_67, lo_69, lo_72, lo_74, lo_76, lo_78, lo_80, lo_82, lo_84, lo_86, lo_88, lo_90, lo_93, lo_95, lo_97, lo_99, lo_101, lo_103, lo_105, lo_107, lo_109, lo_111, lo_114, lo_116, lo_118, lo_120, lo_122, lo_124, lo_126, lo_128, lo_130, lo_132, lo_135, lo_137, lo_139, lo_141, lo_143, lo_145, lo_147, lo_149, lo_151, lo_153, lo_156, lo_159, lo_161, lo_163, lo_165, lo_167, lo_169, lo_171, lo_173, lo_175, lo_177, lo_179, lo_181, lo_183, lo_184, lo_185, lo_186, lo_187, lo_188, lo_189, lo_190, lo_191, lo_192, lo_193, lo_194, lo_195, lo_196, lo_197, lo_198, lo_199, lo_200, lo_201, lo_202, lo_203, jp_nn, jp_eq, jp_e1, Classical.not_not, ji0, ji1, ji2, cs46_198, kk_198, cs46_234, kk_234, cs46_237, kk_237, cs46_264, kk_264, cs46_239, kk_239, cs46_258, kk_258f, cs46_274, kk_274, cs46_298, kk_298, jl_0, jl_1, jl_2, jl_3, jl_4, jl_5, jl_6, jl_7, jl_8, jl_9, jl_10, jl_11, jl_12, jl_13, jl_14, jl_15, jl_16, jl_17, jl_18, jl_19, jl_20, jl_21, jl_22, jl_23, jl_24, jl_25, jl_26, jl_27, jl_28, jl_29, jl_30, jl_31, jl_32, jl_33, jl_34, jl_35, jl_36, jl_37, jl_38, jl_39, jl_40, jl_95, jl_96, jl_97, jl_98, jl_99, jl_100, jl_101, jl_102, jl_103, jl_104, jl_105, jl_106, jl_107, jl_108, jl_109, jl_110, jl_111, jl_112, jl_113, jl_114, jl_186, jl_1100, jr, ju, jpT, jpF, tnc, Nat.reduceEqDiff, reduceIte, and_false, false_and, not_true_eq_false, not_false_eq_true, or_false, gt_iff_lt, ge_iff_le, Int.lt_irrefl, Int.le_refl, yv, ys, and_self]
          intro h1 op_w
          refine ⟨4719, m.toNat, p.toNat, rfl, by decide, by omega, by omega, by omega, by omega, ?_⟩
          intro _ _ h2 f2_w _ _ _ h3 f3_w _
          exact hQ _ _ _ (BKq.tr (BKq.u (fun z => by omega)) (BKq.tr op_w.bk (BKq.tr (BKq.u (fun z => by omega)) (BKq.tr (BKq.fr f2_w (by decide)) (BKq.fr f3_w (by decide))))))
        · simp only [qe_1, qe_3, qe_4, qe_5, qe_7, qe_72, qe_10, qe_102, qe_13, qe_14, qe_15, qe_16, qe_17, qe_18, qe_20, qe_22, qe_23, qe_21, qe_24, qe_25, qe_26, qe_27, qe_28, qe_30, qe_31, qe_32, qc_20, qc_22, qc_23, qc_21, qc_24, qc_25, qc_26, qc_27, qc_1, qc_3, qc_4, qc_7, qc_13, qc_28, qc_32, qs_1, qs_2, qs_3, qs_4, qs_5, qs_6, qs_9, qs_10, qs_11, qs_14, qs_15, qs_16, qs_27, qs_17, qs_18, qs_19, qs_20, qs_22, qs_23, qs_28, qs_25, qs_26, qs_7, qs_8, kc_1, kn_1, kc_2, kn_2, kc_3, kn_3, kc_4, kn_4, kc_5, kn_5, kc_6, kn_6, kc_7, kn_7, kc_8, kn_8, kc_9, kn_9, kc_10, kn_10, kc_11, kn_11, kc_12, kn_12, kc_13, kn_13, kc_14, kn_14, kc_15, kn_15, kc_16, kc_17, kc_18, kc_19, kc_20, kc_21, kc_22, kc_23, kc_30, kc_32, kc_40, kc_43, kc_45, kc_48, kc_52, kc_56, kc_57, kc_59, kc_60, kc_61, kc_63, kc_64, kc_72, kc_78, kc_97, kc_99, kc_122, kc_126, kc_128, kc_192, kc_200, kc_255, kc_999, kc_1000, kc_9999, kn_9999, kc_10000, kc_12345, kc_65536, kc_252645135, kc_858993459, kc_1103515245, kc_1431655765, kc_2147483647, kc_0, kc_24, kc_28, kc_37, kc_41, kc_42, kc_73, kc_91, kc_95, kc_96, kc_98, kc_100, kc_112, kc_125, kc_150, kc_162, kc_163, kc_168, kc_186, kc_190, kc_250, kc_355, kc_356, kc_404, kc_405, kc_429, kc_573, kc_1002, kc_1100, kc_1891, kc_2200, kc_4719, kc_4869, kc_4881, kc_5148, kc_19741, kc_25433, kc_320403, kc_628412, kc_629093, kc_660401, kc_679843, kc_918640, kc_979410, kc_1178088, kc_6232410, kc_24644941, kc_36238189, kc_38270444, kc_392531318, kc_425693491, kc_1342154595, kc_2147483648, kc_42328242873, kc_891704255789, kc_1722105685577, kc_1858726030364, ct_0, ct_1, ct_2, ct_3, ct_4, ct_5, cf_0, cf_1, cf_2, cf_3, cf_4, cf_5, w_ty6, w_ty7, m_sv, m_z0, m_hd, m_g0, m_gs, m_s0, m_ss, m_ap, m_an, forall_const, true_and, and_true, ne_eq, not_true_eq_false, not_false_eq_true, false_implies, true_implies, implies_true, eq_self, reduceCtorEq, Nat.reduceDiv, Nat.reduceMod, Int.reduceToNat, or_true, true_or, or_false, false_or, or_self, m_it, m_if, m_c1, m_01, m_02, m_03, m_04, m_10, m_12, m_13, m_14, m_20, m_21, m_23, m_24, m_30, m_31, m_32, m_34, m_40, m_41, m_42, m_43, Int.reduceLE, Int.reduceLT, Int.reduceGE, Int.reduceGT, Int.reduceNeg, Int.reduceAdd, Int.reduceSub, Int.reduceMul, Int.reduceEq, Int.reduceNe, Nat.reduceAdd, jun2, ro_0_0, ro_0_1, ro_0_2, ro_0_3, ro_0_4, ro_0_5, ro_0_6, ro_0_7, ro_0_8, ro_0_9, ro_0_10, ro_0_11, ro_0_12, ro_1_0, ro_1_1, ro_2_0, ro_4_0, ro_6_0, ro_6_1, ro_6_2, ro_6_3, ro_6_4, ro_6_5, ro_6_6, ro_6_7, ro_6_8, ro_8_0, ro_10_0, ro_12_0, ro_14_0, ro_16_0, ro_18_0, ro_20_0, ro_22_0, ro_22_1, ro_22_2, ro_23_0, ro_25_0, ro_27_0, ro_29_0, ro_29_1, ro_29_2, ro_29_3, ro_29_4, ro_29_5, ro_29_6, ro_29_7, ro_29_8, ro_31_0, ro_33_0, ro_35_0, ro_37_0, ro_39_0, ro_41_0, ro_43_0, ro_45_0, ro_45_1, ro_45_2, ro_46_0, ro_48_0, ro_50_0, ro_52_0, ro_52_1, ro_52_2, ro_52_3, ro_53_0, ro_55_0, ro_57_0, ro_59_0, ro_61_0, ro_61_1, ro_61_2, ro_61_3, ro_62_0, ro_64_0, ro_66_0, ro_68_0, ro_70_0, ro_70_1, ro_70_2, ro_70_3, ro_70_4, ro_70_5, ro_70_6, ro_70_7, ro_70_8, ro_70_9, ro_71_0, ro_73_0, ro_75_0, ro_77_0, ro_79_0, ro_81_0, ro_83_0, ro_85_0, ro_87_0, ro_89_0, ro_91_0, ro_91_1, ro_91_2, ro_91_3, ro_91_4, ro_91_5, ro_91_6, ro_91_7, ro_91_8, ro_91_9, ro_92_0, ro_94_0, ro_96_0, ro_98_0, ro_100_0, ro_102_0, ro_104_0, ro_106_0, ro_108_0, ro_110_0, ro_112_0, ro_112_1, ro_112_2, ro_112_3, ro_112_4, ro_112_5, ro_112_6, ro_112_7, ro_112_8, ro_112_9, ro_113_0, ro_115_0, ro_117_0, ro_119_0, ro_121_0, ro_123_0, ro_125_0, ro_127_0, ro_129_0, ro_131_0, ro_133_0, ro_133_1, ro_133_2, ro_133_3, ro_133_4, ro_133_5, ro_133_6, ro_133_7, ro_133_8, ro_133_9, ro_134_0, ro_136_0, ro_138_0, ro_140_0, ro_142_0, ro_144_0, ro_146_0, ro_148_0, ro_150_0, ro_152_0, ro_154_0, ro_155_0, ro_157_0, ro_157_1, ro_157_2, ro_157_3, ro_157_4, ro_157_5, ro_157_6, ro_157_7, ro_157_8, ro_157_9, ro_158_0, ro_160_0, ro_162_0, ro_164_0, ro_166_0, ro_168_0, ro_170_0, ro_172_0, ro_174_0, ro_176_0, ro_178_0, ro_180_0, ro_182_1, ro_182_4, ro_182_5, ro_182_6, ro_182_9, ro_182_10, ro_182_11, ro_182_13, ro_182_14, ro_182_15, ro_182_16, ro_182_17, ro_182_20, ro_182_21, ro_182_22, ro_182_23, ro_182_24, ro_182_26, ro_182_27, ro_182_28, lo_3, lo_5, lo_7, lo_9, lo_11, lo_13, lo_15, lo_17, lo_19, lo_21, lo_24, lo_26, lo_28, lo_30, lo_32, lo_34, lo_36, lo_38, lo_40, lo_42, lo_44, lo_47, lo_49, lo_51, lo_54, lo_56, lo_58, lo_60, lo_63, lo_65, lo_67, lo_69, lo_72, lo_74, lo_76, lo_78, lo_80, lo_82, lo_84, lo_86, lo_88, lo_90, lo_93, lo_95, lo_97, lo_99, lo_101, lo_103, lo_105, lo_107, lo_109, lo_111, lo_114, lo_116, lo_118, lo_120, lo_122, lo_124, lo_126, lo_128, lo_130, lo_132, lo_135, lo_137, lo_139, lo_141, lo_143, lo_145, lo_147, lo_149, lo_151, lo_153, lo_156, lo_159, lo_161, lo_163, lo_165, lo_167, lo_169, lo_171, lo_173, lo_175, lo_177, lo_179, lo_181, lo_183, lo_184, lo_185, lo_186, lo_187, lo_188, lo_189, lo_190, lo_191, lo_192, lo_193, lo_194, lo_195, lo_196, lo_197, lo_198, lo_199, lo_200, lo_201, lo_202, lo_203, jp_nn, jp_eq, jp_e1, Classical.not_not, ji0, ji1, ji2, cs46_198, kk_198, cs46_234, kk_234, cs46_237, kk_237, cs46_264, kk_264, cs46_239, kk_239, cs46_258, kk_258f, cs46_274, kk_274, cs46_298, kk_298, jl_0, jl_1, jl_2, jl_3, jl_4, jl_5, jl_6, jl_7, jl_8, jl_9, jl_10, jl_11, jl_12, jl_13, jl_14, jl_15, jl_16, jl_17, jl_18, jl_19, jl_20, jl_21, jl_22, jl_23, jl_24, jl_25, jl_26, jl_27, jl_28, jl_29, jl_30, jl_31, jl_32, jl_33, jl_34, jl_35, jl_36, jl_37, jl_38, jl_39, jl_40, jl_95, jl_96, jl_97, jl_98, jl_99, jl_100, jl_101, jl_102, jl_103, jl_104, jl_105, jl_106, jl_107, jl_108, jl_109, jl_110, jl_111, jl_112, jl_113, jl_114, jl_186, jl_1100, jr, ju, jpT, jpF, tnc, Nat.reduceEqDiff, reduceIte, and_false, false_and, not_true_eq_false, not_false_eq_true, or_false, gt_iff_lt, ge_iff_le, Int.lt_irrefl, Int.le_refl, yv, ys, and_self]
          exact hQ _ _ _ (BKq.u (fun z => by omega))
      · simp only [qe_1, qe_3, qe_4, qe_5, qe_7, qe_72, qe_10, qe_102, qe_13, qe_14, qe_15, qe_16, qe_17, qe_18, qe_20, qe_22, qe_23, qe_21, qe_24, qe_25, qe_26, qe_27, qe_28, qe_30, qe_31, qe_32, qc_20, qc_22, qc_23, qc_21, qc_24, qc_25, qc_26, qc_27, qc_1, qc_3, qc_4, qc_7, qc_13, qc_28, qc_32, qs_1, qs_2, qs_3, qs_4, qs_5, qs_6, qs_9, qs_10, qs_11, qs_14, qs_15, qs_16, qs_27, qs_17, qs_18, qs_19, qs_20, qs_22, qs_23, qs_28, qs_25, qs_26, qs_7, qs_8, kc_1, kn_1, kc_2, kn_2, kc_3, kn_3, kc_4, kn_4, kc_5, kn_5, kc_6, kn_6, kc_7, kn_7, kc_8, kn_8, kc_9, kn_9, kc_10, kn_10, kc_11, kn_11, kc_12, kn_12, kc_13, kn_13, kc_14, kn_14, kc_15, kn_15, kc_16, kc_17, kc_18, kc_19, kc_20, kc_21, kc_22, kc_23, kc_30, kc_32, kc_40, kc_43, kc_45, kc_48, kc_52, kc_56, kc_57, kc_59, kc_60, kc_61, kc_63, kc_64, kc_72, kc_78, kc_97, kc_99, kc_122, kc_126, kc_128, kc_192, kc_200, kc_255, kc_999, kc_1000, kc_9999, kn_9999, kc_10000, kc_12345, kc_65536, kc_252645135, kc_858993459, kc_1103515245, kc_1431655765, kc_2147483647, kc_0, kc_24, kc_28, kc_37, kc_41, kc_42, kc_73, kc_91, kc_95, kc_96, kc_98, kc_100, kc_112, kc_125, kc_150, kc_162, kc_163, kc_168, kc_186, kc_190, kc_250, kc_355, kc_356, kc_404, kc_405, kc_429, kc_573, kc_1002, kc_1100, kc_1891, kc_2200, kc_4719, kc_4869, kc_4881, kc_5148, kc_19741, kc_25433, kc_320403, kc_628412, kc_629093, kc_660401, kc_679843, kc_918640, kc_979410, kc_1178088, kc_6232410, kc_24644941, kc_36238189, kc_38270444, kc_392531318, kc_425693491, kc_1342154595, kc_2147483648, kc_42328242873, kc_891704255789, kc_1722105685577, kc_1858726030364, ct_0, ct_1, ct_2, ct_3, ct_4, ct_5, cf_0, cf_1, cf_2, cf_3, cf_4, cf_5, w_ty6, w_ty7, m_sv, m_z0, m_hd, m_g0, m_gs, m_s0, m_ss, m_ap, m_an, forall_const, true_and, and_true, ne_eq, not_true_eq_false, not_false_eq_true, false_implies, true_implies, implies_true, eq_self, reduceCtorEq, Nat.reduceDiv, Nat.reduceMod, Int.reduceToNat, or_true, true_or, or_false, false_or, or_self, m_it, m_if, m_c1, m_01, m_02, m_03, m_04, m_10, m_12, m_13, m_14, m_20, m_21, m_23, m_24, m_30, m_31, m_32, m_34, m_40, m_41, m_42, m_43, Int.reduceLE, Int.reduceLT, Int.reduceGE, Int.reduceGT, Int.reduceNeg, Int.reduceAdd, Int.reduceSub, Int.reduceMul, Int.reduceEq, Int.reduceNe, Nat.reduceAdd, jun2, ro_0_0, ro_0_1, ro_0_2, ro_0_3, ro_0_4, ro_0_5, ro_0_6, ro_0_7, ro_0_8, ro_0_9, ro_0_10, ro_0_11, ro_0_12, ro_1_0, ro_1_1, ro_2_0, ro_4_0, ro_6_0, ro_6_1, ro_6_2, ro_6_3, ro_6_4, ro_6_5, ro_6_6, ro_6_7, ro_6_8, ro_8_0, ro_10_0, ro_12_0, ro_14_0, ro_16_0, ro_18_0, ro_20_0, ro_22_0, ro_22_1, ro_22_2, ro_23_0, ro_25_0, ro_27_0, ro_29_0, ro_29_1, ro_29_2, ro_29_3, ro_29_4, ro_29_5, ro_29_6, ro_29_7, ro_29_8, ro_31_0, ro_33_0, ro_35_0, ro_37_0, ro_39_0, ro_41_0, ro_43_0, ro_45_0, ro_45_1, ro_45_2, ro_46_0, ro_48_0, ro_50_0, ro_52_0, ro_52_1, ro_52_2, ro_52_3, ro_53_0, ro_55_0, ro_57_0, ro_59_0, ro_61_0, ro_61_1, ro_61_2, ro_61_3, ro_62_0, ro_64_0, ro_66_0, ro_68_0, ro_70_0, ro_70_1, ro_70_2, ro_70_3, ro_70_4, ro_70_5, ro_70_6, ro_70_7, ro_70_8, ro_70_9, ro_71_0, ro_73_0, ro_75_0, ro_77_0, ro_79_0, ro_81_0, ro_83_0, ro_85_0, ro_87_0, ro_89_0, ro_91_0, ro_91_1, ro_91_2, ro_91_3, ro_91_4, ro_91_5, ro_91_6, ro_91_7, ro_91_8, ro_91_9, ro_92_0, ro_94_0, ro_96_0, ro_98_0, ro_100_0, ro_102_0, ro_104_0, ro_106_0, ro_108_0, ro_110_0, ro_112_0, ro_112_1, ro_112_2, ro_112_3, ro_112_4, ro_112_5, ro_112_6, ro_112_7, ro_112_8, ro_112_9, ro_113_0, ro_115_0, ro_117_0, ro_119_0, ro_121_0, ro_123_0, ro_125_0, ro_127_0, ro_129_0, ro_131_0, ro_133_0, ro_133_1, ro_133_2, ro_133_3, ro_133_4, ro_133_5, ro_133_6, ro_133_7, ro_133_8, ro_133_9, ro_134_0, ro_136_0, ro_138_0, ro_140_0, ro_142_0, ro_144_0, ro_146_0, ro_148_0, ro_150_0, ro_152_0, ro_154_0, ro_155_0, ro_157_0, ro_157_1, ro_157_2, ro_157_3, ro_157_4, ro_157_5, ro_157_6, ro_157_7, ro_157_8, ro_157_9, ro_158_0, ro_160_0, ro_162_0, ro_164_0, ro_166_0, ro_168_0, ro_170_0, ro_172_0, ro_174_0, ro_176_0, ro_178_0, ro_180_0, ro_182_1, ro_182_4, ro_182_5, ro_182_6, ro_182_9, ro_182_10, ro_182_11, ro_182_13, ro_182_14, ro_182_15, ro_182_16, ro_182_17, ro_182_20, ro_182_21, ro_182_22, ro_182_23, ro_182_24, ro_182_26, ro_182_27, ro_182_28, lo_3, lo_5, lo_7, lo_9, lo_11, lo_13, lo_15, lo_17, lo_19, lo_21, lo_24, lo_26, lo_28, lo_30, lo_32, lo_34, lo_36, lo_38, lo_40, lo_42, lo_44, lo_47, lo_49, lo_51, lo_54, lo_56, lo_58, lo_60, lo_63, lo_65, lo_67, lo_69, lo_72, lo_74, lo_76, lo_78, lo_80, lo_82, lo_84, lo_86, lo_88, lo_90, lo_93, lo_95, lo_97, lo_99, lo_101, lo_103, lo_105, lo_107, lo_109, lo_111, lo_114, lo_116, lo_118, lo_120, lo_122, lo_124, lo_126, lo_128, lo_130, lo_132, lo_135, lo_137, lo_139, lo_141, lo_143, lo_145, lo_147, lo_149, lo_151, lo_153, lo_156, lo_159, lo_161, lo_163, lo_165, lo_167, lo_169, lo_171, lo_173, lo_175, lo_177, lo_179, lo_181, lo_183, lo_184, lo_185, lo_186, lo_187, lo_188, lo_189, lo_190, lo_191, lo_192, lo_193, lo_194, lo_195, lo_196, lo_197, lo_198, lo_199, lo_200, lo_201, lo_202, lo_203, jp_nn, jp_eq, jp_e1, Classical.not_not, ji0, ji1, ji2, cs46_198, kk_198, cs46_234, kk_234, cs46_237, kk_237, cs46_264, kk_264, cs46_239, kk_239, cs46_258, kk_258f, cs46_274, kk_274, cs46_298, kk_298, jl_0, jl_1, jl_2, jl_3, jl_4, jl_5, jl_6, jl_7, jl_8, jl_9, jl_10, jl_11, jl_12, jl_13, jl_14, jl_15, jl_16, jl_17, jl_18, jl_19, jl_20, jl_21, jl_22, jl_23, jl_24, jl_25, jl_26, jl_27, jl_28, jl_29, jl_30, jl_31, jl_32, jl_33, jl_34, jl_35, jl_36, jl_37, jl_38, jl_39, jl_40, jl_95, jl_96, jl_97, jl_98, jl_99, jl_100, jl_101, jl_102, jl_103, jl_104, jl_105, jl_106, jl_107, jl_108, jl_109, jl_110, jl_111, jl_112, jl_113, jl_114, jl_186, jl_1100, jr, ju, jpT, jpF, tnc, Nat.reduceEqDiff, reduceIte, and_false, false_and, not_true_eq_false, not_false_eq_true, or_false, gt_iff_lt, ge_iff_le, Int.lt_irrefl, Int.le_refl, yv]
        exact hQ _ _ _ (BKq.u (fun z => by omega))
    · simp only [qe_1, qe_3, qe_4, qe_5, qe_7, qe_72, qe_10, qe_102, qe_13, qe_14, qe_15, qe_16, qe_17, qe_18, qe_20, qe_22, qe_23, qe_21, qe_24, qe_25, qe_26, qe_27, qe_28, qe_30, qe_31, qe_32, qc_20, qc_22, qc_23, qc_21, qc_24, qc_25, qc_26, qc_27, qc_1, qc_3, qc_4, qc_7, qc_13, qc_28, qc_32, qs_1, qs_2, qs_3, qs_4, qs_5, qs_6, qs_9, qs_10, qs_11, qs_14, qs_15, qs_16, qs_27, qs_17, qs_18, qs_19, qs_20, qs_22, qs_23, qs_28, qs_25, qs_26, qs_7, qs_8, kc_1, kn_1, kc_2, kn_2, kc_3, kn_3, kc_4, kn_4, kc_5, kn_5, kc_6, kn_6, kc_7, kn_7, kc_8, kn_8, kc_9, kn_9, kc_10, kn_10, kc_11, kn_11, kc_12, kn_12, kc_13, kn_13, kc_14, kn_14, kc_15, kn_15, kc_16, kc_17, kc_18, kc_19, kc_20, kc_21, kc_22, kc_23, kc_30, kc_32, kc_40, kc_43, kc_45, kc_48, kc_52, kc_56, kc_57, kc_59, kc_60, kc_61, kc_63, kc_64, kc_72, kc_78, kc_97, kc_99, kc_122, kc_126, kc_128, kc_192, kc_200, kc_255, kc_999, kc_1000, kc_9999, kn_9999, kc_10000, kc_12345, kc_65536, kc_252645135, kc_858993459, kc_1103515245, kc_1431655765, kc_2147483647, kc_0, kc_24, kc_28, kc_37, kc_41, kc_42, kc_73, kc_91, kc_95, kc_96, kc_98, kc_100, kc_112, kc_125, kc_150, kc_162, kc_163, kc_168, kc_186, kc_190, kc_250, kc_355, kc_356, kc_404, kc_405, kc_429, kc_573, kc_1002, kc_1100, kc_1891, kc_2200, kc_4719, kc_4869, kc_4881, kc_5148, kc_19741, kc_25433, kc_320403, kc_628412, kc_629093, kc_660401, kc_679843, kc_918640, kc_979410, kc_1178088, kc_6232410, kc_24644941, kc_36238189, kc_38270444, kc_392531318, kc_425693491, kc_1342154595, kc_2147483648, kc_42328242873, kc_891704255789, kc_1722105685577, kc_1858726030364, ct_0, ct_1, ct_2, ct_3, ct_4, ct_5, cf_0, cf_1, cf_2, cf_3, cf_4, cf_5, w_ty6, w_ty7, m_sv, m_z0, m_hd, m_g0, m_gs, m_s0, m_ss, m_ap, m_an, forall_const, true_and, and_true, ne_eq, not_true_eq_false, not_false_eq_true, false_implies, true_implies, implies_true, eq_self, reduceCtorEq, Nat.reduceDiv, Nat.reduceMod, Int.reduceToNat, or_true, true_or, or_false, false_or, or_self, m_it, m_if, m_c1, m_01, m_02, m_03, m_04, m_10, m_12, m_13, m_14, m_20, m_21, m_23, m_24, m_30, m_31, m_32, m_34, m_40, m_41, m_42, m_43, Int.reduceLE, Int.reduceLT, Int.reduceGE, Int.reduceGT, Int.reduceNeg, Int.reduceAdd, Int.reduceSub, Int.reduceMul, Int.reduceEq, Int.reduceNe, Nat.reduceAdd, jun2, ro_0_0, ro_0_1, ro_0_2, ro_0_3, ro_0_4, ro_0_5, ro_0_6, ro_0_7, ro_0_8, ro_0_9, ro_0_10, ro_0_11, ro_0_12, ro_1_0, ro_1_1, ro_2_0, ro_4_0, ro_6_0, ro_6_1, ro_6_2, ro_6_3, ro_6_4, ro_6_5, ro_6_6, ro_6_7, ro_6_8, ro_8_0, ro_10_0, ro_12_0, ro_14_0, ro_16_0, ro_18_0, ro_20_0, ro_22_0, ro_22_1, ro_22_2, ro_23_0, ro_25_0, ro_27_0, ro_29_0, ro_29_1, ro_29_2, ro_29_3, ro_29_4, ro_29_5, ro_29_6, ro_29_7, ro_29_8, ro_31_0, ro_33_0, ro_35_0, ro_37_0, ro_39_0, ro_41_0, ro_43_0, ro_45_0, ro_45_1, ro_45_2, ro_46_0, ro_48_0, ro_50_0, ro_52_0, ro_52_1, ro_52_2, ro_52_3, ro_53_0, ro_55_0, ro_57_0, ro_59_0, ro_61_0, ro_61_1, ro_61_2, ro_61_3, ro_62_0, ro_64_0, ro_66_0, ro_68_0, ro_70_0, ro_70_1, ro_70_2, ro_70_3, ro_70_4, ro_70_5, ro_70_6, ro_70_7, ro_70_8, ro_70_9, ro_71_0, ro_73_0, ro_75_0, ro_77_0, ro_79_0, ro_81_0, ro_83_0, ro_85_0, ro_87_0, ro_89_0, ro_91_0, ro_91_1, ro_91_2, ro_91_3, ro_91_4, ro_91_5, ro_91_6, ro_91_7, ro_91_8, ro_91_9, ro_92_0, ro_94_0, ro_96_0, ro_98_0, ro_100_0, ro_102_0, ro_104_0, ro_106_0, ro_108_0, ro_110_0, ro_112_0, ro_112_1, ro_112_2, ro_112_3, ro_112_4, ro_112_5, ro_112_6, ro_112_7, ro_112_8, ro_112_9, ro_113_0, ro_115_0, ro_117_0, ro_119_0, ro_121_0, ro_123_0, ro_125_0, ro_127_0, ro_129_0, ro_131_0, ro_133_0, ro_133_1, ro_133_2, ro_133_3, ro_133_4, ro_133_5, ro_133_6, ro_133_7, ro_133_8, ro_133_9, ro_134_0, ro_136_0, ro_138_0, ro_140_0, ro_142_0, ro_144_0, ro_146_0, ro_148_0, ro_150_0, ro_152_0, ro_154_0, ro_155_0, ro_157_0, ro_157_1, ro_157_2, ro_157_3, ro_157_4, ro_157_5, ro_157_6, ro_157_7, ro_157_8, ro_157_9, ro_158_0, ro_160_0, ro_162_0, ro_164_0, ro_166_0, ro_168_0, ro_170_0, ro_172_0, ro_174_0, ro_176_0, ro_178_0, ro_180_0, ro_182_1, ro_182_4, ro_182_5, ro_182_6, ro_182_9, ro_182_10, ro_182_11, ro_182_13, ro_182_14, ro_182_15, ro_182_16, ro_182_17, ro_182_20, ro_182_21, ro_182_22, ro_182_23, ro_182_24, ro_182_26, ro_182_27, ro_182_28, lo_3, lo_5, lo_7, lo_9, lo_11, lo_13, lo_15, lo_17, lo_19, lo_21, lo_24, lo_26, lo_28, lo_30, lo_32, lo_34, lo_36, lo_38, lo_40, lo_42, lo_44, lo_47, lo_49, lo_51, lo_54, lo_56, lo_58, lo_60, lo_63, lo_65, lo_67, lo_69, lo_72, lo_74, lo_76, lo_78, lo_80, lo_82, lo_84, lo_86, lo_88, lo_90, lo_93, lo_95, lo_97, lo_99, lo_101, lo_103, lo_105, lo_107, lo_109, lo_111, lo_114, lo_116, lo_118, lo_120, lo_122, lo_124, lo_126, lo_128, lo_130, lo_132, lo_135, lo_137, lo_139, lo_141, lo_143, lo_145, lo_147, lo_149, lo_151, lo_153, lo_156, lo_159, lo_161, lo_163, lo_165, lo_167, lo_169, lo_171, lo_173, lo_175, lo_177, lo_179, lo_181, lo_183, lo_184, lo_185, lo_186, lo_187, lo_188, lo_189, lo_190, lo_191, lo_192, lo_193, lo_194, lo_195, lo_196, lo_197, lo_198, lo_199, lo_200, lo_201, lo_202, lo_203, jp_nn, jp_eq, jp_e1, Classical.not_not, ji0, ji1, ji2, cs46_198, kk_198, cs46_234, kk_234, cs46_237, kk_237, cs46_264, kk_264, cs46_239, kk_239, cs46_258, kk_258f, cs46_274, kk_274, cs46_298, kk_298, jl_0, jl_1, jl_2, jl_3, jl_4, jl_5, jl_6, jl_7, jl_8, jl_9, jl_10, jl_11, jl_12, jl_13, jl_14, jl_15, jl_16, jl_17, jl_18, jl_19, jl_20, jl_21, jl_22, jl_23, jl_24, jl_25, jl_26, jl_27, jl_28, jl_29, jl_30, jl_31, jl_32, jl_33, jl_34, jl_35, jl_36, jl_37, jl_38, jl_39, jl_40, jl_95, jl_96, jl_97, jl_98, jl_99, jl_100, jl_101, jl_102, jl_103, jl_104, jl_105, jl_106, jl_107, jl_108, jl_109, jl_110, jl_111, jl_112, jl_113, jl_114, jl_186, jl_1100, jr, ju, jpT, jpF, tnc, Nat.reduceEqDiff, reduceIte, and_false, false_and, not_true_eq_false, not_false_eq_true, or_false, gt_iff_lt, ge_iff_le, Int.lt_irrefl, Int.le_refl, y]
      exact hQ _ _ _ (BKq.u (fun z => by omega))
  · exact hQ.elim
theorem m_300b : BodyOK CS46 CS46 300 := fun av h Q hQ => by
  rw [cs46_300] at hQ
  unfold k300b at hQ
  split at hQ
  · rename_i t m s
    obtain ⟨rfl, h6, hQ⟩ := hQ
    show pS CS46 bb_300 [182, m, s] h _
    unfold bb_300
    by_cases y : 0 ≤ m ∧ m < h 188 3
    · by_cases ys : 0 ≤ s ∧ s < h 188 2
      · simp only [qe_1, qe_3, qe_4, qe_5, qe_7, qe_72, qe_10, qe_102, qe_13, qe_14, qe_15, qe_16, qe_17, qe_18, qe_20, qe_22, qe_23, qe_21, qe_24, qe_25, qe_26, qe_27, qe_28, qe_30, qe_31, qe_32, qc_20, qc_22, qc_23, qc_21, qc_24, qc_25, qc_26, qc_27, qc_1, qc_3, qc_4, qc_7, qc_13, qc_28, qc_32, qs_1, qs_2, qs_3, qs_4, qs_5, qs_6, qs_9, qs_10, qs_11, qs_14, qs_15, qs_16, qs_27, qs_17, qs_18, qs_19, qs_20, qs_22, qs_23, qs_28, qs_25, qs_26, qs_7, qs_8, kc_1, kn_1, kc_2, kn_2, kc_3, kn_3, kc_4, kn_4, kc_5, kn_5, kc_6, kn_6, kc_7, kn_7, kc_8, kn_8, kc_9, kn_9, kc_10, kn_10, kc_11, kn_11, kc_12, kn_12, kc_13, kn_13, kc_14, kn_14, kc_15, kn_15, kc_16, kc_17, kc_18, kc_19, kc_20, kc_21, kc_22, kc_23, kc_30, kc_32, kc_40, kc_43, kc_45, kc_48, kc_52, kc_56, kc_57, kc_59, kc_60, kc_61, kc_63, kc_64, kc_72, kc_78, kc_97, kc_99, kc_122, kc_126, kc_128, kc_192, kc_200, kc_255, kc_999, kc_1000, kc_9999, kn_9999, kc_10000, kc_12345, kc_65536, kc_252645135, kc_858993459, kc_1103515245, kc_1431655765, kc_2147483647, kc_0, kc_24, kc_28, kc_37, kc_41, kc_42, kc_73, kc_91, kc_95, kc_96, kc_98, kc_100, kc_112, kc_125, kc_150, kc_162, kc_163, kc_168, kc_186, kc_190, kc_250, kc_355, kc_356, kc_404, kc_405, kc_429, kc_573, kc_1002, kc_1100, kc_1891, kc_2200, kc_4719, kc_4869, kc_4881, kc_5148, kc_19741, kc_25433, kc_320403, kc_628412, kc_629093, kc_660401, kc_679843, kc_918640, kc_979410, kc_1178088, kc_6232410, kc_24644941, kc_36238189, kc_38270444, kc_392531318, kc_425693491, kc_1342154595, kc_2147483648, kc_42328242873, kc_891704255789, kc_1722105685577, kc_1858726030364, ct_0, ct_1, ct_2, ct_3, ct_4, ct_5, cf_0, cf_1, cf_2, cf_3, cf_4, cf_5, w_ty6, w_ty7, m_sv, m_z0, m_hd, m_g0, m_gs, m_s0, m_ss, m_ap, m_an, forall_const, true_and, and_true, ne_eq, not_true_eq_false, not_false_eq_true, false_implies, true_implies, implies_true, eq_self, reduceCtorEq, Nat.reduceDiv, Nat.reduceMod, Int.reduceToNat, or_true, true_or, or_false, false_or, or_self, m_it, m_if, m_c1, m_01, m_02, m_03, m_04, m_10, m_12, m_13, m_14, m_20, m_21, m_23, m_24, m_30, m_31, m_32, m_34, m_40, m_41, m_42, m_43, Int.reduceLE, Int.reduceLT, Int.reduceGE, Int.reduceGT, Int.reduceNeg, Int.reduceAdd, Int.reduceSub, Int.reduceMul, Int.reduceEq, Int.reduceNe, Nat.reduceAdd, jun2, ro_0_0, ro_0_1, ro_0_2, ro_0_3, ro_0_4, ro_0_5, ro_0_6, ro_0_7, ro_0_8, ro_0_9, ro_0_10, ro_0_11, ro_0_12, ro_1_0, ro_1_1, ro_2_0, ro_4_0, ro_6_0, ro_6_1, ro_6_2, ro_6_3, ro_6_4, ro_6_5, ro_6_6, ro_6_7, ro_6_8, ro_8_0, ro_10_0, ro_12_0, ro_14_0, ro_16_0, ro_18_0, ro_20_0, ro_22_0, ro_22_1, ro_22_2, ro_23_0, ro_25_0, ro_27_0, ro_29_0, ro_29_1, ro_29_2, ro_29_3, ro_29_4, ro_29_5, ro_29_6, ro_29_7, ro_29_8, ro_31_0, ro_33_0, ro_35_0, ro_37_0, ro_39_0, ro_41_0, ro_43_0, ro_45_0, ro_45_1, ro_45_2, ro_46_0, ro_48_0, ro_50_0, ro_52_0, ro_52_1, ro_52_2, ro_52_3, ro_53_0, ro_55_0, ro_57_0, ro_59_0, ro_61_0, ro_61_1, ro_61_2, ro_61_3, ro_62_0, ro_64_0, ro_66_0, ro_68_0, ro_70_0, ro_70_1, ro_70_2, ro_70_3, ro_70_4, ro_70_5, ro_70_6, ro_70_7, ro_70_8, ro_70_9, ro_71_0, ro_73_0, ro_75_0, ro_77_0, ro_79_0, ro_81_0, ro_83_0, ro_85_0, ro_87_0, ro_89_0, ro_91_0, ro_91_1, ro_91_2, ro_91_3, ro_91_4, ro_91_5, ro_91_6, ro_91_7, ro_91_8, ro_91_9, ro_92_0, ro_94_0, ro_96_0, ro_98_0, ro_100_0, ro_102_0, ro_104_0, ro_106_0, ro_108_0, ro_110_0, ro_112_0, ro_112_1, ro_112_2, ro_112_3, ro_112_4, ro_112_5, ro_112_6, ro_112_7, ro_112_8, ro_112_9, ro_113_0, ro_115_0, ro_117_0, ro_119_0, ro_121_0, ro_123_0, ro_125_0, ro_127_0, ro_129_0, ro_131_0, ro_133_0, ro_133_1, ro_133_2, ro_133_3, ro_133_4, ro_133_5, ro_133_6, ro_133_7, ro_133_8, ro_133_9, ro_134_0, ro_136_0, ro_138_0, ro_140_0, ro_142_0, ro_144_0, ro_146_0, ro_148_0, ro_150_0, ro_152_0, ro_154_0, ro_155_0, ro_157_0, ro_157_1, ro_157_2, ro_157_3, ro_157_4, ro_157_5, ro_157_6, ro_157_7, ro_157_8, ro_157_9, ro_158_0, ro_160_0, ro_162_0, ro_164_0, ro_166_0, ro_168_0, ro_170_0, ro_172_0, ro_174_0, ro_176_0, ro_178_0, ro_180_0, ro_182_1, ro_182_4, ro_182_5, ro_182_6, ro_182_9, ro_182_10, ro_182_11, ro_182_13, ro_182_14, ro_182_15, ro_182_16, ro_182_17, ro_182_20, ro_182_21, ro_182_22, ro_182_23, ro_182_24, ro_182_26, ro_182_27, ro_182_28, lo_3, lo_5, lo_7, lo_9, lo_11, lo_13, lo_15, lo_17, lo_19, lo_21, lo_24, lo_26, lo_28, lo_30, lo_32, lo_34, lo_36, lo_38, lo_40, lo_42, lo_44, lo_47, lo_49, lo_51, lo_54, lo_56, lo_58, lo_60, lo_63, lo_65, lo_67, lo_69, lo_72, lo_74, lo_76, lo_78, lo_80, lo_82, lo_84, lo_86, lo_88, lo_90, lo_93, lo_95, lo_97, lo_99, lo_101, lo_103, lo_105, lo_107, lo_109, lo_111, lo_114, lo_116, lo_118, lo_120, lo_122, lo_124, lo_126, lo_128, lo_130, lo_132, lo_135, lo_137, lo_139, lo_141, lo_143, lo_145, lo_147, lo_149, lo_151, lo_153, lo_156, lo_159, lo_161, lo_163, lo_165, lo_167, lo_169, lo_171, lo_173, lo_175, lo_177, lo_179, lo_181, lo_183, lo_184, lo_185, lo_186, lo_187, lo_188, lo_189, lo_190, lo_191, lo_192, lo_193, lo_194, lo_195, lo_196, lo_197, lo_198, lo_199, lo_200, lo_201, lo_202, lo_203, jp_nn, jp_eq, jp_e1, Classical.not_not, ji0, ji1, ji2, cs46_235, kk_235, cs46_237, kk_237, cs46_266, kk_266, cs46_258, kk_258f, cs46_274, kk_274, cs46_298, kk_298, jl_0, jl_1, jl_2, jl_3, jl_4, jl_5, jl_6, jl_7, jl_8, jl_9, jl_10, jl_11, jl_12, jl_13, jl_14, jl_15, jl_16, jl_17, jl_18, jl_19, jl_20, jl_21, jl_22, jl_23, jl_24, jl_25, jl_26, jl_27, jl_28, jl_29, jl_30, jl_31, jl_32, jl_33, jl_34, jl_35, jl_36, jl_37, jl_38, jl_39, jl_40, jl_95, jl_96, jl_97, jl_98, jl_99, jl_100, jl_101, jl_102, jl_103, jl_104, jl_105, jl_106, jl_107, jl_108, jl_109, jl_110, jl_111, jl_112, jl_113, jl_114, jl_186, jl_1100, jr, ju, jpT, jpF, tnc, Nat.reduceEqDiff, reduceIte, and_false, false_and, not_true_eq_false, not_false_eq_true, or_false, gt_iff_lt, ge_iff_le, Int.lt_irrefl, Int.le_refl, y, ys, and_self]
        intro h1 op_w
        refine ⟨4719, m.toNat, 0, rfl, by decide, by omega, by omega, rfl, by decide, fun h2 g1 g2 => ?_⟩
        intro _ _ h3 f3_w _ _ _ h4 f4_w _
        refine hQ _ _ _ (BKq.tr (BKq.u (fun z => by omega)) (BKq.tr op_w.bk (BKq.tr (fun q z => ?_) (BKq.tr (BKq.fr f3_w (by decide)) (BKq.fr f4_w (by decide))))))
        rw [g2 q, if_neg (by omega)]
      · simp only [qe_1, qe_3, qe_4, qe_5, qe_7, qe_72, qe_10, qe_102, qe_13, qe_14, qe_15, qe_16, qe_17, qe_18, qe_20, qe_22, qe_23, qe_21, qe_24, qe_25, qe_26, qe_27, qe_28, qe_30, qe_31, qe_32, qc_20, qc_22, qc_23, qc_21, qc_24, qc_25, qc_26, qc_27, qc_1, qc_3, qc_4, qc_7, qc_13, qc_28, qc_32, qs_1, qs_2, qs_3, qs_4, qs_5, qs_6, qs_9, qs_10, qs_11, qs_14, qs_15, qs_16, qs_27, qs_17, qs_18, qs_19, qs_20, qs_22, qs_23, qs_28, qs_25, qs_26, qs_7, qs_8, kc_1, kn_1, kc_2, kn_2, kc_3, kn_3, kc_4, kn_4, kc_5, kn_5, kc_6, kn_6, kc_7, kn_7, kc_8, kn_8, kc_9, kn_9, kc_10, kn_10, kc_11, kn_11, kc_12, kn_12, kc_13, kn_13, kc_14, kn_14, kc_15, kn_15, kc_16, kc_17, kc_18, kc_19, kc_20, kc_21, kc_22, kc_23, kc_30, kc_32, kc_40, kc_43, kc_45, kc_48, kc_52, kc_56, kc_57, kc_59, kc_60, kc_61, kc_63, kc_64, kc_72, kc_78, kc_97, kc_99, kc_122, kc_126, kc_128, kc_192, kc_200, kc_255, kc_999, kc_1000, kc_9999, kn_9999, kc_10000, kc_12345, kc_65536, kc_252645135, kc_858993459, kc_1103515245, kc_1431655765, kc_2147483647, kc_0, kc_24, kc_28, kc_37, kc_41, kc_42, kc_73, kc_91, kc_95, kc_96, kc_98, kc_100, kc_112, kc_125, kc_150, kc_162, kc_163, kc_168, kc_186, kc_190, kc_250, kc_355, kc_356, kc_404, kc_405, kc_429, kc_573, kc_1002, kc_1100, kc_1891, kc_2200, kc_4719, kc_4869, kc_4881, kc_5148, kc_19741, kc_25433, kc_320403, kc_628412, kc_629093, kc_660401, kc_679843, kc_918640, kc_979410, kc_1178088, kc_6232410, kc_24644941, kc_36238189, kc_38270444, kc_392531318, kc_425693491, kc_1342154595, kc_2147483648, kc_42328242873, kc_891704255789, kc_1722105685577, kc_1858726030364, ct_0, ct_1, ct_2, ct_3, ct_4, ct_5, cf_0, cf_1, cf_2, cf_3, cf_4, cf_5, w_ty6, w_ty7, m_sv, m_z0, m_hd, m_g0, m_gs, m_s0, m_ss, m_ap, m_an, forall_const, true_and, and_true, ne_eq, not_true_eq_false, not_false_eq_true, false_implies, true_implies, implies_true, eq_self, reduceCtorEq, Nat.reduceDiv, Nat.reduceMod, Int.reduceToNat, or_true, true_or, or_false, false_or, or_self, m_it, m_if, m_c1, m_01, m_02, m_03, m_04, m_10, m_12, m_13, m_14, m_20, m_21, m_23, m_24, m_30, m_31, m_32, m_34, m_40, m_41, m_42, m_43, Int.reduceLE, Int.reduceLT, Int.reduceGE, Int.reduceGT, Int.reduceNeg, Int.reduceAdd, Int.reduceSub, Int.reduceMul, Int.reduceEq, Int.reduceNe, Nat.reduceAdd, jun2, ro_0_0, ro_0_1, ro_0_2, ro_0_3, ro_0_4, ro_0_5, ro_0_6, ro_0_7, ro_0_8, ro_0_9, ro_0_10, ro_0_11, ro_0_12, ro_1_0, ro_1_1, ro_2_0, ro_4_0, ro_6_0, ro_6_1, ro_6_2, ro_6_3, ro_6_4, ro_6_5, ro_6_6, ro_6_7, ro_6_8, ro_8_0, ro_10_0, ro_12_0, ro_14_0, ro_16_0, ro_18_0, ro_20_0, ro_22_0, ro_22_1, ro_22_2, ro_23_0, ro_25_0, ro_27_0, ro_29_0, ro_29_1, ro_29_2, ro_29_3, ro_29_4, ro_29_5, ro_29_6, ro_29_7, ro_29_8, ro_31_0, ro_33_0, ro_35_0, ro_37_0, ro_39_0, ro_41_0, ro_43_0, ro_45_0, ro_45_1, ro_45_2, ro_46_0, ro_48_0, ro_50_0, ro_52_0, ro_52_1, ro_52_2, ro_52_3, ro_53_0, ro_55_0, ro_57_0, ro_59_0, ro_61_0, ro_61_1, ro_61_2, ro_61_3, ro_62_0, ro_64_0, ro_66_0, ro_68_0, ro_70_0, ro_70_1, ro_70_2, ro_70_3, ro_70_4, ro_70_5, ro_70_6, ro_70_7, ro_70_8, ro_70_9, ro_71_0, ro_73_0, ro_75_0, ro_77_0, ro_79_0, ro_81_0, ro_83_0, ro_85_0, ro_87_0, ro_89_0, ro_91_0, ro_91_1, ro_91_2, ro_91_3, ro_91_4, ro_91_5, ro_91_6, ro_91_7, ro_91_8, ro_91_9, ro_92_0, ro_94_0, ro_96_0, ro_98_0, ro_100_0, ro_102_0, ro_104_0, ro_106_0, ro_108_0, ro_110_0, ro_112_0, ro_112_1, ro_112_2, ro_112_3, ro_112_4, ro_112_5, ro_112_6, ro_112_7, ro_112_8, ro_112_9, ro_113_0, ro_115_0, ro_117_0, ro_119_0, ro_121_0, ro_123_0, ro_125_0, ro_127_0, ro_129_0, ro_131_0, ro_133_0, ro_133_1, ro_133_2, ro_133_3, ro_133_4, ro_133_5, ro_133_6, ro_133_7, ro_133_8, ro_133_9, ro_134_0, ro_136_0, ro_138_0, ro_140_0, ro_142_0, ro_144_0, ro_146_0, ro_148_0, ro_150_0, ro_152_0, ro_154_0, ro_155_0, ro_157_0, ro_157_1, ro_157_2, ro_157_3, ro_157_4, ro_157_5, ro_157_6, ro_157_7, ro_157_8, ro_157_9, ro_158_0, ro_160_0, ro_162_0, ro_164_0, ro_166_0, ro_168_0, ro_170_0, ro_172_0, ro_174_0, ro_176_0, ro_178_0, ro_180_0, ro_182_1, ro_182_4, ro_182_5, ro_182_6, ro_182_9, ro_182_10, ro_182_11, ro_182_13, ro_182_14, ro_182_15, ro_182_16, ro_182_17, ro_182_20, ro_182_21, ro_182_22, ro_182_23, ro_182_24, ro_182_26, ro_182_27, ro_182_28, lo_3, lo_5, lo_7, lo_9, lo_11, lo_13, lo_15, lo_17, lo_19, lo_21, lo_24, lo_26, lo_28, lo_30, lo_32, lo_34, lo_36, lo_38, lo_40, lo_42, lo_44, lo_47, lo_49, lo_51, lo_54, lo_56, lo_58, lo_60, lo_63, lo_65, lo_67, lo_69, lo_72, lo_74, lo_76, lo_78, lo_80, lo_82, lo_84, lo_86, lo_88, lo_90, lo_93, lo_95, lo_97, lo_99, lo_101, lo_103, lo_105, lo_107, lo_109, lo_111, lo_114, lo_116, lo_118, lo_120, lo_122, lo_124, lo_126, lo_128, lo_130, lo_132, lo_135, lo_137, lo_139, lo_141, lo_143, lo_145, lo_147, lo_149, lo_151, lo_153, lo_156, lo_159, lo_161, lo_163, lo_165, lo_167, lo_169, lo_171, lo_173, lo_175, lo_177, lo_179, lo_181, lo_183, lo_184, lo_185, lo_186, lo_187, lo_188, lo_189, lo_190, lo_191, lo_192, lo_193, lo_194, lo_195, lo_196, lo_197, lo_198, lo_199, lo_200, lo_201, lo_202, lo_203, jp_nn, jp_eq, jp_e1, Classical.not_not, ji0, ji1, ji2, cs46_235, kk_235, cs46_237, kk_237, cs46_266, kk_266, cs46_258, kk_258f, cs46_274, kk_274, cs46_298, kk_298, jl_0, jl_1, jl_2, jl_3, jl_4, jl_5, jl_6, jl_7, jl_8, jl_9, jl_10, jl_11, jl_12, jl_13, jl_14, jl_15, jl_16, jl_17, jl_18, jl_19, jl_20, jl_21, jl_22, jl_23, jl_24, jl_25, jl_26, jl_27, jl_28, jl_29, jl_30, jl_31, jl_32, jl_33, jl_34, jl_35, jl_36, jl_37, jl_38, jl_39, jl_40, jl_95, jl_96, jl_97, jl_98, jl_99, jl_100, jl_101, jl_102, jl_103, jl_104, jl_105, jl_106, jl_107, jl_108, jl_109, jl_110, jl_111, jl_112, jl_113, jl_114, jl_186, jl_1100, jr, ju, jpT, jpF, tnc, Nat.reduceEqDiff, reduceIte, and_false, false_and, not_true_eq_false, not_false_eq_true, or_false, gt_iff_lt, ge_iff_le, Int.lt_irrefl, Int.le_refl, y, ys, and_self]
        exact hQ _ _ _ (BKq.u (fun z => by omega))
    · simp only [qe_1, qe_3, qe_4, qe_5, qe_7, qe_72, qe_10, qe_102, qe_13, qe_14, qe_15, qe_16, qe_17, qe_18, qe_20, qe_22, qe_23, qe_21, qe_24, qe_25, qe_26, qe_27, qe_28, qe_30, qe_31, qe_32, qc_20, qc_22, qc_23, qc_21, qc_24, qc_25, qc_26, qc_27, qc_1, qc_3, qc_4, qc_7, qc_13, qc_28, qc_32, qs_1, qs_2, qs_3, qs_4, qs_5, qs_6, qs_9, qs_10, qs_11, qs_14, qs_15, qs_16, qs_27, qs_17, qs_18, qs_19, qs_20, qs_22, qs_23, qs_28, qs_25, qs_26, qs_7, qs_8, kc_1, kn_1, kc_2, kn_2, kc_3, kn_3, kc_4, kn_4, kc_5, kn_5, kc_6, kn_6, kc_7, kn_7, kc_8, kn_8, kc_9, kn_9, kc_10, kn_10, kc_11, kn_11, kc_12, kn_12, kc_13, kn_13, kc_14, kn_14, kc_15, kn_15, kc_16, kc_17, kc_18, kc_19, kc_20, kc_21, kc_22, kc_23, kc_30, kc_32, kc_40, kc_43, kc_45, kc_48, kc_52, kc_56, kc_57, kc_59, kc_60, kc_61, kc_63, kc_64, kc_72, kc_78, kc_97, kc_99, kc_122, kc_126, kc_128, kc_192, kc_200, kc_255, kc_999, kc_1000, kc_9999, kn_9999, kc_10000, kc_12345, kc_65536, kc_252645135, kc_858993459, kc_1103515245, kc_1431655765, kc_2147483647, kc_0, kc_24, kc_28, kc_37, kc_41, kc_42, kc_73, kc_91, kc_95, kc_96, kc_98, kc_100, kc_112, kc_125, kc_150, kc_162, kc_163, kc_168, kc_186, kc_190, kc_250, kc_355, kc_356, kc_404, kc_405, kc_429, kc_573, kc_1002, kc_1100, kc_1891, kc_2200, kc_4719, kc_4869, kc_4881, kc_5148, kc_19741, kc_25433, kc_320403, kc_628412, kc_629093, kc_660401, kc_679843, kc_918640, kc_979410, kc_1178088, kc_6232410, kc_24644941, kc_36238189, kc_38270444, kc_392531318, kc_425693491, kc_1342154595, kc_2147483648, kc_42328242873, kc_891704255789, kc_1722105685577, kc_1858726030364, ct_0, ct_1, ct_2, ct_3, ct_4, ct_5, cf_0, cf_1, cf_2, cf_3, cf_4, cf_5, w_ty6, w_ty7, m_sv, m_z0, m_hd, m_g0, m_gs, m_s0, m_ss, m_ap, m_an, forall_const, true_and, and_true, ne_eq, not_true_eq_false, not_false_eq_true, false_implies, true_implies, implies_true, eq_self, reduceCtorEq, Nat.reduceDiv, Nat.reduceMod, Int.reduceToNat, or_true, true_or, or_false, false_or, or_self, m_it, m_if, m_c1, m_01, m_02, m_03, m_04, m_10, m_12, m_13, m_14, m_20, m_21, m_23, m_24, m_30, m_31, m_32, m_34, m_40, m_41, m_42, m_43, Int.reduceLE, Int.reduceLT, Int.reduceGE, Int.reduceGT, Int.reduceNeg, Int.reduceAdd, Int.reduceSub, Int.reduceMul, Int.reduceEq, Int.reduceNe, Nat.reduceAdd, jun2, ro_0_0, ro_0_1, ro_0_2, ro_0_3, ro_0_4, ro_0_5, ro_0_6, ro_0_7, ro_0_8, ro_0_9, ro_0_10, ro_0_11, ro_0_12, ro_1_0, ro_1_1, ro_2_0, ro_4_0, ro_6_0, ro_6_1, ro_6_2, ro_6_3, ro_6_4, ro_6_5, ro_6_6, ro_6_7, ro_6_8, ro_8_0, ro_10_0, ro_12_0, ro_14_0, ro_16_0, ro_18_0, ro_20_0, ro_22_0, ro_22_1, ro_22_2, ro_23_0, ro_25_0, ro_27_0, ro_29_0, ro_29_1, ro_29_2, ro_29_3, ro_29_4, ro_29_5, ro_29_6, ro_29_7, ro_29_8, ro_31_0, ro_33_0, ro_35_0, ro_37_0, ro_39_0, ro_41_0, ro_43_0, ro_45_0, ro_45_1, ro_45_2, ro_46_0, ro_48_0, ro_50_0, ro_52_0, ro_52_1, ro_52_2, ro_52_3, ro_53_0, ro_55_0, ro_57_0, ro_59_0, ro_61_0, ro_61_1, ro_61_2, ro_61_3, ro_62_0, ro_64_0, ro_66_0, ro_68_0, ro_70_0, ro_70_1, ro_70_2, ro_70_3, ro_70_4, ro_70_5, ro_70_6, ro_70_7, ro_70_8, ro_70_9, ro_71_0, ro_73_0, ro_75_0, ro_77_0, ro_79_0, ro_81_0, ro_83_0, ro_85_0, ro_87_0, ro_89_0, ro_91_0, ro_91_1, ro_91_2, ro_91_3, ro_91_4, ro_91_5, ro_91_6, ro_91_7, ro_91_8, ro_91_9, ro_92_0, ro_94_0, ro_96_0, ro_98_0, ro_100_0, ro_102_0, ro_104_0, ro_106_0, ro_108_0, ro_110_0, ro_112_0, ro_112_1, ro_112_2, ro_112_3, ro_112_4, ro_112_5, ro_112_6, ro_112_7, ro_112_8, ro_112_9, ro_113_0, ro_115_0, ro_117_0, ro_119_0, ro_121_0, ro_123_0, ro_125_0, ro_127_0, ro_129_0, ro_131_0, ro_133_0, ro_133_1, ro_133_2, ro_133_3, ro_133_4, ro_133_5, ro_133_6, ro_133_7, ro_133_8, ro_133_9, ro_134_0, ro_136_0, ro_138_0, ro_140_0, ro_142_0, ro_144_0, ro_146_0, ro_148_0, ro_150_0, ro_152_0, ro_154_0, ro_155_0, ro_157_0, ro_157_1, ro_157_2, ro_157_3, ro_157_4, ro_157_5, ro_157_6, ro_157_7, ro_157_8, ro_157_9, ro_158_0, ro_160_0, ro_162_0, ro_164_0, ro_166_0, ro_168_0, ro_170_0, ro_172_0, ro_174_0, ro_176_0, ro_178_0, ro_180_0, ro_182_1, ro_182_4, ro_182_5, ro_182_6, ro_182_9, ro_182_10, ro_182_11, ro_182_13, ro_182_14, ro_182_15, ro_182_16, ro_182_17, ro_182_20, ro_182_21, ro_182_22, ro_182_23, ro_182_24, ro_182_26, ro_182_27, ro_182_28, lo_3, lo_5, lo_7, lo_9, lo_11, lo_13, lo_15, lo_17, lo_19, lo_21, lo_24, lo_26, lo_28, lo_30, lo_32, lo_34, lo_36, lo_38, lo_40, lo_42, lo_44, lo_47, lo_49, lo_51, lo_54, lo_56, lo_58, lo_60, lo_63, lo_65, lo_67, lo_69, lo_72, lo_74, lo_76, lo_78, lo_80, lo_82, lo_84, lo_86, lo_88, lo_90, lo_93, lo_95, lo_97, lo_99, lo_101, lo_103, lo_105, lo_107, lo_109, lo_111, lo_114, lo_116, lo_118, lo_120, lo_122, lo_124, lo_126, lo_128, lo_130, lo_132, lo_135, lo_137, lo_139, lo_141, lo_143, lo_145, lo_147, lo_149, lo_151, lo_153, lo_156, lo_159, lo_161, lo_163, lo_165, lo_167, lo_169, lo_171, lo_173, lo_175, lo_177, lo_179, lo_181, lo_183, lo_184, lo_185, lo_186, lo_187, lo_188, lo_189, lo_190, lo_191, lo_192, lo_193, lo_194, lo_195, lo_196, lo_197, lo_198, lo_199, lo_200, lo_201, lo_202, lo_203, jp_nn, jp_eq, jp_e1, Classical.not_not, ji0, ji1, ji2, cs46_235, kk_235, cs46_237, kk_237, cs46_266, kk_266, cs46_258, kk_258f, cs46_274, kk_274, cs46_298, kk_298, jl_0, jl_1, jl_2, jl_3, jl_4, jl_5, jl_6, jl_7, jl_8, jl_9, jl_10, jl_11, jl_12, jl_13, jl_14, jl_15, jl_16, jl_17, jl_18, jl_19, jl_20, jl_21, jl_22, jl_23, jl_24, jl_25, jl_26, jl_27, jl_28, jl_29, jl_30, jl_31, jl_32, jl_33, jl_34, jl_35, jl_36, jl_37, jl_38, jl_39, jl_40, jl_95, jl_96, jl_97, jl_98, jl_99, jl_100, jl_101, jl_102, jl_103, jl_104, jl_105, jl_106, jl_107, jl_108, jl_109, jl_110, jl_111, jl_112, jl_113, jl_114, jl_186, jl_1100, jr, ju, jpT, jpF, tnc, Nat.reduceEqDiff, reduceIte, and_false, false_and, not_true_eq_false, not_false_eq_true, or_false, gt_iff_lt, ge_iff_le, Int.lt_irrefl, Int.le_refl, y]
      exact hQ _ _ _ (BKq.u (fun z => by omega))
  · exact hQ.elim
theorem m_301b : BodyOK CS46 CS46 301 := fun av h Q hQ => by
  rw [cs46_301] at hQ
  unfold k301b at hQ
  split at hQ
  · rename_i t m
    obtain ⟨rfl, m0_w, m6_w, hQ⟩ := hQ
    show pS CS46 bb_301 [182, m, 0, 0, 0] h _
    unfold bb_301
    simp only [qe_1, qe_3, qe_4, qe_5, qe_7, qe_72, qe_10, qe_102, qe_13, qe_14, qe_15, qe_16, qe_17, qe_18, qe_20, qe_22, qe_23, qe_21, qe_24, qe_25, qe_26, qe_27, qe_28, qe_30, qe_31, qe_32, qc_20, qc_22, qc_23, qc_21, qc_24, qc_25, qc_26, qc_27, qc_1, qc_3, qc_4, qc_7, qc_13, qc_28, qc_32, qs_1, qs_2, qs_3, qs_4, qs_5, qs_6, qs_9, qs_10, qs_11, qs_14, qs_15, qs_16, qs_27, qs_17, qs_18, qs_19, qs_20, qs_22, qs_23, qs_28, qs_25, qs_26, qs_7, qs_8, kc_1, kn_1, kc_2, kn_2, kc_3, kn_3, kc_4, kn_4, kc_5, kn_5, kc_6, kn_6, kc_7, kn_7, kc_8, kn_8, kc_9, kn_9, kc_10, kn_10, kc_11, kn_11, kc_12, kn_12, kc_13, kn_13, kc_14, kn_14, kc_15, kn_15, kc_16, kc_17, kc_18, kc_19, kc_20, kc_21, kc_22, kc_23, kc_30, kc_32, kc_40, kc_43, kc_45, kc_48, kc_52, kc_56, kc_57, kc_59, kc_60, kc_61, kc_63, kc_64, kc_72, kc_78, kc_97, kc_99, kc_122, kc_126, kc_128, kc_192, kc_200, kc_255, kc_999, kc_1000, kc_9999, kn_9999, kc_10000, kc_12345, kc_65536, kc_252645135, kc_858993459, kc_1103515245, kc_1431655765, kc_2147483647, kc_0, kc_24, kc_28, kc_37, kc_41, kc_42, kc_73, kc_91, kc_95, kc_96, kc_98, kc_100, kc_112, kc_125, kc_150, kc_162, kc_163, kc_168, kc_186, kc_190, kc_250, kc_355, kc_356, kc_404, kc_405, kc_429, kc_573, kc_1002, kc_1100, kc_1891, kc_2200, kc_4719, kc_4869, kc_4881, kc_5148, kc_19741, kc_25433, kc_320403, kc_628412, kc_629093, kc_660401, kc_679843, kc_918640, kc_979410, kc_1178088, kc_6232410, kc_24644941, kc_36238189, kc_38270444, kc_392531318, kc_425693491, kc_1342154595, kc_2147483648, kc_42328242873, kc_891704255789, kc_1722105685577, kc_1858726030364, ct_0, ct_1, ct_2, ct_3, ct_4, ct_5, cf_0, cf_1, cf_2, cf_3, cf_4, cf_5, w_ty6, w_ty7, m_sv, m_z0, m_hd, m_g0, m_gs, m_s0, m_ss, m_ap, m_an, forall_const, true_and, and_true, ne_eq, not_true_eq_false, not_false_eq_true, false_implies, true_implies, implies_true, eq_self, reduceCtorEq, Nat.reduceDiv, Nat.reduceMod, Int.reduceToNat, or_true, true_or, or_false, false_or, or_self, m_it, m_if, m_c1, m_01, m_02, m_03, m_04, m_10, m_12, m_13, m_14, m_20, m_21, m_23, m_24, m_30, m_31, m_32, m_34, m_40, m_41, m_42, m_43, Int.reduceLE, Int.reduceLT, Int.reduceGE, Int.reduceGT, Int.reduceNeg, Int.reduceAdd, Int.reduceSub, Int.reduceMul, Int.reduceEq, Int.reduceNe, Nat.reduceAdd, jun2, ro_0_0, ro_0_1, ro_0_2, ro_0_3, ro_0_4, ro_0_5, ro_0_6, ro_0_7, ro_0_8, ro_0_9, ro_0_10, ro_0_11, ro_0_12, ro_1_0, ro_1_1, ro_2_0, ro_4_0, ro_6_0, ro_6_1, ro_6_2, ro_6_3, ro_6_4, ro_6_5, ro_6_6, ro_6_7, ro_6_8, ro_8_0, ro_10_0, ro_12_0, ro_14_0, ro_16_0, ro_18_0, ro_20_0, ro_22_0, ro_22_1, ro_22_2, ro_23_0, ro_25_0, ro_27_0, ro_29_0, ro_29_1, ro_29_2, ro_29_3, ro_29_4, ro_29_5, ro_29_6, ro_29_7, ro_29_8, ro_31_0, ro_33_0, ro_35_0, ro_37_0, ro_39_0, ro_41_0, ro_43_0, ro_45_0, ro_45_1, ro_45_2, ro_46_0, ro_48_0, ro_50_0, ro_52_0, ro_52_1, ro_52_2, ro_52_3, ro_53_0, ro_55_0, ro_57_0, ro_59_0, ro_61_0, ro_61_1, ro_61_2, ro_61_3, ro_62_0, ro_64_0, ro_66_0, ro_68_0, ro_70_0, ro_70_1, ro_70_2, ro_70_3, ro_70_4, ro_70_5, ro_70_6, ro_70_7, ro_70_8, ro_70_9, ro_71_0, ro_73_0, ro_75_0, ro_77_0, ro_79_0, ro_81_0, ro_83_0, ro_85_0, ro_87_0, ro_89_0, ro_91_0, ro_91_1, ro_91_2, ro_91_3, ro_91_4, ro_91_5, ro_91_6, ro_91_7, ro_91_8, ro_91_9, ro_92_0, ro_94_0, ro_96_0, ro_98_0, ro_100_0, ro_102_0, ro_104_0, ro_106_0, ro_108_0, ro_110_0, ro_112_0, ro_112_1, ro_112_2, ro_112_3, ro_112_4, ro_112_5, ro_112_6, ro_112_7, ro_112_8, ro_112_9, ro_113_0, ro_115_0, ro_117_0, ro_119_0, ro_121_0, ro_123_0, ro_125_0, ro_127_0, ro_129_0, ro_131_0, ro_133_0, ro_133_1, ro_133_2, ro_133_3, ro_133_4, ro_133_5, ro_133_6, ro_133_7, ro_133_8, ro_133_9, ro_134_0, ro_136_0, ro_138_0, ro_140_0, ro_142_0, ro_144_0, ro_146_0, ro_148_0, ro_150_0, ro_152_0, ro_154_0, ro_155_0, ro_157_0, ro_157_1, ro_157_2, ro_157_3, ro_157_4, ro_157_5, ro_157_6, ro_157_7, ro_157_8, ro_157_9, ro_158_0, ro_160_0, ro_162_0, ro_164_0, ro_166_0, ro_168_0, ro_170_0, ro_172_0, ro_174_0, ro_176_0, ro_178_0, ro_180_0, ro_182_1, ro_182_4, ro_182_5, ro_182_6, ro_182_9, ro_182_10, ro_182_11, ro_182_13, ro_182_14, ro_182_15, ro_182_16, ro_182_17, ro_182_20, ro_182_21, ro_182_22, ro_182_23, ro_182_24, ro_182_26, ro_182_27, ro_182_28, lo_3, lo_5, lo_7, lo_9, lo_11, lo_13, lo_15, lo_17, lo_19, lo_21, lo_24, lo_26, lo_28, lo_30, lo_32, lo_34, lo_36, lo_38, lo_40, lo_42, lo_44, lo_47, lo_49, lo_51, lo_54, lo_56, lo_58, lo_60, lo_63, lo_65, lo_67, lo_69, lo_72, lo_74, lo_76, lo_78, lo_80, lo_82, lo_84, lo_86, lo_88, lo_90, lo_93, lo_95, lo_97, lo_99, lo_101, lo_103, lo_105, lo_107, lo_109, lo_111, lo_114, lo_116, lo_118, lo_120, lo_122, lo_124, lo_126, lo_128, lo_130, lo_132, lo_135, lo_137, lo_139, lo_141, lo_143, lo_145, lo_147, lo_149, lo_151, lo_153, lo_156, lo_159, lo_161, lo_163, lo_165, lo_167, lo_169, lo_171, lo_173, lo_175, lo_177, lo_179, lo_181, lo_183, lo_184, lo_185, lo_186, lo_187, lo_188, lo_189, lo_190, lo_191, lo_192, lo_193, lo_194, lo_195, lo_196, lo_197, lo_198, lo_199, lo_200, lo_201, lo_202, lo_203, jp_nn, jp_eq, jp_e1, Classical.not_not, ji0, ji1, ji2, cs46_227, kk_227, cs46_264, kk_264, cs46_258, kk_258f, cs46_298, kk_298, jl_0, jl_1, jl_2, jl_3, jl_4, jl_5, jl_6, jl_7, jl_8, jl_9, jl_10, jl_11, jl_12, jl_13, jl_14, jl_15, jl_16, jl_17, jl_18, jl_19, jl_20, jl_21, jl_22, jl_23, jl_24, jl_25, jl_26, jl_27, jl_28, jl_29, jl_30, jl_31, jl_32, jl_33, jl_34, jl_35, jl_36, jl_37, jl_38, jl_39, jl_40, jl_95, jl_96, jl_97, jl_98, jl_99, jl_100, jl_101, jl_102, jl_103, jl_104, jl_105, jl_106, jl_107, jl_108, jl_109, jl_110, jl_111, jl_112, jl_113, jl_114, jl_186, jl_1100, jr, ju, jpT, jpF, tnc, Nat.reduceEqDiff, reduceIte, and_false, false_and, not_true_eq_false, not_false_eq_true, or_false, gt_iff_lt, ge_iff_le, Int.lt_irrefl, Int.le_refl]
    intro h1 op_w
    refine qp_lp (fun en h' => ∃ p : Nat, en = [182, m, (p : Int), 0, 0] ∧ p ≤ 13 ∧ BKq h h' ∧ h' 188 = h 188) ⟨0, rfl, by decide, op_w.bk, op_w.row (by decide) (by decide)⟩ ?_
    intro en h2 ⟨p, e2_w, p13_w, b2, r2⟩
    subst e2_w
    by_cases y : (p : Int) < 13
    · have y2 : ¬ (13 : Int) ≤ (p : Int) := by omega
      have ek := jk1 (k := p) (by omega)
      simp only [qe_1, qe_3, qe_4, qe_5, qe_7, qe_72, qe_10, qe_102, qe_13, qe_14, qe_15, qe_16, qe_17, qe_18, qe_20, qe_22, qe_23, qe_21, qe_24, qe_25, qe_26, qe_27, qe_28, qe_30, qe_31, qe_32, qc_20, qc_22, qc_23, qc_21, qc_24, qc_25, qc_26, qc_27, qc_1, qc_3, qc_4, qc_7, qc_13, qc_28, qc_32, qs_1, qs_2, qs_3, qs_4, qs_5, qs_6, qs_9, qs_10, qs_11, qs_14, qs_15, qs_16, qs_27, qs_17, qs_18, qs_19, qs_20, qs_22, qs_23, qs_28, qs_25, qs_26, qs_7, qs_8, kc_1, kn_1, kc_2, kn_2, kc_3, kn_3, kc_4, kn_4, kc_5, kn_5, kc_6, kn_6, kc_7, kn_7, kc_8, kn_8, kc_9, kn_9, kc_10, kn_10, kc_11, kn_11, kc_12, kn_12, kc_13, kn_13, kc_14, kn_14, kc_15, kn_15, kc_16, kc_17, kc_18, kc_19, kc_20, kc_21, kc_22, kc_23, kc_30, kc_32, kc_40, kc_43, kc_45, kc_48, kc_52, kc_56, kc_57, kc_59, kc_60, kc_61, kc_63, kc_64, kc_72, kc_78, kc_97, kc_99, kc_122, kc_126, kc_128, kc_192, kc_200, kc_255, kc_999, kc_1000, kc_9999, kn_9999, kc_10000, kc_12345, kc_65536, kc_252645135, kc_858993459, kc_1103515245, kc_1431655765, kc_2147483647, kc_0, kc_24, kc_28, kc_37, kc_41, kc_42, kc_73, kc_91, kc_95, kc_96, kc_98, kc_100, kc_112, kc_125, kc_150, kc_162, kc_163, kc_168, kc_186, kc_190, kc_250, kc_355, kc_356, kc_404, kc_405, kc_429, kc_573, kc_1002, kc_1100, kc_1891, kc_2200, kc_4719, kc_4869, kc_4881, kc_5148, kc_19741, kc_25433, kc_320403, kc_628412, kc_629093, kc_660401, kc_679843, kc_918640, kc_979410, kc_1178088, kc_6232410, kc_24644941, kc_36238189, kc_38270444, kc_392531318, kc_425693491, kc_1342154595, kc_2147483648, kc_42328242873, kc_891704255789, kc_1722105685577, kc_1858726030364, ct_0, ct_1, ct_2, ct_3, ct_4, ct_5, cf_0, cf_1, cf_2, cf_3, cf_4, cf_5, w_ty6, w_ty7, m_sv, m_z0, m_hd, m_g0, m_gs, m_s0, m_ss, m_ap, m_an, forall_const, true_and, and_true, ne_eq, not_true_eq_false, not_false_eq_true, false_implies, true_implies, implies_true, eq_self, reduceCtorEq, Nat.reduceDiv, Nat.reduceMod, Int.reduceToNat, or_true, true_or, or_false, false_or, or_self, m_it, m_if, m_c1, m_01, m_02, m_03, m_04, m_10, m_12, m_13, m_14, m_20, m_21, m_23, m_24, m_30, m_31, m_32, m_34, m_40, m_41, m_42, m_43, Int.reduceLE, Int.reduceLT, Int.reduceGE, Int.reduceGT, Int.reduceNeg, Int.reduceAdd, Int.reduceSub, Int.reduceMul, Int.reduceEq, Int.reduceNe, Nat.reduceAdd, jun2, ro_0_0, ro_0_1, ro_0_2, ro_0_3, ro_0_4, ro_0_5, ro_0_6, ro_0_7, ro_0_8, ro_0_9, ro_0_10, ro_0_11, ro_0_12, ro_1_0, ro_1_1, ro_2_0, ro_4_0, ro_6_0, ro_6_1, ro_6_2, ro_6_3, ro_6_4, ro_6_5, ro_6_6, ro_6_7, ro_6_8, ro_8_0, ro_10_0, ro_12_0, ro_14_0, ro_16_0, ro_18_0, ro_20_0, ro_22_0, ro_22_1, ro_22_2, ro_23_0, ro_25_0, ro_27_0, ro_29_0, ro_29_1, ro_29_2, ro_29_3, ro_29_4, ro_29_5, ro_29_6, ro_29_7, ro_29_8, ro_31_0, ro_33_0, ro_35_0, ro_37_0, ro_39_0, ro_41_0, ro_43_0, ro_45_0, ro_45_1, ro_45_2, ro_46_0, ro_48_0, ro_50_0, ro_52_0, ro_52_1, ro_52_2, ro_52_3, ro_53_0, ro_55_0, ro_57_0, ro_59_0, ro_61_0, ro_61_1, ro_61_2, ro_61_3, ro_62_0, ro_64_0, ro_66_0, ro_68_0, ro_70_0, ro_70_1, ro_70_2, ro_70_3, ro_70_4, ro_70_5, ro_70_6, ro_70_7, ro_70_8, ro_70_9, ro_71_0, ro_73_0, ro_75_0, ro_77_0, ro_79_0, ro_81_0, ro_83_0, ro_85_0, ro_87_0, ro_89_0, ro_91_0, ro_91_1, ro_91_2, ro_91_3, ro_91_4, ro_91_5, ro_91_6, ro_91_7, ro_91_8, ro_91_9, ro_92_0, ro_94_0, ro_96_0, ro_98_0, ro_100_0, ro_102_0, ro_104_0, ro_106_0, ro_108_0, ro_110_0, ro_112_0, ro_112_1, ro_112_2, ro_112_3, ro_112_4, ro_112_5, ro_112_6, ro_112_7, ro_112_8, ro_112_9, ro_113_0, ro_115_0, ro_117_0, ro_119_0, ro_121_0, ro_123_0, ro_125_0, ro_127_0, ro_129_0, ro_131_0, ro_133_0, ro_133_1, ro_133_2, ro_133_3, ro_133_4, ro_133_5, ro_133_6, ro_133_7, ro_133_8, ro_133_9, ro_134_0, ro_136_0, ro_138_0, ro_140_0, ro_142_0, ro_144_0, ro_146_0, ro_148_0, ro_150_0, ro_152_0, ro_154_0, ro_155_0, ro_157_0, ro_157_1, ro_157_2, ro_157_3, ro_157_4, ro_157_5, ro_157_6, ro_157_7, ro_157_8, ro_157_9, ro_158_0, ro_160_0, ro_162_0, ro_164_0, ro_166_0, ro_168_0, ro_170_0, ro_172_0, ro_174_0, ro_176_0, ro_178_0, ro_180_0, ro_182_1, ro_182_4, ro_182_5, ro_182_6, ro_182_9, ro_182_10, ro_182_11, ro_182_13, ro_182_14, ro_182_15, ro_182_16, ro_182_17, ro_182_20, ro_182_21, ro_182_22, ro_182_23, ro_182_24, ro_182_26, ro_182_27, ro_182_28, lo_3, lo_5, lo_7, lo_9, lo_11, lo_13, lo_15, lo_17, lo_19, lo_21, lo_24, lo_26, lo_28, lo_30, lo_32, lo_34, lo_36, lo_38, lo_40, lo_42, lo_44, lo_47, lo_49, lo_51, lo_54, lo_56, lo_58, lo_60, lo_63, lo_65, lo_67, lo_69, lo_72, lo_74, lo_76, lo_78, lo_80, lo_82, lo_84, lo_86, lo_88, lo_90, lo_93, lo_95, lo_97, lo_99, lo_101, lo_103, lo_105, lo_107, lo_109, lo_111, lo_114, lo_116, lo_118, lo_120, lo_122, lo_124, lo_126, lo_128, lo_130, lo_132, lo_135, lo_137, lo_139, lo_141, lo_143, lo_145, lo_147, lo_149, lo_151, lo_153, lo_156, lo_159, lo_161, lo_163, lo_165, lo_167, lo_169, lo_171, lo_173, lo_175, lo_177, lo_179, lo_181, lo_183, lo_184, lo_185, lo_186, lo_187, lo_188, lo_189, lo_190, lo_191, lo_192, lo_193, lo_194, lo_195, lo_196, lo_197, lo_198, lo_199, lo_200, lo_201, lo_202, lo_203, jp_nn, jp_eq, jp_e1, Classical.not_not, ji0, ji1, ji2, cs46_227, kk_227, cs46_264, kk_264, cs46_258, kk_258f, cs46_298, kk_298, jl_0, jl_1, jl_2, jl_3, jl_4, jl_5, jl_6, jl_7, jl_8, jl_9, jl_10, jl_11, jl_12, jl_13, jl_14, jl_15, jl_16, jl_17, jl_18, jl_19, jl_20, jl_21, jl_22, jl_23, jl_24, jl_25, jl_26, jl_27, jl_28, jl_29, jl_30, jl_31, jl_32, jl_33, jl_34, jl_35, jl_36, jl_37, jl_38, jl_39, jl_40, jl_95, jl_96, jl_97, jl_98, jl_99, jl_100, jl_101, jl_102, jl_103, jl_104, jl_105, jl_106, jl_107, jl_108, jl_109, jl_110, jl_111, jl_112, jl_113, jl_114, jl_186, jl_1100, jr, ju, jpT, jpF, tnc, Nat.reduceEqDiff, reduceIte, and_false, false_and, not_true_eq_false, not_false_eq_true, or_false, gt_iff_lt, ge_iff_le, Int.lt_irrefl, Int.le_refl, y, y2, ek]
      refine ⟨4719, m.toNat, p, rfl, by decide, by omega, by omega, rfl, by omega, ?_⟩
      exact ⟨p + 1, rfl, by omega, BKq.tr b2 (BKq.u (fun z => by omega)), r2⟩
    · have y2 : (13 : Int) ≤ (p : Int) := by omega
      simp only [qe_1, qe_3, qe_4, qe_5, qe_7, qe_72, qe_10, qe_102, qe_13, qe_14, qe_15, qe_16, qe_17, qe_18, qe_20, qe_22, qe_23, qe_21, qe_24, qe_25, qe_26, qe_27, qe_28, qe_30, qe_31, qe_32, qc_20, qc_22, qc_23, qc_21, qc_24, qc_25, qc_26, qc_27, qc_1, qc_3, qc_4, qc_7, qc_13, qc_28, qc_32, qs_1, qs_2, qs_3, qs_4, qs_5, qs_6, qs_9, qs_10, qs_11, qs_14, qs_15, qs_16, qs_27, qs_17, qs_18, qs_19, qs_20, qs_22, qs_23, qs_28, qs_25, qs_26, qs_7, qs_8, kc_1, kn_1, kc_2, kn_2, kc_3, kn_3, kc_4, kn_4, kc_5, kn_5, kc_6, kn_6, kc_7, kn_7, kc_8, kn_8, kc_9, kn_9, kc_10, kn_10, kc_11, kn_11, kc_12, kn_12, kc_13, kn_13, kc_14, kn_14, kc_15, kn_15, kc_16, kc_17, kc_18, kc_19, kc_20, kc_21, kc_22, kc_23, kc_30, kc_32, kc_40, kc_43, kc_45, kc_48, kc_52, kc_56, kc_57, kc_59, kc_60, kc_61, kc_63, kc_64, kc_72, kc_78, kc_97, kc_99, kc_122, kc_126, kc_128, kc_192, kc_200, kc_255, kc_999, kc_1000, kc_9999, kn_9999, kc_10000, kc_12345, kc_65536, kc_252645135, kc_858993459, kc_1103515245, kc_1431655765, kc_2147483647, kc_0, kc_24, kc_28, kc_37, kc_41, kc_42, kc_73, kc_91, kc_95, kc_96, kc_98, kc_100, kc_112, kc_125, kc_150, kc_162, kc_163, kc_168, kc_186, kc_190, kc_250, kc_355, kc_356, kc_404, kc_405, kc_429, kc_573, kc_1002, kc_1100, kc_1891, kc_2200, kc_4719, kc_4869, kc_4881, kc_5148, kc_19741, kc_25433, kc_320403, kc_628412, kc_629093, kc_660401, kc_679843, kc_918640, kc_979410, kc_1178088, kc_6232410, kc_24644941, kc_36238189, kc_38270444, kc_392531318, kc_425693491, kc_1342154595, kc_2147483648, kc_42328242873, kc_891704255789, kc_1722105685577, kc_1858726030364, ct_0, ct_1, ct_2, ct_3, ct_4, ct_5, cf_0, cf_1, cf_2, cf_3, cf_4, cf_5, w_ty6, w_ty7, m_sv, m_z0, m_hd, m_g0, m_gs, m_s0, m_ss, m_ap, m_an, forall_const, true_and, and_true, ne_eq, not_true_eq_false, not_false_eq_true, false_implies, true_implies, implies_true, eq_self, reduceCtorEq, Nat.reduceDiv, Nat.reduceMod, Int.reduceToNat, or_true, true_or, or_false, false_or, or_self, m_it, m_if, m_c1, m_01, m_02, m_03, m_04, m_10, m_12, m_13, m_14, m_20, m_21, m_23, m_24, m_30, m_31, m_32, m_34, m_40, m_41, m_42, m_43, Int.reduceLE, Int.reduceLT, Int.reduceGE, Int.reduceGT, Int.reduceNeg, Int.reduceAdd, Int.reduceSub, Int.reduceMul, Int.reduceEq, Int.reduceNe, Nat.reduceAdd, jun2, ro_0_0, ro_0_1, ro_0_2, ro_0_3, ro_0_4, ro_0_5, ro_0_6, ro_0_7, ro_0_8, ro_0_9, ro_0_10, ro_0_11, ro_0_12, ro_1_0, ro_1_1, ro_2_0, ro_4_0, ro_6_0, ro_6_1, ro_6_2, ro_6_3, ro_6_4, ro_6_5, ro_6_6, ro_6_7, ro_6_8, ro_8_0, ro_10_0, ro_12_0, ro_14_0, ro_16_0, ro_18_0, ro_20_0, ro_22_0, ro_22_1, ro_22_2, ro_23_0, ro_25_0, ro_27_0, ro_29_0, ro_29_1, ro_29_2, ro_29_3, ro_29_4, ro_29_5, ro_29_6, ro_29_7, ro_29_8, ro_31_0, ro_33_0, ro_35_0, ro_37_0, ro_39_0, ro_41_0, ro_43_0, ro_45_0, ro_45_1, ro_45_2, ro_46_0, ro_48_0, ro_50_0, ro_52_0, ro_52_1, ro_52_2, ro_52_3, ro_53_0, ro_55_0, ro_57_0, ro_59_0, ro_61_0, ro_61_1, ro_61_2, ro_61_3, ro_62_0, ro_64_0, ro_66_0, ro_68_0, ro_70_0, ro_70_1, ro_70_2, ro_70_3, ro_70_4, ro_70_5, ro_70_6, ro_70_7, ro_70_8, ro_70_9, ro_71_0, ro_73_0, ro_75_0, ro_77_0, ro_79_0, ro_81_0, ro_83_0, ro_85_0, ro_87_0, ro_89_0, ro_91_0, ro_91_1, ro_91_2, ro_91_3, ro_91_4, ro_91_5, ro_91_6, ro_91_7, ro_91_8, ro_91_9, ro_92_0, ro_94_0, ro_96_0, ro_98_0, ro_100_0, ro_102_0, ro_104_0, ro_106_0, ro_108_0, ro_110_0, ro_112_0, ro_112_1, ro_112_2, ro_112_3, ro_112_4, ro_112_5, ro_112_6, ro_112_7, ro_112_8, ro_112_9, ro_113_0, ro_115_0, ro_117_0, ro_119_0, ro_121_0, ro_123_0, ro_125_0, ro_127_0, ro_129_0, ro_131_0, ro_133_0, ro_133_1, ro_133_2, ro_133_3, ro_133_4, ro_133_5, ro_133_6, ro_133_7, ro_133_8, ro_133_9, ro_134_0, ro_136_0, ro_138_0, ro_140_0, ro_142_0, ro_144_0, ro_146_0, ro_148_0, ro_150_0, ro_152_0, ro_154_0, ro_155_0, ro_157_0, ro_157_1, ro_157_2, ro_157_3, ro_157_4, ro_157_5, ro_157_6, ro_157_7, ro_157_8, ro_157_9, ro_158_0, ro_160_0, ro_162_0, ro_164_0, ro_166_0, ro_168_0, ro_170_0, ro_172_0, ro_174_0, ro_176_0, ro_178_0, ro_180_0, ro_182_1, ro_182_4, ro_182_5, ro_182_6, ro_182_9, ro_182_10, ro_182_11, ro_182_13, ro_182_14, ro_182_15, ro_182_16, ro_182_17, ro_182_20, ro_182_21, ro_182_22, ro_182_23, ro_182_24, ro_182_26, ro_182_27, ro_182_28, lo_3, lo_5, lo_7, lo_9, lo_11, lo_13, lo_15, lo_17, lo_19, lo_21, lo_24, lo_26, lo_28, lo_30, lo_32, lo_34, lo_36, lo_38, lo_40, lo_42, lo_44, lo_47, lo_49, lo_51, lo_54, lo_56, lo_58, lo_60, lo_63, lo_65, lo_67, lo_69, lo_72, lo_74, lo_76, lo_78, lo_80, lo_82, lo_84, lo_86, lo_88, lo_90, lo_93, lo_95, lo_97, lo_99, lo_101, lo_103, lo_105, lo_107, lo_109, lo_111, lo_114, lo_116, lo_118, lo_120, lo_122, lo_124, lo_126, lo_128, lo_130, lo_132, lo_135, lo_137, lo_139, lo_141, lo_143, lo_145, lo_147, lo_149, lo_151, lo_153, lo_156, lo_159, lo_161, lo_163, lo_165, lo_167, lo_169, lo_171, lo_173, lo_175, lo_177, lo_179, lo_181, lo_183, lo_184, lo_185, lo_186, lo_187, lo_188, lo_189, lo_190, lo_191, lo_192, lo_193, lo_194, lo_195, lo_196, lo_197, lo_198, lo_199, lo_200, lo_201, lo_202, lo_203, jp_nn, jp_eq, jp_e1, Classical.not_not, ji0, ji1, ji2, cs46_227, kk_227, cs46_264, kk_264, cs46_258, kk_258f, cs46_298, kk_298, jl_0, jl_1, jl_2, jl_3, jl_4, jl_5, jl_6, jl_7, jl_8, jl_9, jl_10, jl_11, jl_12, jl_13, jl_14, jl_15, jl_16, jl_17, jl_18, jl_19, jl_20, jl_21, jl_22, jl_23, jl_24, jl_25, jl_26, jl_27, jl_28, jl_29, jl_30, jl_31, jl_32, jl_33, jl_34, jl_35, jl_36, jl_37, jl_38, jl_39, jl_40, jl_95, jl_96, jl_97, jl_98, jl_99, jl_100, jl_101, jl_102, jl_103, jl_104, jl_105, jl_106, jl_107, jl_108, jl_109, jl_110, jl_111, jl_112, jl_113, jl_114, jl_186, jl_1100, jr, ju, jpT, jpF, tnc, Nat.reduceEqDiff, reduceIte, and_false, false_and, not_true_eq_false, not_false_eq_true, or_false, gt_iff_lt, ge_iff_le, Int.lt_irrefl, Int.le_refl, y, y2]
      refine qp_lp (fun en h' => ∃ x y z : Int, en = [182, m, x, y, z] ∧ BKq h h' ∧ h' 188 = h 188) ⟨_, _, _, rfl, b2, r2⟩ ?_
      intro en h3 ⟨x, y, z, e3_w, b3, r3⟩
      subst e3_w
      simp only [qe_1, qe_3, qe_4, qe_5, qe_7, qe_72, qe_10, qe_102, qe_13, qe_14, qe_15, qe_16, qe_17, qe_18, qe_20, qe_22, qe_23, qe_21, qe_24, qe_25, qe_26, qe_27, qe_28, qe_30, qe_31, qe_32, qc_20, qc_22, qc_23, qc_21, qc_24, qc_25, qc_26, qc_27, qc_1, qc_3, qc_4, qc_7, qc_13, qc_28, qc_32, qs_1, qs_2, qs_3, qs_4, qs_5, qs_6, qs_9, qs_10, qs_11, qs_14, qs_15, qs_16, qs_27, qs_17, qs_18, qs_19, qs_20, qs_22, qs_23, qs_28, qs_25, qs_26, qs_7, qs_8, kc_1, kn_1, kc_2, kn_2, kc_3, kn_3, kc_4, kn_4, kc_5, kn_5, kc_6, kn_6, kc_7, kn_7, kc_8, kn_8, kc_9, kn_9, kc_10, kn_10, kc_11, kn_11, kc_12, kn_12, kc_13, kn_13, kc_14, kn_14, kc_15, kn_15, kc_16, kc_17, kc_18, kc_19, kc_20, kc_21, kc_22, kc_23, kc_30, kc_32, kc_40, kc_43, kc_45, kc_48, kc_52, kc_56, kc_57, kc_59, kc_60, kc_61, kc_63, kc_64, kc_72, kc_78, kc_97, kc_99, kc_122, kc_126, kc_128, kc_192, kc_200, kc_255, kc_999, kc_1000, kc_9999, kn_9999, kc_10000, kc_12345, kc_65536, kc_252645135, kc_858993459, kc_1103515245, kc_1431655765, kc_2147483647, kc_0, kc_24, kc_28, kc_37, kc_41, kc_42, kc_73, kc_91, kc_95, kc_96, kc_98, kc_100, kc_112, kc_125, kc_150, kc_162, kc_163, kc_168, kc_186, kc_190, kc_250, kc_355, kc_356, kc_404, kc_405, kc_429, kc_573, kc_1002, kc_1100, kc_1891, kc_2200, kc_4719, kc_4869, kc_4881, kc_5148, kc_19741, kc_25433, kc_320403, kc_628412, kc_629093, kc_660401, kc_679843, kc_918640, kc_979410, kc_1178088, kc_6232410, kc_24644941, kc_36238189, kc_38270444, kc_392531318, kc_425693491, kc_1342154595, kc_2147483648, kc_42328242873, kc_891704255789, kc_1722105685577, kc_1858726030364, ct_0, ct_1, ct_2, ct_3, ct_4, ct_5, cf_0, cf_1, cf_2, cf_3, cf_4, cf_5, w_ty6, w_ty7, m_sv, m_z0, m_hd, m_g0, m_gs, m_s0, m_ss, m_ap, m_an, forall_const, true_and, and_true, ne_eq, not_true_eq_false, not_false_eq_true, false_implies, true_implies, implies_true, eq_self, reduceCtorEq, Nat.reduceDiv, Nat.reduceMod, Int.reduceToNat, or_true, true_or, or_false, false_or, or_self, m_it, m_if, m_c1, m_01, m_02, m_03, m_04, m_10, m_12, m_13, m_14, m_20, m_21, m_23, m_24, m_30, m_31, m_32, m_34, m_40, m_41, m_42, m_43, Int.reduceLE, Int.reduceLT, Int.reduceGE, Int.reduceGT, Int.reduceNeg, Int.reduceAdd, Int.reduceSub, Int.reduceMul, Int.reduceEq, Int.reduceNe, Nat.reduceAdd, jun2, ro_0_0, ro_0_1, ro_0_2, ro_0_3, ro_0_4, ro_0_5, ro_0_6, ro_0_7, ro_0_8, ro_0_9, ro_0_10, ro_0_11, ro_0_12, ro_1_0, ro_1_1, ro_2_0, ro_4_0, ro_6_0, ro_6_1, ro_6_2, ro_6_3, ro_6_4, ro_6_5, ro_6_6, ro_6_7, ro_6_8, ro_8_0, ro_10_0, ro_12_0, ro_14_0, ro_16_0, ro_18_0, ro_20_0, ro_22_0, ro_22_1, ro_22_2, ro_23_0, ro_25_0, ro_27_0, ro_29_0, ro_29_1, ro_29_2, ro_29_3, ro_29_4, ro_29_5, ro_29_6, ro_29_7, ro_29_8, ro_31_0, ro_33_0, ro_35_0, ro_37_0, ro_39_0, ro_41_0, ro_43_0, ro_45_0, ro_45_1, ro_45_2, ro_46_0, ro_48_0, ro_50_0, ro_52_0, ro_52_1, ro_52_2, ro_52_3, ro_53_0, ro_55_0, ro_57_0, ro_59_0, ro_61_0, ro_61_1, ro_61_2, ro_61_3, ro_62_0, ro_64_0, ro_66_0, ro_68_0, ro_70_0, ro_70_1, ro_70_2, ro_70_3, ro_70_4, ro_70_5, ro_70_6, ro_70_7, ro_70_8, ro_70_9, ro_71_0, ro_73_0, ro_75_0, ro_77_0, ro_79_0, ro_81_0, ro_83_0, ro_85_0, ro_87_0, ro_89_0, ro_91_0, ro_91_1, ro_91_2, ro_91_3, ro_91_4, ro_91_5, ro_91_6, ro_91_7, ro_91_8, ro_91_9, ro_92_0, ro_94_0, ro_96_0, ro_98_0, ro_100_0, ro_102_0, ro_104_0, ro_106_0, ro_108_0, ro_110_0, ro_112_0, ro_112_1, ro_112_2, ro_112_3, ro_112_4, ro_112_5, ro_112_6, ro_112_7, ro_112_8, ro_112_9, ro_113_0, ro_115_0, ro_117_0, ro_119_0, ro_121_0, ro_123_0, ro_125_0, ro_127_0, ro_129_0, ro_131_0, ro_133_0, ro_133_1, ro_133_2, ro_133_3, ro_133_4, ro_133_5, ro_133_6, ro_133_7, ro_133_8, ro_133_9, ro_134_0, ro_136_0, ro_138_0, ro_140_0, ro_142_0, ro_144_0, ro_146_0, ro_148_0, ro_150_0, ro_152_0, ro_154_0, ro_155_0, ro_157_0, ro_157_1, ro_157_2, ro_157_3, ro_157_4, ro_157_5, ro_157_6, ro_157_7, ro_157_8, ro_157_9, ro_158_0, ro_160_0, ro_162_0, ro_164_0, ro_166_0, ro_168_0, ro_170_0, ro_172_0, ro_174_0, ro_176_0, ro_178_0, ro_180_0, ro_182_1, ro_182_4, ro_182_5, ro_182_6, ro_182_9, ro_182_10, ro_182_11, ro_182_13, ro_182_14, ro_182_15, ro_182_16, ro_182_17, ro_182_20, ro_182_21, ro_182_22, ro_182_23, ro_182_24, ro_182_26, ro_182_27, ro_182_28, lo_3, lo_5, lo_7, lo_9, lo_11, lo_13, lo_15, lo_17, lo_19, lo_21, lo_24, lo_26, lo_28, lo_30, lo_32, lo_34, lo_36, lo_38, lo_40, lo_42, lo_44, lo_47, lo_49, lo_51, lo_54, lo_56, lo_58, lo_60, lo_63, lo_65, lo_67, lo_69, lo_72, lo_74, lo_76, lo_78, lo_80, lo_82, lo_84, lo_86, lo_88, lo_90, lo_93, lo_95, lo_97, lo_99, lo_101, lo_103, lo_105, lo_107, lo_109, lo_111, lo_114, lo_116, lo_118, lo_120, lo_122, lo_124, lo_126, lo_128, lo_130, lo_132, lo_135, lo_137, lo_139, lo_141, lo_143, lo_145, lo_147, lo_149, lo_151, lo_153, lo_156, lo_159, lo_161, lo_163, lo_165, lo_167, lo_169, lo_171, lo_173, lo_175, lo_177, lo_179, lo_181, lo_183, lo_184, lo_185, lo_186, lo_187, lo_188, lo_189, lo_190, lo_191, lo_192, lo_193, lo_194, lo_195, lo_196, lo_197, lo_198, lo_199, lo_200, lo_201, lo_202, lo_203, jp_nn, jp_eq, jp_e1, Classical.not_not, ji0, ji1, ji2, cs46_227, kk_227, cs46_264, kk_264, cs46_258, kk_258f, cs46_298, kk_298, jl_0, jl_1, jl_2, jl_3, jl_4, jl_5, jl_6, jl_7, jl_8, jl_9, jl_10, jl_11, jl_12, jl_13, jl_14, jl_15, jl_16, jl_17, jl_18, jl_19, jl_20, jl_21, jl_22, jl_23, jl_24, jl_25, jl_26, jl_27, jl_28, jl_29, jl_30, jl_31, jl_32, jl_33, jl_34, jl_35, jl_36, jl_37, jl_38, jl_39, jl_40, jl_95, jl_96, jl_97, jl_98, jl_99, jl_100, jl_101, jl_102, jl_103, jl_104, jl_105, jl_106, jl_107, jl_108, jl_109, jl_110, jl_111, jl_112, jl_113, jl_114, jl_186, jl_1100, jr, ju, jpT, jpF, tnc, Nat.reduceEqDiff, reduceIte, and_false, false_and, not_true_eq_false, not_false_eq_true, or_false, gt_iff_lt, ge_iff_le, Int.lt_irrefl, Int.le_refl]
      refine ⟨fun _ => ?_, fun _ => hQ _ _ _ b3 r3⟩
      intro _ _ h4 f4_w _ _ _ h5 f5_w _
      have bb := BKq.tr b3 (BKq.tr (BKq.fr f4_w (by decide)) (BKq.fr f5_w (by decide)))
      have rr : h5 188 = h 188 := (f5_w.row rfl (by decide)).trans ((f4_w.row rfl (by decide)).trans r3)
      exact ⟨fun _ => ⟨_, _, _, rfl, bb, rr⟩, fun _ => ⟨_, _, _, rfl, bb, rr⟩⟩
  · exact hQ.elim
theorem m_310b : BodyOK CS46 CS46 310 := fun av h Q hQ => by
  rw [cs46_310] at hQ
  unfold k310b at hQ
  split at hQ
  · rename_i t a b w
    obtain ⟨rfl, h6, h12, hQ⟩ := hQ
    show pS CS46 bb_310 [182, a, b, w, 0, 0, 0] h _
    unfold bb_310
    by_cases ya : 0 ≤ a ∧ a ≤ 9999
    · by_cases yb : 1 ≤ b ∧ b ≤ 60
      · by_cases yw : 0 ≤ w ∧ w ≤ 2
        · simp only [qe_1, qe_3, qe_4, qe_5, qe_7, qe_72, qe_10, qe_102, qe_13, qe_14, qe_15, qe_16, qe_17, qe_18, qe_20, qe_22, qe_23, qe_21, qe_24, qe_25, qe_26, qe_27, qe_28, qe_30, qe_31, qe_32, qc_20, qc_22, qc_23, qc_21, qc_24, qc_25, qc_26, qc_27, qc_1, qc_3, qc_4, qc_7, qc_13, qc_28, qc_32, qs_1, qs_2, qs_3, qs_4, qs_5, qs_6, qs_9, qs_10, qs_11, qs_14, qs_15, qs_16, qs_27, qs_17, qs_18, qs_19, qs_20, qs_22, qs_23, qs_28, qs_25, qs_26, qs_7, qs_8, kc_1, kn_1, kc_2, kn_2, kc_3, kn_3, kc_4, kn_4, kc_5, kn_5, kc_6, kn_6, kc_7, kn_7, kc_8, kn_8, kc_9, kn_9, kc_10, kn_10, kc_11, kn_11, kc_12, kn_12, kc_13, kn_13, kc_14, kn_14, kc_15, kn_15, kc_16, kc_17, kc_18, kc_19, kc_20, kc_21, kc_22, kc_23, kc_30, kc_32, kc_40, kc_43, kc_45, kc_48, kc_52, kc_56, kc_57, kc_59, kc_60, kc_61, kc_63, kc_64, kc_72, kc_78, kc_97, kc_99, kc_122, kc_126, kc_128, kc_192, kc_200, kc_255, kc_999, kc_1000, kc_9999, kn_9999, kc_10000, kc_12345, kc_65536, kc_252645135, kc_858993459, kc_1103515245, kc_1431655765, kc_2147483647, kc_0, kc_24, kc_28, kc_37, kc_41, kc_42, kc_73, kc_91, kc_95, kc_96, kc_98, kc_100, kc_112, kc_125, kc_150, kc_162, kc_163, kc_168, kc_186, kc_190, kc_250, kc_355, kc_356, kc_404, kc_405, kc_429, kc_573, kc_1002, kc_1100, kc_1891, kc_2200, kc_4719, kc_4869, kc_4881, kc_5148, kc_19741, kc_25433, kc_320403, kc_628412, kc_629093, kc_660401, kc_679843, kc_918640, kc_979410, kc_1178088, kc_6232410, kc_24644941, kc_36238189, kc_38270444, kc_392531318, kc_425693491, kc_1342154595, kc_2147483648, kc_42328242873, kc_891704255789, kc_1722105685577, kc_1858726030364, ct_0, ct_1, ct_2, ct_3, ct_4, ct_5, cf_0, cf_1, cf_2, cf_3, cf_4, cf_5, w_ty6, w_ty7, m_sv, m_z0, m_hd, m_g0, m_gs, m_s0, m_ss, m_ap, m_an, forall_const, true_and, and_true, ne_eq, not_true_eq_false, not_false_eq_true, false_implies, true_implies, implies_true, eq_self, reduceCtorEq, Nat.reduceDiv, Nat.reduceMod, Int.reduceToNat, or_true, true_or, or_false, false_or, or_self, m_it, m_if, m_c1, m_01, m_02, m_03, m_04, m_10, m_12, m_13, m_14, m_20, m_21, m_23, m_24, m_30, m_31, m_32, m_34, m_40, m_41, m_42, m_43, Int.reduceLE, Int.reduceLT, Int.reduceGE, Int.reduceGT, Int.reduceNeg, Int.reduceAdd, Int.reduceSub, Int.reduceMul, Int.reduceEq, Int.reduceNe, Nat.reduceAdd, jun2, ro_0_0, ro_0_1, ro_0_2, ro_0_3, ro_0_4, ro_0_5, ro_0_6, ro_0_7, ro_0_8, ro_0_9, ro_0_10, ro_0_11, ro_0_12, ro_1_0, ro_1_1, ro_2_0, ro_4_0, ro_6_0, ro_6_1, ro_6_2, ro_6_3, ro_6_4, ro_6_5, ro_6_6, ro_6_7, ro_6_8, ro_8_0, ro_10_0, ro_12_0, ro_14_0, ro_16_0, ro_18_0, ro_20_0, ro_22_0, ro_22_1, ro_22_2, ro_23_0, ro_25_0, ro_27_0, ro_29_0, ro_29_1, ro_29_2, ro_29_3, ro_29_4, ro_29_5, ro_29_6, ro_29_7, ro_29_8, ro_31_0, ro_33_0, ro_35_0, ro_37_0, ro_39_0, ro_41_0, ro_43_0, ro_45_0, ro_45_1, ro_45_2, ro_46_0, ro_48_0, ro_50_0, ro_52_0, ro_52_1, ro_52_2, ro_52_3, ro_53_0, ro_55_0, ro_57_0, ro_59_0, ro_61_0, ro_61_1, ro_61_2, ro_61_3, ro_62_0, ro_64_0, ro_66_0, ro_68_0, ro_70_0, ro_70_1, ro_70_2, ro_70_3, ro_70_4, ro_70_5, ro_70_6, ro_70_7, ro_70_8, ro_70_9, ro_71_0, ro_73_0, ro_75_0, ro_77_0, ro_79_0, ro_81_0, ro_83_0, ro_85_0, ro_87_0, ro_89_0, ro_91_0, ro_91_1, ro_91_2, ro_91_3, ro_91_4, ro_91_5, ro_91_6, ro_91_7, ro_91_8, ro_91_9, ro_92_0, ro_94_0, ro_96_0, ro_98_0, ro_100_0, ro_102_0, ro_104_0, ro_106_0, ro_108_0, ro_110_0, ro_112_0, ro_112_1, ro_112_2, ro_112_3, ro_112_4, ro_112_5, ro_112_6, ro_112_7, ro_112_8, ro_112_9, ro_113_0, ro_115_0, ro_117_0, ro_119_0, ro_121_0, ro_123_0, ro_125_0, ro_127_0, ro_129_0, ro_131_0, ro_133_0, ro_133_1, ro_133_2, ro_133_3, ro_133_4, ro_133_5, ro_133_6, ro_133_7, ro_133_8, ro_133_9, ro_134_0, ro_136_0, ro_138_0, ro_140_0, ro_142_0, ro_144_0, ro_146_0, ro_148_0, ro_150_0, ro_152_0, ro_154_0, ro_155_0, ro_157_0, ro_157_1, ro_157_2, ro_157_3, ro_157_4, ro_157_5, ro_157_6, ro_157_7, ro_157_8, ro_157_9, ro_158_0, ro_160_0, ro_162_0, ro_164_0, ro_166_0, ro_168_0, ro_170_0, ro_172_0, ro_174_0, ro_176_0, ro_178_0, ro_180_0, ro_182_1, ro_182_4, ro_182_5, ro_182_6, ro_182_9, ro_182_10, ro_182_11, ro_182_13, ro_182_14, ro_182_15, ro_182_16, ro_182_17, ro_182_20, ro_182_21, ro_182_22, ro_182_23, ro_182_24, ro_182_26, ro_182_27, ro_182_28, lo_3, lo_5, lo_7, lo_9, lo_11, lo_13, lo_15, lo_17, lo_19, lo_21, lo_24, lo_26, lo_28, lo_30, lo_32, lo_34, lo_36, lo_38, lo_40, lo_42, lo_44, lo_47, lo_49, lo_51, lo_54, lo_56, lo_58, lo_60, lo_63, lo_65, lo_67, lo_69, lo_72, lo_74, lo_76, lo_78, lo_80, lo_82, lo_84, lo_86, lo_88, lo_90, lo_93, lo_95, lo_97, lo_99, lo_101, lo_103, lo_105, lo_107, lo_109, lo_111, lo_114, lo_116, lo_118, lo_120, lo_122, lo_124, lo_126, lo_128, lo_130, lo_132, lo_135, lo_137, lo_139, lo_141, lo_143, lo_145, lo_147, lo_149, lo_151, lo_153, lo_156, lo_159, lo_161, lo_163, lo_165, lo_167, lo_169, lo_171, lo_173, lo_175, lo_177, lo_179, lo_181, lo_183, lo_184, lo_185, lo_186, lo_187, lo_188, lo_189, lo_190, lo_191, lo_192, lo_193, lo_194, lo_195, lo_196, lo_197, lo_198, lo_199, lo_200, lo_201, lo_202, lo_203, jp_nn, jp_eq, jp_e1, Classical.not_not, ji0, ji1, ji2, cs46_198, kk_198, cs46_225, kk_225, cs46_228, kk_228, cs46_264, kk_264, cs46_259, kk_259f, cs46_285, kk_285f, cs46_287, kk_287f, cs46_274, kk_274, cs46_298, kk_298, cs46_309, kk_309, jl_0, jl_1, jl_2, jl_3, jl_4, jl_5, jl_6, jl_7, jl_8, jl_9, jl_10, jl_11, jl_12, jl_13, jl_14, jl_15, jl_16, jl_17, jl_18, jl_19, jl_20, jl_21, jl_22, jl_23, jl_24, jl_25, jl_26, jl_27, jl_28, jl_29, jl_30, jl_31, jl_32, jl_33, jl_34, jl_35, jl_36, jl_37, jl_38, jl_39, jl_40, jl_95, jl_96, jl_97, jl_98, jl_99, jl_100, jl_101, jl_102, jl_103, jl_104, jl_105, jl_106, jl_107, jl_108, jl_109, jl_110, jl_111, jl_112, jl_113, jl_114, jl_186, jl_1100, jr, ju, jpT, jpF, tnc, Nat.reduceEqDiff, reduceIte, and_false, false_and, not_true_eq_false, not_false_eq_true, or_false, gt_iff_lt, ge_iff_le, Int.lt_irrefl, Int.le_refl, ya, yb, yw, and_self]
          intro h1 op_w
          refine qp_lp (fun en h' => ∃ (n g : Nat) (x y : Int), en = [182, a, b, w, (n : Int), x, y] ∧ n ≤ 60 ∧ BKq h h' ∧ h' 188 = h 188 ∧ h' 182 29 = (g : Int) ∧ g < 2147483648) ⟨0, a.toNat, _, _, rfl, by decide, BKq.tr (BKq.u (fun z => by omega)) (BKq.tr op_w.bk (BKq.u (fun z => by omega))), op_w.row (by decide) (by decide), up_eq.trans (by omega), by omega⟩ ?_
          intro en h2 ⟨n, g, x, y, e2_w, n60, b2, r2, eg, g31⟩
          subst e2_w
          have e3_w : h2 188 3 = h 188 3 := by rw [r2]
          have e0 : h2 188 0 = h 188 0 := by rw [r2]
          have fin_w : ∀ (q : Nat) (v : List Int) (h3 : XH), BKq h h3 → Q 1 v h3 := fun q v h3 b => hQ _ _ _ b
          by_cases z1 : (n : Int) < b
          · have z1' : ¬ b ≤ (n : Int) := by omega
            by_cases z2 : 0 < h 188 3
            · have z2' : ¬ h 188 3 ≤ 0 := by omega
              by_cases z3 : 0 < h 188 0
              · have z3' : ¬ h 188 0 ≤ 0 := by omega
                have ek := jk1 (k := n) (by omega)
                simp only [qe_1, qe_3, qe_4, qe_5, qe_7, qe_72, qe_10, qe_102, qe_13, qe_14, qe_15, qe_16, qe_17, qe_18, qe_20, qe_22, qe_23, qe_21, qe_24, qe_25, qe_26, qe_27, qe_28, qe_30, qe_31, qe_32, qc_20, qc_22, qc_23, qc_21, qc_24, qc_25, qc_26, qc_27, qc_1, qc_3, qc_4, qc_7, qc_13, qc_28, qc_32, qs_1, qs_2, qs_3, qs_4, qs_5, qs_6, qs_9, qs_10, qs_11, qs_14, qs_15, qs_16, qs_27, qs_17, qs_18, qs_19, qs_20, qs_22, qs_23, qs_28, qs_25, qs_26, qs_7, qs_8, kc_1, kn_1, kc_2, kn_2, kc_3, kn_3, kc_4, kn_4, kc_5, kn_5, kc_6, kn_6, kc_7, kn_7, kc_8, kn_8, kc_9, kn_9, kc_10, kn_10, kc_11, kn_11, kc_12, kn_12, kc_13, kn_13, kc_14, kn_14, kc_15, kn_15, kc_16, kc_17, kc_18, kc_19, kc_20, kc_21, kc_22, kc_23, kc_30, kc_32, kc_40, kc_43, kc_45, kc_48, kc_52, kc_56, kc_57, kc_59, kc_60, kc_61, kc_63, kc_64, kc_72, kc_78, kc_97, kc_99, kc_122, kc_126, kc_128, kc_192, kc_200, kc_255, kc_999, kc_1000, kc_9999, kn_9999, kc_10000, kc_12345, kc_65536, kc_252645135, kc_858993459, kc_1103515245, kc_1431655765, kc_2147483647, kc_0, kc_24, kc_28, kc_37, kc_41, kc_42, kc_73, kc_91, kc_95, kc_96, kc_98, kc_100, kc_112, kc_125, kc_150, kc_162, kc_163, kc_168, kc_186, kc_190, kc_250, kc_355, kc_356, kc_404, kc_405, kc_429, kc_573, kc_1002, kc_1100, kc_1891, kc_2200, kc_4719, kc_4869, kc_4881, kc_5148, kc_19741, kc_25433, kc_320403, kc_628412, kc_629093, kc_660401, kc_679843, kc_918640, kc_979410, kc_1178088, kc_6232410, kc_24644941, kc_36238189, kc_38270444, kc_392531318, kc_425693491, kc_1342154595, kc_2147483648, kc_42328242873, kc_891704255789, kc_1722105685577, kc_1858726030364, ct_0, ct_1, ct_2, ct_3, ct_4, ct_5, cf_0, cf_1, cf_2, cf_3, cf_4, cf_5, w_ty6, w_ty7, m_sv, m_z0, m_hd, m_g0, m_gs, m_s0, m_ss, m_ap, m_an, forall_const, true_and, and_true, ne_eq, not_true_eq_false, not_false_eq_true, false_implies, true_implies, implies_true, eq_self, reduceCtorEq, Nat.reduceDiv, Nat.reduceMod, Int.reduceToNat, or_true, true_or, or_false, false_or, or_self, m_it, m_if, m_c1, m_01, m_02, m_03, m_04, m_10, m_12, m_13, m_14, m_20, m_21, m_23, m_24, m_30, m_31, m_32, m_34, m_40, m_41, m_42, m_43, Int.reduceLE, Int.reduceLT, Int.reduceGE, Int.reduceGT, Int.reduceNeg, Int.reduceAdd, Int.reduceSub, Int.reduceMul, Int.reduceEq, Int.reduceNe, Nat.reduceAdd, jun2, ro_0_0, ro_0_1, ro_0_2, ro_0_3, ro_0_4, ro_0_5, ro_0_6, ro_0_7, ro_0_8, ro_0_9, ro_0_10, ro_0_11, ro_0_12, ro_1_0, ro_1_1, ro_2_0, ro_4_0, ro_6_0, ro_6_1, ro_6_2, ro_6_3, ro_6_4, ro_6_5, ro_6_6, ro_6_7, ro_6_8, ro_8_0, ro_10_0, ro_12_0, ro_14_0, ro_16_0, ro_18_0, ro_20_0, ro_22_0, ro_22_1, ro_22_2, ro_23_0, ro_25_0, ro_27_0, ro_29_0, ro_29_1, ro_29_2, ro_29_3, ro_29_4, ro_29_5, ro_29_6, ro_29_7, ro_29_8, ro_31_0, ro_33_0, ro_35_0, ro_37_0, ro_39_0, ro_41_0, ro_43_0, ro_45_0, ro_45_1, ro_45_2, ro_46_0, ro_48_0, ro_50_0, ro_52_0, ro_52_1, ro_52_2, ro_52_3, ro_53_0, ro_55_0, ro_57_0, ro_59_0, ro_61_0, ro_61_1, ro_61_2, ro_61_3, ro_62_0, ro_64_0, ro_66_0, ro_68_0, ro_70_0, ro_70_1, ro_70_2, ro_70_3, ro_70_4, ro_70_5, ro_70_6, ro_70_7, ro_70_8, ro_70_9, ro_71_0, ro_73_0, ro_75_0, ro_77_0, ro_79_0, ro_81_0, ro_83_0, ro_85_0, ro_87_0, ro_89_0, ro_91_0, ro_91_1, ro_91_2, ro_91_3, ro_91_4, ro_91_5, ro_91_6, ro_91_7, ro_91_8, ro_91_9, ro_92_0, ro_94_0, ro_96_0, ro_98_0, ro_100_0, ro_102_0, ro_104_0, ro_106_0, ro_108_0, ro_110_0, ro_112_0, ro_112_1, ro_112_2, ro_112_3, ro_112_4, ro_112_5, ro_112_6, ro_112_7, ro_112_8, ro_112_9, ro_113_0, ro_115_0, ro_117_0, ro_119_0, ro_121_0, ro_123_0, ro_125_0, ro_127_0, ro_129_0, ro_131_0, ro_133_0, ro_133_1, ro_133_2, ro_133_3, ro_133_4, ro_133_5, ro_133_6, ro_133_7, ro_133_8, ro_133_9, ro_134_0, ro_136_0, ro_138_0, ro_140_0, ro_142_0, ro_144_0, ro_146_0, ro_148_0, ro_150_0, ro_152_0, ro_154_0, ro_155_0, ro_157_0, ro_157_1, ro_157_2, ro_157_3, ro_157_4, ro_157_5, ro_157_6, ro_157_7, ro_157_8, ro_157_9, ro_158_0, ro_160_0, ro_162_0, ro_164_0, ro_166_0, ro_168_0, ro_170_0, ro_172_0, ro_174_0, ro_176_0, ro_178_0, ro_180_0, ro_182_1, ro_182_4, ro_182_5, ro_182_6, ro_182_9, ro_182_10, ro_182_11, ro_182_13, ro_182_14, ro_182_15, ro_182_16, ro_182_17, ro_182_20, ro_182_21, ro_182_22, ro_182_23, ro_182_24, ro_182_26, ro_182_27, ro_182_28, lo_3, lo_5, lo_7, lo_9, lo_11, lo_13, lo_15, lo_17, lo_19, lo_21, lo_24, lo_26, lo_28, lo_30, lo_32, lo_34, lo_36, lo_38, lo_40, lo_42, lo_44, lo_47, lo_49, lo_51, lo_54, lo_56, lo_58, lo_60, lo_63, lo_65, lo_67, lo_69, lo_72, lo_74, lo_76, lo_78, lo_80, lo_82, lo_84, lo_86, lo_88, lo_90, lo_93, lo_95, lo_97, lo_99, lo_101, lo_103, lo_105, lo_107, lo_109, lo_111, lo_114, lo_116, lo_118, lo_120, lo_122, lo_124, lo_126, lo_128, lo_130, lo_132, lo_135, lo_137, lo_139, lo_141, lo_143, lo_145, lo_147, lo_149, lo_151, lo_153, lo_156, lo_159, lo_161, lo_163, lo_165, lo_167, lo_169, lo_171, lo_173, lo_175, lo_177, lo_179, lo_181, lo_183, lo_184, lo_185, lo_186, lo_187, lo_188, lo_189, lo_190, lo_191, lo_192, lo_193, lo_194, lo_195, lo_196, lo_197, lo_198, lo_199, lo_200, lo_201, lo_202, lo_203, jp_nn, jp_eq, jp_e1, Classical.not_not, ji0, ji1, ji2, cs46_198, kk_198, cs46_225, kk_225, cs46_228, kk_228, cs46_264, kk_264, cs46_259, kk_259f, cs46_285, kk_285f, cs46_287, kk_287f, cs46_274, kk_274, cs46_298, kk_298, cs46_309, kk_309, jl_0, jl_1, jl_2, jl_3, jl_4, jl_5, jl_6, jl_7, jl_8, jl_9, jl_10, jl_11, jl_12, jl_13, jl_14, jl_15, jl_16, jl_17, jl_18, jl_19, jl_20, jl_21, jl_22, jl_23, jl_24, jl_25, jl_26, jl_27, jl_28, jl_29, jl_30, jl_31, jl_32, jl_33, jl_34, jl_35, jl_36, jl_37, jl_38, jl_39, jl_40, jl_95, jl_96, jl_97, jl_98, jl_99, jl_100, jl_101, jl_102, jl_103, jl_104, jl_105, jl_106, jl_107, jl_108, jl_109, jl_110, jl_111, jl_112, jl_113, jl_114, jl_186, jl_1100, jr, ju, jpT, jpF, tnc, Nat.reduceEqDiff, reduceIte, and_false, false_and, not_true_eq_false, not_false_eq_true, or_false, gt_iff_lt, ge_iff_le, Int.lt_irrefl, Int.le_refl, z1, z2, z3, z1', z2', z3', e3_w, e0, ek]
                have d1_w := Nat.mod_lt (dG g / 65536) (show 0 < (h 188 3).toNat by omega)
                have d2_w := Nat.mod_lt (dG (dG g) / 65536) (show 0 < (h 188 0).toNat by omega)
                refine ⟨g, (h 188 3).toNat, eg, g31, by omega, by omega, by omega, dG g, (h 188 0).toNat, rfl, Nat.mod_lt _ (by decide), by omega, by omega, by omega, dG (dG g), 200, rfl, Nat.mod_lt _ (by decide), rfl, by decide, by decide, 4719, dG g / 65536 % (h 188 3).toNat, dG (dG g) / 65536 % (h 188 0).toNat, rfl, by decide, rfl, by omega, rfl, by omega, ?_⟩
                refine ⟨n + 1, dG (dG (dG g)), _, _, rfl, by omega, BKq.tr b2 ?_, ?_, ?_, Nat.mod_lt _ (by decide)⟩
                · exact BKq.tr (BKq.u (fun z => by omega)) (BKq.tr (BKq.u (fun z => by omega)) (BKq.tr (BKq.u (fun z => by omega)) (BKq.u (fun z => by omega))))
                · exact r2
                · first | rfl | exact up_eq
              · have z3' : h 188 0 ≤ 0 := by omega
                simp only [qe_1, qe_3, qe_4, qe_5, qe_7, qe_72, qe_10, qe_102, qe_13, qe_14, qe_15, qe_16, qe_17, qe_18, qe_20, qe_22, qe_23, qe_21, qe_24, qe_25, qe_26, qe_27, qe_28, qe_30, qe_31, qe_32, qc_20, qc_22, qc_23, qc_21, qc_24, qc_25, qc_26, qc_27, qc_1, qc_3, qc_4, qc_7, qc_13, qc_28, qc_32, qs_1, qs_2, qs_3, qs_4, qs_5, qs_6, qs_9, qs_10, qs_11, qs_14, qs_15, qs_16, qs_27, qs_17, qs_18, qs_19, qs_20, qs_22, qs_23, qs_28, qs_25, qs_26, qs_7, qs_8, kc_1, kn_1, kc_2, kn_2, kc_3, kn_3, kc_4, kn_4, kc_5, kn_5, kc_6, kn_6, kc_7, kn_7, kc_8, kn_8, kc_9, kn_9, kc_10, kn_10, kc_11, kn_11, kc_12, kn_12, kc_13, kn_13, kc_14, kn_14, kc_15, kn_15, kc_16, kc_17, kc_18, kc_19, kc_20, kc_21, kc_22, kc_23, kc_30, kc_32, kc_40, kc_43, kc_45, kc_48, kc_52, kc_56, kc_57, kc_59, kc_60, kc_61, kc_63, kc_64, kc_72, kc_78, kc_97, kc_99, kc_122, kc_126, kc_128, kc_192, kc_200, kc_255, kc_999, kc_1000, kc_9999, kn_9999, kc_10000, kc_12345, kc_65536, kc_252645135, kc_858993459, kc_1103515245, kc_1431655765, kc_2147483647, kc_0, kc_24, kc_28, kc_37, kc_41, kc_42, kc_73, kc_91, kc_95, kc_96, kc_98, kc_100, kc_112, kc_125, kc_150, kc_162, kc_163, kc_168, kc_186, kc_190, kc_250, kc_355, kc_356, kc_404, kc_405, kc_429, kc_573, kc_1002, kc_1100, kc_1891, kc_2200, kc_4719, kc_4869, kc_4881, kc_5148, kc_19741, kc_25433, kc_320403, kc_628412, kc_629093, kc_660401, kc_679843, kc_918640, kc_979410, kc_1178088, kc_6232410, kc_24644941, kc_36238189, kc_38270444, kc_392531318, kc_425693491, kc_1342154595, kc_2147483648, kc_42328242873, kc_891704255789, kc_1722105685577, kc_1858726030364, ct_0, ct_1, ct_2, ct_3, ct_4, ct_5, cf_0, cf_1, cf_2, cf_3, cf_4, cf_5, w_ty6, w_ty7, m_sv, m_z0, m_hd, m_g0, m_gs, m_s0, m_ss, m_ap, m_an, forall_const, true_and, and_true, ne_eq, not_true_eq_false, not_false_eq_true, false_implies, true_implies, implies_true, eq_self, reduceCtorEq, Nat.reduceDiv, Nat.reduceMod, Int.reduceToNat, or_true, true_or, or_false, false_or, or_self, m_it, m_if, m_c1, m_01, m_02, m_03, m_04, m_10, m_12, m_13, m_14, m_20, m_21, m_23, m_24, m_30, m_31, m_32, m_34, m_40, m_41, m_42, m_43, Int.reduceLE, Int.reduceLT, Int.reduceGE, Int.reduceGT, Int.reduceNeg, Int.reduceAdd, Int.reduceSub, Int.reduceMul, Int.reduceEq, Int.reduceNe, Nat.reduceAdd, jun2, ro_0_0, ro_0_1, ro_0_2, ro_0_3, ro_0_4, ro_0_5, ro_0_6, ro_0_7, ro_0_8, ro_0_9, ro_0_10, ro_0_11, ro_0_12, ro_1_0, ro_1_1, ro_2_0, ro_4_0, ro_6_0, ro_6_1, ro_6_2, ro_6_3, ro_6_4, ro_6_5, ro_6_6, ro_6_7, ro_6_8, ro_8_0, ro_10_0, ro_12_0, ro_14_0, ro_16_0, ro_18_0, ro_20_0, ro_22_0, ro_22_1, ro_22_2, ro_23_0, ro_25_0, ro_27_0, ro_29_0, ro_29_1, ro_29_2, ro_29_3, ro_29_4, ro_29_5, ro_29_6, ro_29_7, ro_29_8, ro_31_0, ro_33_0, ro_35_0, ro_37_0, ro_39_0, ro_41_0, ro_43_0, ro_45_0, ro_45_1, ro_45_2, ro_46_0, ro_48_0, ro_50_0, ro_52_0, ro_52_1, ro_52_2, ro_52_3, ro_53_0, ro_55_0, ro_57_0, ro_59_0, ro_61_0, ro_61_1, ro_61_2, ro_61_3, ro_62_0, ro_64_0, ro_66_0, ro_68_0, ro_70_0, ro_70_1, ro_70_2, ro_70_3, ro_70_4, ro_70_5, ro_70_6, ro_70_7, ro_70_8, ro_70_9, ro_71_0, ro_73_0, ro_75_0, ro_77_0, ro_79_0, ro_81_0, ro_83_0, ro_85_0, ro_87_0, ro_89_0, ro_91_0, ro_91_1, ro_91_2, ro_91_3, ro_91_4, ro_91_5, ro_91_6, ro_91_7, ro_91_8, ro_91_9, ro_92_0, ro_94_0, ro_96_0, ro_98_0, ro_100_0, ro_102_0, ro_104_0, ro_106_0, ro_108_0, ro_110_0, ro_112_0, ro_112_1, ro_112_2, ro_112_3, ro_112_4, ro_112_5, ro_112_6, ro_112_7, ro_112_8, ro_112_9, ro_113_0, ro_115_0, ro_117_0, ro_119_0, ro_121_0, ro_123_0, ro_125_0, ro_127_0, ro_129_0, ro_131_0, ro_133_0, ro_133_1, ro_133_2, ro_133_3, ro_133_4, ro_133_5, ro_133_6, ro_133_7, ro_133_8, ro_133_9, ro_134_0, ro_136_0, ro_138_0, ro_140_0, ro_142_0, ro_144_0, ro_146_0, ro_148_0, ro_150_0, ro_152_0, ro_154_0, ro_155_0, ro_157_0, ro_157_1, ro_157_2, ro_157_3, ro_157_4, ro_157_5, ro_157_6, ro_157_7, ro_157_8, ro_157_9, ro_158_0, ro_160_0, ro_162_0, ro_164_0, ro_166_0, ro_168_0, ro_170_0, ro_172_0, ro_174_0, ro_176_0, ro_178_0, ro_180_0, ro_182_1, ro_182_4, ro_182_5, ro_182_6, ro_182_9, ro_182_10, ro_182_11, ro_182_13, ro_182_14, ro_182_15, ro_182_16, ro_182_17, ro_182_20, ro_182_21, ro_182_22, ro_182_23, ro_182_24, ro_182_26, ro_182_27, ro_182_28, lo_3, lo_5, lo_7, lo_9, lo_11, lo_13, lo_15, lo_17, lo_19, lo_21, lo_24, lo_26, lo_28, lo_30, lo_32, lo_34, lo_36, lo_38, lo_40, lo_42, lo_44, lo_47, lo_49, lo_51, lo_54, lo_56, lo_58, lo_60, lo_63, lo_65, lo_67, lo_69, lo_72, lo_74, lo_76, lo_78, lo_80, lo_82, lo_84, lo_86, lo_88, lo_90, lo_93, lo_95, lo_97, lo_99, lo_101, lo_103, lo_105, lo_107, lo_109, lo_111, lo_114, lo_116, lo_118, lo_120, lo_122, lo_124, lo_126, lo_128, lo_130, lo_132, lo_135, lo_137, lo_139, lo_141, lo_143, lo_145, lo_147, lo_149, lo_151, lo_153, lo_156, lo_159, lo_161, lo_163, lo_165, lo_167, lo_169, lo_171, lo_173, lo_175, lo_177, lo_179, lo_181, lo_183, lo_184, lo_185, lo_186, lo_187, lo_188, lo_189, lo_190, lo_191, lo_192, lo_193, lo_194, lo_195, lo_196, lo_197, lo_198, lo_199, lo_200, lo_201, lo_202, lo_203, jp_nn, jp_eq, jp_e1, Classical.not_not, ji0, ji1, ji2, cs46_198, kk_198, cs46_225, kk_225, cs46_228, kk_228, cs46_264, kk_264, cs46_259, kk_259f, cs46_285, kk_285f, cs46_287, kk_287f, cs46_274, kk_274, cs46_298, kk_298, cs46_309, kk_309, jl_0, jl_1, jl_2, jl_3, jl_4, jl_5, jl_6, jl_7, jl_8, jl_9, jl_10, jl_11, jl_12, jl_13, jl_14, jl_15, jl_16, jl_17, jl_18, jl_19, jl_20, jl_21, jl_22, jl_23, jl_24, jl_25, jl_26, jl_27, jl_28, jl_29, jl_30, jl_31, jl_32, jl_33, jl_34, jl_35, jl_36, jl_37, jl_38, jl_39, jl_40, jl_95, jl_96, jl_97, jl_98, jl_99, jl_100, jl_101, jl_102, jl_103, jl_104, jl_105, jl_106, jl_107, jl_108, jl_109, jl_110, jl_111, jl_112, jl_113, jl_114, jl_186, jl_1100, jr, ju, jpT, jpF, tnc, Nat.reduceEqDiff, reduceIte, and_false, false_and, not_true_eq_false, not_false_eq_true, or_false, gt_iff_lt, ge_iff_le, Int.lt_irrefl, Int.le_refl, z1, z2, z3, z1', z2', z3', e3_w, e0]
                refine ⟨fun _ k r h3 f _ => hQ _ _ _ (BKq.tr b2 (BKq.fr f (by decide))), fun _ => ?_⟩
                refine qp_lp (fun en h' => ∃ x y z : Int, en = [182, a, b, w, x, y, z] ∧ BKq h h' ∧ h' 188 = h 188) ⟨_, _, _, rfl, b2, r2⟩ ?_
                intro en h4 ⟨x1_w, x2_w, x3, e5_w, b5, r5_w⟩
                subst e5_w
                simp only [qe_1, qe_3, qe_4, qe_5, qe_7, qe_72, qe_10, qe_102, qe_13, qe_14, qe_15, qe_16, qe_17, qe_18, qe_20, qe_22, qe_23, qe_21, qe_24, qe_25, qe_26, qe_27, qe_28, qe_30, qe_31, qe_32, qc_20, qc_22, qc_23, qc_21, qc_24, qc_25, qc_26, qc_27, qc_1, qc_3, qc_4, qc_7, qc_13, qc_28, qc_32, qs_1, qs_2, qs_3, qs_4, qs_5, qs_6, qs_9, qs_10, qs_11, qs_14, qs_15, qs_16, qs_27, qs_17, qs_18, qs_19, qs_20, qs_22, qs_23, qs_28, qs_25, qs_26, qs_7, qs_8, kc_1, kn_1, kc_2, kn_2, kc_3, kn_3, kc_4, kn_4, kc_5, kn_5, kc_6, kn_6, kc_7, kn_7, kc_8, kn_8, kc_9, kn_9, kc_10, kn_10, kc_11, kn_11, kc_12, kn_12, kc_13, kn_13, kc_14, kn_14, kc_15, kn_15, kc_16, kc_17, kc_18, kc_19, kc_20, kc_21, kc_22, kc_23, kc_30, kc_32, kc_40, kc_43, kc_45, kc_48, kc_52, kc_56, kc_57, kc_59, kc_60, kc_61, kc_63, kc_64, kc_72, kc_78, kc_97, kc_99, kc_122, kc_126, kc_128, kc_192, kc_200, kc_255, kc_999, kc_1000, kc_9999, kn_9999, kc_10000, kc_12345, kc_65536, kc_252645135, kc_858993459, kc_1103515245, kc_1431655765, kc_2147483647, kc_0, kc_24, kc_28, kc_37, kc_41, kc_42, kc_73, kc_91, kc_95, kc_96, kc_98, kc_100, kc_112, kc_125, kc_150, kc_162, kc_163, kc_168, kc_186, kc_190, kc_250, kc_355, kc_356, kc_404, kc_405, kc_429, kc_573, kc_1002, kc_1100, kc_1891, kc_2200, kc_4719, kc_4869, kc_4881, kc_5148, kc_19741, kc_25433, kc_320403, kc_628412, kc_629093, kc_660401, kc_679843, kc_918640, kc_979410, kc_1178088, kc_6232410, kc_24644941, kc_36238189, kc_38270444, kc_392531318, kc_425693491, kc_1342154595, kc_2147483648, kc_42328242873, kc_891704255789, kc_1722105685577, kc_1858726030364, ct_0, ct_1, ct_2, ct_3, ct_4, ct_5, cf_0, cf_1, cf_2, cf_3, cf_4, cf_5, w_ty6, w_ty7, m_sv, m_z0, m_hd, m_g0, m_gs, m_s0, m_ss, m_ap, m_an, forall_const, true_and, and_true, ne_eq, not_true_eq_false, not_false_eq_true, false_implies, true_implies, implies_true, eq_self, reduceCtorEq, Nat.reduceDiv, Nat.reduceMod, Int.reduceToNat, or_true, true_or, or_false, false_or, or_self, m_it, m_if, m_c1, m_01, m_02, m_03, m_04, m_10, m_12, m_13, m_14, m_20, m_21, m_23, m_24, m_30, m_31, m_32, m_34, m_40, m_41, m_42, m_43, Int.reduceLE, Int.reduceLT, Int.reduceGE, Int.reduceGT, Int.reduceNeg, Int.reduceAdd, Int.reduceSub, Int.reduceMul, Int.reduceEq, Int.reduceNe, Nat.reduceAdd, jun2, ro_0_0, ro_0_1, ro_0_2, ro_0_3, ro_0_4, ro_0_5, ro_0_6, ro_0_7, ro_0_8, ro_0_9, ro_0_10, ro_0_11, ro_0_12, ro_1_0, ro_1_1, ro_2_0, ro_4_0, ro_6_0, ro_6_1, ro_6_2, ro_6_3, ro_6_4, ro_6_5, ro_6_6, ro_6_7, ro_6_8, ro_8_0, ro_10_0, ro_12_0, ro_14_0, ro_16_0, ro_18_0, ro_20_0, ro_22_0, ro_22_1, ro_22_2, ro_23_0, ro_25_0, ro_27_0, ro_29_0, ro_29_1, ro_29_2, ro_29_3, ro_29_4, ro_29_5, ro_29_6, ro_29_7, ro_29_8, ro_31_0, ro_33_0, ro_35_0, ro_37_0, ro_39_0, ro_41_0, ro_43_0, ro_45_0, ro_45_1, ro_45_2, ro_46_0, ro_48_0, ro_50_0, ro_52_0, ro_52_1, ro_52_2, ro_52_3, ro_53_0, ro_55_0, ro_57_0, ro_59_0, ro_61_0, ro_61_1, ro_61_2, ro_61_3, ro_62_0, ro_64_0, ro_66_0, ro_68_0, ro_70_0, ro_70_1, ro_70_2, ro_70_3, ro_70_4, ro_70_5, ro_70_6, ro_70_7, ro_70_8, ro_70_9, ro_71_0, ro_73_0, ro_75_0, ro_77_0, ro_79_0, ro_81_0, ro_83_0, ro_85_0, ro_87_0, ro_89_0, ro_91_0, ro_91_1, ro_91_2, ro_91_3, ro_91_4, ro_91_5, ro_91_6, ro_91_7, ro_91_8, ro_91_9, ro_92_0, ro_94_0, ro_96_0, ro_98_0, ro_100_0, ro_102_0, ro_104_0, ro_106_0, ro_108_0, ro_110_0, ro_112_0, ro_112_1, ro_112_2, ro_112_3, ro_112_4, ro_112_5, ro_112_6, ro_112_7, ro_112_8, ro_112_9, ro_113_0, ro_115_0, ro_117_0, ro_119_0, ro_121_0, ro_123_0, ro_125_0, ro_127_0, ro_129_0, ro_131_0, ro_133_0, ro_133_1, ro_133_2, ro_133_3, ro_133_4, ro_133_5, ro_133_6, ro_133_7, ro_133_8, ro_133_9, ro_134_0, ro_136_0, ro_138_0, ro_140_0, ro_142_0, ro_144_0, ro_146_0, ro_148_0, ro_150_0, ro_152_0, ro_154_0, ro_155_0, ro_157_0, ro_157_1, ro_157_2, ro_157_3, ro_157_4, ro_157_5, ro_157_6, ro_157_7, ro_157_8, ro_157_9, ro_158_0, ro_160_0, ro_162_0, ro_164_0, ro_166_0, ro_168_0, ro_170_0, ro_172_0, ro_174_0, ro_176_0, ro_178_0, ro_180_0, ro_182_1, ro_182_4, ro_182_5, ro_182_6, ro_182_9, ro_182_10, ro_182_11, ro_182_13, ro_182_14, ro_182_15, ro_182_16, ro_182_17, ro_182_20, ro_182_21, ro_182_22, ro_182_23, ro_182_24, ro_182_26, ro_182_27, ro_182_28, lo_3, lo_5, lo_7, lo_9, lo_11, lo_13, lo_15, lo_17, lo_19, lo_21, lo_24, lo_26, lo_28, lo_30, lo_32, lo_34, lo_36, lo_38, lo_40, lo_42, lo_44, lo_47, lo_49, lo_51, lo_54, lo_56, lo_58, lo_60, lo_63, lo_65, lo_67, lo_69, lo_72, lo_74, lo_76, lo_78, lo_80, lo_82, lo_84, lo_86, lo_88, lo_90, lo_93, lo_95, lo_97, lo_99, lo_101, lo_103, lo_105, lo_107, lo_109, lo_111, lo_114, lo_116, lo_118, lo_120, lo_122, lo_124, lo_126, lo_128, lo_130, lo_132, lo_135, lo_137, lo_139, lo_141, lo_143, lo_145, lo_147, lo_149, lo_151, lo_153, lo_156, lo_159, lo_161, lo_163, lo_165, lo_167, lo_169, lo_171, lo_173, lo_175, lo_177, lo_179, lo_181, lo_183, lo_184, lo_185, lo_186, lo_187, lo_188, lo_189, lo_190, lo_191, lo_192, lo_193, lo_194, lo_195, lo_196, lo_197, lo_198, lo_199, lo_200, lo_201, lo_202, lo_203, jp_nn, jp_eq, jp_e1, Classical.not_not, ji0, ji1, ji2, cs46_198, kk_198, cs46_225, kk_225, cs46_228, kk_228, cs46_264, kk_264, cs46_259, kk_259f, cs46_285, kk_285f, cs46_287, kk_287f, cs46_274, kk_274, cs46_298, kk_298, cs46_309, kk_309, jl_0, jl_1, jl_2, jl_3, jl_4, jl_5, jl_6, jl_7, jl_8, jl_9, jl_10, jl_11, jl_12, jl_13, jl_14, jl_15, jl_16, jl_17, jl_18, jl_19, jl_20, jl_21, jl_22, jl_23, jl_24, jl_25, jl_26, jl_27, jl_28, jl_29, jl_30, jl_31, jl_32, jl_33, jl_34, jl_35, jl_36, jl_37, jl_38, jl_39, jl_40, jl_95, jl_96, jl_97, jl_98, jl_99, jl_100, jl_101, jl_102, jl_103, jl_104, jl_105, jl_106, jl_107, jl_108, jl_109, jl_110, jl_111, jl_112, jl_113, jl_114, jl_186, jl_1100, jr, ju, jpT, jpF, tnc, Nat.reduceEqDiff, reduceIte, and_false, false_and, not_true_eq_false, not_false_eq_true, or_false, gt_iff_lt, ge_iff_le, Int.lt_irrefl, Int.le_refl]
                refine ⟨fun _ k r h5 f5_w _ => ?_, fun _ => ⟨fun _ => hQ _ _ _ b5, fun _ k r h5 f5_w _ => hQ _ _ _ (BKq.tr b5 (BKq.fr f5_w (by decide)))⟩⟩
                have bb := BKq.tr b5 (BKq.fr f5_w (by decide))
                have rr : h5 188 = h 188 := (f5_w.row rfl (by decide)).trans r5_w
                exact ⟨fun _ => ⟨_, _, _, rfl, bb, rr⟩, fun _ => ⟨_, _, _, rfl, bb, rr⟩⟩
            · have z2' : h 188 3 ≤ 0 := by omega
              simp only [qe_1, qe_3, qe_4, qe_5, qe_7, qe_72, qe_10, qe_102, qe_13, qe_14, qe_15, qe_16, qe_17, qe_18, qe_20, qe_22, qe_23, qe_21, qe_24, qe_25, qe_26, qe_27, qe_28, qe_30, qe_31, qe_32, qc_20, qc_22, qc_23, qc_21, qc_24, qc_25, qc_26, qc_27, qc_1, qc_3, qc_4, qc_7, qc_13, qc_28, qc_32, qs_1, qs_2, qs_3, qs_4, qs_5, qs_6, qs_9, qs_10, qs_11, qs_14, qs_15, qs_16, qs_27, qs_17, qs_18, qs_19, qs_20, qs_22, qs_23, qs_28, qs_25, qs_26, qs_7, qs_8, kc_1, kn_1, kc_2, kn_2, kc_3, kn_3, kc_4, kn_4, kc_5, kn_5, kc_6, kn_6, kc_7, kn_7, kc_8, kn_8, kc_9, kn_9, kc_10, kn_10, kc_11, kn_11, kc_12, kn_12, kc_13, kn_13, kc_14, kn_14, kc_15, kn_15, kc_16, kc_17, kc_18, kc_19, kc_20, kc_21, kc_22, kc_23, kc_30, kc_32, kc_40, kc_43, kc_45, kc_48, kc_52, kc_56, kc_57, kc_59, kc_60, kc_61, kc_63, kc_64, kc_72, kc_78, kc_97, kc_99, kc_122, kc_126, kc_128, kc_192, kc_200, kc_255, kc_999, kc_1000, kc_9999, kn_9999, kc_10000, kc_12345, kc_65536, kc_252645135, kc_858993459, kc_1103515245, kc_1431655765, kc_2147483647, kc_0, kc_24, kc_28, kc_37, kc_41, kc_42, kc_73, kc_91, kc_95, kc_96, kc_98, kc_100, kc_112, kc_125, kc_150, kc_162, kc_163, kc_168, kc_186, kc_190, kc_250, kc_355, kc_356, kc_404, kc_405, kc_429, kc_573, kc_1002, kc_1100, kc_1891, kc_2200, kc_4719, kc_4869, kc_4881, kc_5148, kc_19741, kc_25433, kc_320403, kc_628412, kc_629093, kc_660401, kc_679843, kc_918640, kc_979410, kc_1178088, kc_6232410, kc_24644941, kc_36238189, kc_38270444, kc_392531318, kc_425693491, kc_1342154595, kc_2147483648, kc_42328242873, kc_891704255789, kc_1722105685577, kc_1858726030364, ct_0, ct_1, ct_2, ct_3, ct_4, ct_5, cf_0, cf_1, cf_2, cf_3, cf_4, cf_5, w_ty6, w_ty7, m_sv, m_z0, m_hd, m_g0, m_gs, m_s0, m_ss, m_ap, m_an, forall_const, true_and, and_true, ne_eq, not_true_eq_false, not_false_eq_true, false_implies, true_implies, implies_true, eq_self, reduceCtorEq, Nat.reduceDiv, Nat.reduceMod, Int.reduceToNat, or_true, true_or, or_false, false_or, or_self, m_it, m_if, m_c1, m_01, m_02, m_03, m_04, m_10, m_12, m_13, m_14, m_20, m_21, m_23, m_24, m_30, m_31, m_32, m_34, m_40, m_41, m_42, m_43, Int.reduceLE, Int.reduceLT, Int.reduceGE, Int.reduceGT, Int.reduceNeg, Int.reduceAdd, Int.reduceSub, Int.reduceMul, Int.reduceEq, Int.reduceNe, Nat.reduceAdd, jun2, ro_0_0, ro_0_1, ro_0_2, ro_0_3, ro_0_4, ro_0_5, ro_0_6, ro_0_7, ro_0_8, ro_0_9, ro_0_10, ro_0_11, ro_0_12, ro_1_0, ro_1_1, ro_2_0, ro_4_0, ro_6_0, ro_6_1, ro_6_2, ro_6_3, ro_6_4, ro_6_5, ro_6_6, ro_6_7, ro_6_8, ro_8_0, ro_10_0, ro_12_0, ro_14_0, ro_16_0, ro_18_0, ro_20_0, ro_22_0, ro_22_1, ro_22_2, ro_23_0, ro_25_0, ro_27_0, ro_29_0, ro_29_1, ro_29_2, ro_29_3, ro_29_4, ro_29_5, ro_29_6, ro_29_7, ro_29_8, ro_31_0, ro_33_0, ro_35_0, ro_37_0, ro_39_0, ro_41_0, ro_43_0, ro_45_0, ro_45_1, ro_45_2, ro_46_0, ro_48_0, ro_50_0, ro_52_0, ro_52_1, ro_52_2, ro_52_3, ro_53_0, ro_55_0, ro_57_0, ro_59_0, ro_61_0, ro_61_1, ro_61_2, ro_61_3, ro_62_0, ro_64_0, ro_66_0, ro_68_0, ro_70_0, ro_70_1, ro_70_2, ro_70_3, ro_70_4, ro_70_5, ro_70_6, ro_70_7, ro_70_8, ro_70_9, ro_71_0, ro_73_0, ro_75_0, ro_77_0, ro_79_0, ro_81_0, ro_83_0, ro_85_0, ro_87_0, ro_89_0, ro_91_0, ro_91_1, ro_91_2, ro_91_3, ro_91_4, ro_91_5, ro_91_6, ro_91_7, ro_91_8, ro_91_9, ro_92_0, ro_94_0, ro_96_0, ro_98_0, ro_100_0, ro_102_0, ro_104_0, ro_106_0, ro_108_0, ro_110_0, ro_112_0, ro_112_1, ro_112_2, ro_112_3, ro_112_4, ro_112_5, ro_112_6, ro_112_7, ro_112_8, ro_112_9, ro_113_0, ro_115_0, ro_117_0, ro_119_0, ro_121_0, ro_123_0, ro_125_0, ro_127_0, ro_129_0, ro_131_0, ro_133_0, ro_133_1, ro_133_2, ro_133_3, ro_133_4, ro_133_5, ro_133_6, ro_133_7, ro_133_8, ro_133_9, ro_134_0, ro_136_0, ro_138_0, ro_140_0, ro_142_0, ro_144_0, ro_146_0, ro_148_0, ro_150_0, ro_152_0, ro_154_0, ro_155_0, ro_157_0, ro_157_1, ro_157_2, ro_157_3, ro_157_4, ro_157_5, ro_157_6, ro_157_7, ro_157_8, ro_157_9, ro_158_0, ro_160_0, ro_162_0, ro_164_0, ro_166_0, ro_168_0, ro_170_0, ro_172_0, ro_174_0, ro_176_0, ro_178_0, ro_180_0, ro_182_1, ro_182_4, ro_182_5, ro_182_6, ro_182_9, ro_182_10, ro_182_11, ro_182_13, ro_182_14, ro_182_15, ro_182_16, ro_182_17, ro_182_20, ro_182_21, ro_182_22, ro_182_23, ro_182_24, ro_182_26, ro_182_27, ro_182_28, lo_3, lo_5, lo_7, lo_9, lo_11, lo_13, lo_15, lo_17, lo_19, lo_21, lo_24, lo_26, lo_28, lo_30, lo_32, lo_34, lo_36, lo_38, lo_40, lo_42, lo_44, lo_47, lo_49, lo_51, lo_54, lo_56, lo_58, lo_60, lo_63, lo_65, lo_67, lo_69, lo_72, lo_74, lo_76, lo_78, lo_80, lo_82, lo_84, lo_86, lo_88, lo_90, lo_93, lo_95, lo_97, lo_99, lo_101, lo_103, lo_105, lo_107, lo_109, lo_111, lo_114, lo_116, lo_118, lo_120, lo_122, lo_124, lo_126, lo_128, lo_130, lo_132, lo_135, lo_137, lo_139, lo_141, lo_143, lo_145, lo_147, lo_149, lo_151, lo_153, lo_156, lo_159, lo_161, lo_163, lo_165, lo_167, lo_169, lo_171, lo_173, lo_175, lo_177, lo_179, lo_181, lo_183, lo_184, lo_185, lo_186, lo_187, lo_188, lo_189, lo_190, lo_191, lo_192, lo_193, lo_194, lo_195, lo_196, lo_197, lo_198, lo_199, lo_200, lo_201, lo_202, lo_203, jp_nn, jp_eq, jp_e1, Classical.not_not, ji0, ji1, ji2, cs46_198, kk_198, cs46_225, kk_225, cs46_228, kk_228, cs46_264, kk_264, cs46_259, kk_259f, cs46_285, kk_285f, cs46_287, kk_287f, cs46_274, kk_274, cs46_298, kk_298, cs46_309, kk_309, jl_0, jl_1, jl_2, jl_3, jl_4, jl_5, jl_6, jl_7, jl_8, jl_9, jl_10, jl_11, jl_12, jl_13, jl_14, jl_15, jl_16, jl_17, jl_18, jl_19, jl_20, jl_21, jl_22, jl_23, jl_24, jl_25, jl_26, jl_27, jl_28, jl_29, jl_30, jl_31, jl_32, jl_33, jl_34, jl_35, jl_36, jl_37, jl_38, jl_39, jl_40, jl_95, jl_96, jl_97, jl_98, jl_99, jl_100, jl_101, jl_102, jl_103, jl_104, jl_105, jl_106, jl_107, jl_108, jl_109, jl_110, jl_111, jl_112, jl_113, jl_114, jl_186, jl_1100, jr, ju, jpT, jpF, tnc, Nat.reduceEqDiff, reduceIte, and_false, false_and, not_true_eq_false, not_false_eq_true, or_false, gt_iff_lt, ge_iff_le, Int.lt_irrefl, Int.le_refl, z1, z2, z1', z2', e3_w, e0]
              refine ⟨fun _ k r h3 f _ => hQ _ _ _ (BKq.tr b2 (BKq.fr f (by decide))), fun _ => ?_⟩
              refine qp_lp (fun en h' => ∃ x y z : Int, en = [182, a, b, w, x, y, z] ∧ BKq h h' ∧ h' 188 = h 188) ⟨_, _, _, rfl, b2, r2⟩ ?_
              intro en h4 ⟨x1_w, x2_w, x3, e5_w, b5, r5_w⟩
              subst e5_w
              simp only [qe_1, qe_3, qe_4, qe_5, qe_7, qe_72, qe_10, qe_102, qe_13, qe_14, qe_15, qe_16, qe_17, qe_18, qe_20, qe_22, qe_23, qe_21, qe_24, qe_25, qe_26, qe_27, qe_28, qe_30, qe_31, qe_32, qc_20, qc_22, qc_23, qc_21, qc_24, qc_25, qc_26, qc_27, qc_1, qc_3, qc_4, qc_7, qc_13, qc_28, qc_32, qs_1, qs_2, qs_3, qs_4, qs_5, qs_6, qs_9, qs_10, qs_11, qs_14, qs_15, qs_16, qs_27, qs_17, qs_18, qs_19, qs_20, qs_22, qs_23, qs_28, qs_25, qs_26, qs_7, qs_8, kc_1, kn_1, kc_2, kn_2, kc_3, kn_3, kc_4, kn_4, kc_5, kn_5, kc_6, kn_6, kc_7, kn_7, kc_8, kn_8, kc_9, kn_9, kc_10, kn_10, kc_11, kn_11, kc_12, kn_12, kc_13, kn_13, kc_14, kn_14, kc_15, kn_15, kc_16, kc_17, kc_18, kc_19, kc_20, kc_21, kc_22, kc_23, kc_30, kc_32, kc_40, kc_43, kc_45, kc_48, kc_52, kc_56, kc_57, kc_59, kc_60, kc_61, kc_63, kc_64, kc_72, kc_78, kc_97, kc_99, kc_122, kc_126, kc_128, kc_192, kc_200, kc_255, kc_999, kc_1000, kc_9999, kn_9999, kc_10000, kc_12345, kc_65536, kc_252645135, kc_858993459, kc_1103515245, kc_1431655765, kc_2147483647, kc_0, kc_24, kc_28, kc_37, kc_41, kc_42, kc_73, kc_91, kc_95, kc_96, kc_98, kc_100, kc_112, kc_125, kc_150, kc_162, kc_163, kc_168, kc_186, kc_190, kc_250, kc_355, kc_356, kc_404, kc_405, kc_429, kc_573, kc_1002, kc_1100, kc_1891, kc_2200, kc_4719, kc_4869, kc_4881, kc_5148, kc_19741, kc_25433, kc_320403, kc_628412, kc_629093, kc_660401, kc_679843, kc_918640, kc_979410, kc_1178088, kc_6232410, kc_24644941, kc_36238189, kc_38270444, kc_392531318, kc_425693491, kc_1342154595, kc_2147483648, kc_42328242873, kc_891704255789, kc_1722105685577, kc_1858726030364, ct_0, ct_1, ct_2, ct_3, ct_4, ct_5, cf_0, cf_1, cf_2, cf_3, cf_4, cf_5, w_ty6, w_ty7, m_sv, m_z0, m_hd, m_g0, m_gs, m_s0, m_ss, m_ap, m_an, forall_const, true_and, and_true, ne_eq, not_true_eq_false, not_false_eq_true, false_implies, true_implies, implies_true, eq_self, reduceCtorEq, Nat.reduceDiv, Nat.reduceMod, Int.reduceToNat, or_true, true_or, or_false, false_or, or_self, m_it, m_if, m_c1, m_01, m_02, m_03, m_04, m_10, m_12, m_13, m_14, m_20, m_21, m_23, m_24, m_30, m_31, m_32, m_34, m_40, m_41, m_42, m_43, Int.reduceLE, Int.reduceLT, Int.reduceGE, Int.reduceGT, Int.reduceNeg, Int.reduceAdd, Int.reduceSub, Int.reduceMul, Int.reduceEq, Int.reduceNe, Nat.reduceAdd, jun2, ro_0_0, ro_0_1, ro_0_2, ro_0_3, ro_0_4, ro_0_5, ro_0_6, ro_0_7, ro_0_8, ro_0_9, ro_0_10, ro_0_11, ro_0_12, ro_1_0, ro_1_1, ro_2_0, ro_4_0, ro_6_0, ro_6_1, ro_6_2, ro_6_3, ro_6_4, ro_6_5, ro_6_6, ro_6_7, ro_6_8, ro_8_0, ro_10_0, ro_12_0, ro_14_0, ro_16_0, ro_18_0, ro_20_0, ro_22_0, ro_22_1, ro_22_2, ro_23_0, ro_25_0, ro_27_0, ro_29_0, ro_29_1, ro_29_2, ro_29_3, ro_29_4, ro_29_5, ro_29_6, ro_29_7, ro_29_8, ro_31_0, ro_33_0, ro_35_0, ro_37_0, ro_39_0, ro_41_0, ro_43_0, ro_45_0, ro_45_1, ro_45_2, ro_46_0, ro_48_0, ro_50_0, ro_52_0, ro_52_1, ro_52_2, ro_52_3, ro_53_0, ro_55_0, ro_57_0, ro_59_0, ro_61_0, ro_61_1, ro_61_2, ro_61_3, ro_62_0, ro_64_0, ro_66_0, ro_68_0, ro_70_0, ro_70_1, ro_70_2, ro_70_3, ro_70_4, ro_70_5, ro_70_6, ro_70_7, ro_70_8, ro_70_9, ro_71_0, ro_73_0, ro_75_0, ro_77_0, ro_79_0, ro_81_0, ro_83_0, ro_85_0, ro_87_0, ro_89_0, ro_91_0, ro_91_1, ro_91_2, ro_91_3, ro_91_4, ro_91_5, ro_91_6, ro_91_7, ro_91_8, ro_91_9, ro_92_0, ro_94_0, ro_96_0, ro_98_0, ro_100_0, ro_102_0, ro_104_0, ro_106_0, ro_108_0, ro_110_0, ro_112_0, ro_112_1, ro_112_2, ro_112_3, ro_112_4, ro_112_5, ro_112_6, ro_112_7, ro_112_8, ro_112_9, ro_113_0, ro_115_0, ro_117_0, ro_119_0, ro_121_0, ro_123_0, ro_125_0, ro_127_0, ro_129_0, ro_131_0, ro_133_0, ro_133_1, ro_133_2, ro_133_3, ro_133_4, ro_133_5, ro_133_6, ro_133_7, ro_133_8, ro_133_9, ro_134_0, ro_136_0, ro_138_0, ro_140_0, ro_142_0, ro_144_0, ro_146_0, ro_148_0, ro_150_0, ro_152_0, ro_154_0, ro_155_0, ro_157_0, ro_157_1, ro_157_2, ro_157_3, ro_157_4, ro_157_5, ro_157_6, ro_157_7, ro_157_8, ro_157_9, ro_158_0, ro_160_0, ro_162_0, ro_164_0, ro_166_0, ro_168_0, ro_170_0, ro_172_0, ro_174_0, ro_176_0, ro_178_0, ro_180_0, ro_182_1, ro_182_4, ro_182_5, ro_182_6, ro_182_9, ro_182_10, ro_182_11, ro_182_13, ro_182_14, ro_182_15, ro_182_16, ro_182_17, ro_182_20, ro_182_21, ro_182_22, ro_182_23, ro_182_24, ro_182_26, ro_182_27, ro_182_28, lo_3, lo_5, lo_7, lo_9, lo_11, lo_13, lo_15, lo_17, lo_19, lo_21, lo_24, lo_26, lo_28, lo_30, lo_32, lo_34, lo_36, lo_38, lo_40, lo_42, lo_44, lo_47, lo_49, lo_51, lo_54, lo_56, lo_58, lo_60, lo_63, lo_65, lo_67, lo_69, lo_72, lo_74, lo_76, lo_78, lo_80, lo_82, lo_84, lo_86, lo_88, lo_90, lo_93, lo_95, lo_97, lo_99, lo_101, lo_103, lo_105, lo_107, lo_109, lo_111, lo_114, lo_116, lo_118, lo_120, lo_122, lo_124, lo_126, lo_128, lo_130, lo_132, lo_135, lo_137, lo_139, lo_141, lo_143, lo_145, lo_147, lo_149, lo_151, lo_153, lo_156, lo_159, lo_161, lo_163, lo_165, lo_167, lo_169, lo_171, lo_173, lo_175, lo_177, lo_179, lo_181, lo_183, lo_184, lo_185, lo_186, lo_187, lo_188, lo_189, lo_190, lo_191, lo_192, lo_193, lo_194, lo_195, lo_196, lo_197, lo_198, lo_199, lo_200, lo_201, lo_202, lo_203, jp_nn, jp_eq, jp_e1, Classical.not_not, ji0, ji1, ji2, cs46_198, kk_198, cs46_225, kk_225, cs46_228, kk_228, cs46_264, kk_264, cs46_259, kk_259f, cs46_285, kk_285f, cs46_287, kk_287f, cs46_274, kk_274, cs46_298, kk_298, cs46_309, kk_309, jl_0, jl_1, jl_2, jl_3, jl_4, jl_5, jl_6, jl_7, jl_8, jl_9, jl_10, jl_11, jl_12, jl_13, jl_14, jl_15, jl_16, jl_17, jl_18, jl_19, jl_20, jl_21, jl_22, jl_23, jl_24, jl_25, jl_26, jl_27, jl_28, jl_29, jl_30, jl_31, jl_32, jl_33, jl_34, jl_35, jl_36, jl_37, jl_38, jl_39, jl_40, jl_95, jl_96, jl_97, jl_98, jl_99, jl_100, jl_101, jl_102, jl_103, jl_104, jl_105, jl_106, jl_107, jl_108, jl_109, jl_110, jl_111, jl_112, jl_113, jl_114, jl_186, jl_1100, jr, ju, jpT, jpF, tnc, Nat.reduceEqDiff, reduceIte, and_false, false_and, not_true_eq_false, not_false_eq_true, or_false, gt_iff_lt, ge_iff_le, Int.lt_irrefl, Int.le_refl]
              refine ⟨fun _ k r h5 f5_w _ => ?_, fun _ => ⟨fun _ => hQ _ _ _ b5, fun _ k r h5 f5_w _ => hQ _ _ _ (BKq.tr b5 (BKq.fr f5_w (by decide)))⟩⟩
              have bb := BKq.tr b5 (BKq.fr f5_w (by decide))
              have rr : h5 188 = h 188 := (f5_w.row rfl (by decide)).trans r5_w
              exact ⟨fun _ => ⟨_, _, _, rfl, bb, rr⟩, fun _ => ⟨_, _, _, rfl, bb, rr⟩⟩
          · have z1' : b ≤ (n : Int) := by omega
            simp only [qe_1, qe_3, qe_4, qe_5, qe_7, qe_72, qe_10, qe_102, qe_13, qe_14, qe_15, qe_16, qe_17, qe_18, qe_20, qe_22, qe_23, qe_21, qe_24, qe_25, qe_26, qe_27, qe_28, qe_30, qe_31, qe_32, qc_20, qc_22, qc_23, qc_21, qc_24, qc_25, qc_26, qc_27, qc_1, qc_3, qc_4, qc_7, qc_13, qc_28, qc_32, qs_1, qs_2, qs_3, qs_4, qs_5, qs_6, qs_9, qs_10, qs_11, qs_14, qs_15, qs_16, qs_27, qs_17, qs_18, qs_19, qs_20, qs_22, qs_23, qs_28, qs_25, qs_26, qs_7, qs_8, kc_1, kn_1, kc_2, kn_2, kc_3, kn_3, kc_4, kn_4, kc_5, kn_5, kc_6, kn_6, kc_7, kn_7, kc_8, kn_8, kc_9, kn_9, kc_10, kn_10, kc_11, kn_11, kc_12, kn_12, kc_13, kn_13, kc_14, kn_14, kc_15, kn_15, kc_16, kc_17, kc_18, kc_19, kc_20, kc_21, kc_22, kc_23, kc_30, kc_32, kc_40, kc_43, kc_45, kc_48, kc_52, kc_56, kc_57, kc_59, kc_60, kc_61, kc_63, kc_64, kc_72, kc_78, kc_97, kc_99, kc_122, kc_126, kc_128, kc_192, kc_200, kc_255, kc_999, kc_1000, kc_9999, kn_9999, kc_10000, kc_12345, kc_65536, kc_252645135, kc_858993459, kc_1103515245, kc_1431655765, kc_2147483647, kc_0, kc_24, kc_28, kc_37, kc_41, kc_42, kc_73, kc_91, kc_95, kc_96, kc_98, kc_100, kc_112, kc_125, kc_150, kc_162, kc_163, kc_168, kc_186, kc_190, kc_250, kc_355, kc_356, kc_404, kc_405, kc_429, kc_573, kc_1002, kc_1100, kc_1891, kc_2200, kc_4719, kc_4869, kc_4881, kc_5148, kc_19741, kc_25433, kc_320403, kc_628412, kc_629093, kc_660401, kc_679843, kc_918640, kc_979410, kc_1178088, kc_6232410, kc_24644941, kc_36238189, kc_38270444, kc_392531318, kc_425693491, kc_1342154595, kc_2147483648, kc_42328242873, kc_891704255789, kc_1722105685577, kc_1858726030364, ct_0, ct_1, ct_2, ct_3, ct_4, ct_5, cf_0, cf_1, cf_2, cf_3, cf_4, cf_5, w_ty6, w_ty7, m_sv, m_z0, m_hd, m_g0, m_gs, m_s0, m_ss, m_ap, m_an, forall_const, true_and, and_true, ne_eq, not_true_eq_false, not_false_eq_true, false_implies, true_implies, implies_true, eq_self, reduceCtorEq, Nat.reduceDiv, Nat.reduceMod, Int.reduceToNat, or_true, true_or, or_false, false_or, or_self, m_it, m_if, m_c1, m_01, m_02, m_03, m_04, m_10, m_12, m_13, m_14, m_20, m_21, m_23, m_24, m_30, m_31, m_32, m_34, m_40, m_41, m_42, m_43, Int.reduceLE, Int.reduceLT, Int.reduceGE, Int.reduceGT, Int.reduceNeg, Int.reduceAdd, Int.reduceSub, Int.reduceMul, Int.reduceEq, Int.reduceNe, Nat.reduceAdd, jun2, ro_0_0, ro_0_1, ro_0_2, ro_0_3, ro_0_4, ro_0_5, ro_0_6, ro_0_7, ro_0_8, ro_0_9, ro_0_10, ro_0_11, ro_0_12, ro_1_0, ro_1_1, ro_2_0, ro_4_0, ro_6_0, ro_6_1, ro_6_2, ro_6_3, ro_6_4, ro_6_5, ro_6_6, ro_6_7, ro_6_8, ro_8_0, ro_10_0, ro_12_0, ro_14_0, ro_16_0, ro_18_0, ro_20_0, ro_22_0, ro_22_1, ro_22_2, ro_23_0, ro_25_0, ro_27_0, ro_29_0, ro_29_1, ro_29_2, ro_29_3, ro_29_4, ro_29_5, ro_29_6, ro_29_7, ro_29_8, ro_31_0, ro_33_0, ro_35_0, ro_37_0, ro_39_0, ro_41_0, ro_43_0, ro_45_0, ro_45_1, ro_45_2, ro_46_0, ro_48_0, ro_50_0, ro_52_0, ro_52_1, ro_52_2, ro_52_3, ro_53_0, ro_55_0, ro_57_0, ro_59_0, ro_61_0, ro_61_1, ro_61_2, ro_61_3, ro_62_0, ro_64_0, ro_66_0, ro_68_0, ro_70_0, ro_70_1, ro_70_2, ro_70_3, ro_70_4, ro_70_5, ro_70_6, ro_70_7, ro_70_8, ro_70_9, ro_71_0, ro_73_0, ro_75_0, ro_77_0, ro_79_0, ro_81_0, ro_83_0, ro_85_0, ro_87_0, ro_89_0, ro_91_0, ro_91_1, ro_91_2, ro_91_3, ro_91_4, ro_91_5, ro_91_6, ro_91_7, ro_91_8, ro_91_9, ro_92_0, ro_94_0, ro_96_0, ro_98_0, ro_100_0, ro_102_0, ro_104_0, ro_106_0, ro_108_0, ro_110_0, ro_112_0, ro_112_1, ro_112_2, ro_112_3, ro_112_4, ro_112_5, ro_112_6, ro_112_7, ro_112_8, ro_112_9, ro_113_0, ro_115_0, ro_117_0, ro_119_0, ro_121_0, ro_123_0, ro_125_0, ro_127_0, ro_129_0, ro_131_0, ro_133_0, ro_133_1, ro_133_2, ro_133_3, ro_133_4, ro_133_5, ro_133_6, ro_133_7, ro_133_8, ro_133_9, ro_134_0, ro_136_0, ro_138_0, ro_140_0, ro_142_0, ro_144_0, ro_146_0, ro_148_0, ro_150_0, ro_152_0, ro_154_0, ro_155_0, ro_157_0, ro_157_1, ro_157_2, ro_157_3, ro_157_4, ro_157_5, ro_157_6, ro_157_7, ro_157_8, ro_157_9, ro_158_0, ro_160_0, ro_162_0, ro_164_0, ro_166_0, ro_168_0, ro_170_0, ro_172_0, ro_174_0, ro_176_0, ro_178_0, ro_180_0, ro_182_1, ro_182_4, ro_182_5, ro_182_6, ro_182_9, ro_182_10, ro_182_11, ro_182_13, ro_182_14, ro_182_15, ro_182_16, ro_182_17, ro_182_20, ro_182_21, ro_182_22, ro_182_23, ro_182_24, ro_182_26, ro_182_27, ro_182_28, lo_3, lo_5, lo_7, lo_9, lo_11, lo_13, lo_15, lo_17, lo_19, lo_21, lo_24, lo_26, lo_28, lo_30, lo_32, lo_34, lo_36, lo_38, lo_40, lo_42, lo_44, lo_47, lo_49, lo_51, lo_54, lo_56, lo_58, lo_60, lo_63, lo_65, lo_67, lo_69, lo_72, lo_74, lo_76, lo_78, lo_80, lo_82, lo_84, lo_86, lo_88, lo_90, lo_93, lo_95, lo_97, lo_99, lo_101, lo_103, lo_105, lo_107, lo_109, lo_111, lo_114, lo_116, lo_118, lo_120, lo_122, lo_124, lo_126, lo_128, lo_130, lo_132, lo_135, lo_137, lo_139, lo_141, lo_143, lo_145, lo_147, lo_149, lo_151, lo_153, lo_156, lo_159, lo_161, lo_163, lo_165, lo_167, lo_169, lo_171, lo_173, lo_175, lo_177, lo_179, lo_181, lo_183, lo_184, lo_185, lo_186, lo_187, lo_188, lo_189, lo_190, lo_191, lo_192, lo_193, lo_194, lo_195, lo_196, lo_197, lo_198, lo_199, lo_200, lo_201, lo_202, lo_203, jp_nn, jp_eq, jp_e1, Classical.not_not, ji0, ji1, ji2, cs46_198, kk_198, cs46_225, kk_225, cs46_228, kk_228, cs46_264, kk_264, cs46_259, kk_259f, cs46_285, kk_285f, cs46_287, kk_287f, cs46_274, kk_274, cs46_298, kk_298, cs46_309, kk_309, jl_0, jl_1, jl_2, jl_3, jl_4, jl_5, jl_6, jl_7, jl_8, jl_9, jl_10, jl_11, jl_12, jl_13, jl_14, jl_15, jl_16, jl_17, jl_18, jl_19, jl_20, jl_21, jl_22, jl_23, jl_24, jl_25, jl_26, jl_27, jl_28, jl_29, jl_30, jl_31, jl_32, jl_33, jl_34, jl_35, jl_36, jl_37, jl_38, jl_39, jl_40, jl_95, jl_96, jl_97, jl_98, jl_99, jl_100, jl_101, jl_102, jl_103, jl_104, jl_105, jl_106, jl_107, jl_108, jl_109, jl_110, jl_111, jl_112, jl_113, jl_114, jl_186, jl_1100, jr, ju, jpT, jpF, tnc, Nat.reduceEqDiff, reduceIte, and_false, false_and, not_true_eq_false, not_false_eq_true, or_false, gt_iff_lt, ge_iff_le, Int.lt_irrefl, Int.le_refl, z1, z1', e3_w, e0]
            refine ⟨fun _ k r h3 f _ => hQ _ _ _ (BKq.tr b2 (BKq.fr f (by decide))), fun _ => ?_⟩
            refine qp_lp (fun en h' => ∃ x y z : Int, en = [182, a, b, w, x, y, z] ∧ BKq h h' ∧ h' 188 = h 188) ⟨_, _, _, rfl, b2, r2⟩ ?_
            intro en h4 ⟨x1_w, x2_w, x3, e5_w, b5, r5_w⟩
            subst e5_w
            simp only [qe_1, qe_3, qe_4, qe_5, qe_7, qe_72, qe_10, qe_102, qe_13, qe_14, qe_15, qe_16, qe_17, qe_18, qe_20, qe_22, qe_23, qe_21, qe_24, qe_25, qe_26, qe_27, qe_28, qe_30, qe_31, qe_32, qc_20, qc_22, qc_23, qc_21, qc_24, qc_25, qc_26, qc_27, qc_1, qc_3, qc_4, qc_7, qc_13, qc_28, qc_32, qs_1, qs_2, qs_3, qs_4, qs_5, qs_6, qs_9, qs_10, qs_11, qs_14, qs_15, qs_16, qs_27, qs_17, qs_18, qs_19, qs_20, qs_22, qs_23, qs_28, qs_25, qs_26, qs_7, qs_8, kc_1, kn_1, kc_2, kn_2, kc_3, kn_3, kc_4, kn_4, kc_5, kn_5, kc_6, kn_6, kc_7, kn_7, kc_8, kn_8, kc_9, kn_9, kc_10, kn_10, kc_11, kn_11, kc_12, kn_12, kc_13, kn_13, kc_14, kn_14, kc_15, kn_15, kc_16, kc_17, kc_18, kc_19, kc_20, kc_21, kc_22, kc_23, kc_30, kc_32, kc_40, kc_43, kc_45, kc_48, kc_52, kc_56, kc_57, kc_59, kc_60, kc_61, kc_63, kc_64, kc_72, kc_78, kc_97, kc_99, kc_122, kc_126, kc_128, kc_192, kc_200, kc_255, kc_999, kc_1000, kc_9999, kn_9999, kc_10000, kc_12345, kc_65536, kc_252645135, kc_858993459, kc_1103515245, kc_1431655765, kc_2147483647, kc_0, kc_24, kc_28, kc_37, kc_41, kc_42, kc_73, kc_91, kc_95, kc_96, kc_98, kc_100, kc_112, kc_125, kc_150, kc_162, kc_163, kc_168, kc_186, kc_190, kc_250, kc_355, kc_356, kc_404, kc_405, kc_429, kc_573, kc_1002, kc_1100, kc_1891, kc_2200, kc_4719, kc_4869, kc_4881, kc_5148, kc_19741, kc_25433, kc_320403, kc_628412, kc_629093, kc_660401, kc_679843, kc_918640, kc_979410, kc_1178088, kc_6232410, kc_24644941, kc_36238189, kc_38270444, kc_392531318, kc_425693491, kc_1342154595, kc_2147483648, kc_42328242873, kc_891704255789, kc_1722105685577, kc_1858726030364, ct_0, ct_1, ct_2, ct_3, ct_4, ct_5, cf_0, cf_1, cf_2, cf_3, cf_4, cf_5, w_ty6, w_ty7, m_sv, m_z0, m_hd, m_g0, m_gs, m_s0, m_ss, m_ap, m_an, forall_const, true_and, and_true, ne_eq, not_true_eq_false, not_false_eq_true, false_implies, true_implies, implies_true, eq_self, reduceCtorEq, Nat.reduceDiv, Nat.reduceMod, Int.reduceToNat, or_true, true_or, or_false, false_or, or_self, m_it, m_if, m_c1, m_01, m_02, m_03, m_04, m_10, m_12, m_13, m_14, m_20, m_21, m_23, m_24, m_30, m_31, m_32, m_34, m_40, m_41, m_42, m_43, Int.reduceLE, Int.reduceLT, Int.reduceGE, Int.reduceGT, Int.reduceNeg, Int.reduceAdd, Int.reduceSub, Int.reduceMul, Int.reduceEq, Int.reduceNe, Nat.reduceAdd, jun2, ro_0_0, ro_0_1, ro_0_2, ro_0_3, ro_0_4, ro_0_5, ro_0_6, ro_0_7, ro_0_8, ro_0_9, ro_0_10, ro_0_11, ro_0_12, ro_1_0, ro_1_1, ro_2_0, ro_4_0, ro_6_0, ro_6_1, ro_6_2, ro_6_3, ro_6_4, ro_6_5, ro_6_6, ro_6_7, ro_6_8, ro_8_0, ro_10_0, ro_12_0, ro_14_0, ro_16_0, ro_18_0, ro_20_0, ro_22_0, ro_22_1, ro_22_2, ro_23_0, ro_25_0, ro_27_0, ro_29_0, ro_29_1, ro_29_2, ro_29_3, ro_29_4, ro_29_5, ro_29_6, ro_29_7, ro_29_8, ro_31_0, ro_33_0, ro_35_0, ro_37_0, ro_39_0, ro_41_0, ro_43_0, ro_45_0, ro_45_1, ro_45_2, ro_46_0, ro_48_0, ro_50_0, ro_52_0, ro_52_1, ro_52_2, ro_52_3, ro_53_0, ro_55_0, ro_57_0, ro_59_0, ro_61_0, ro_61_1, ro_61_2, ro_61_3, ro_62_0, ro_64_0, ro_66_0, ro_68_0, ro_70_0, ro_70_1, ro_70_2, ro_70_3, ro_70_4, ro_70_5, ro_70_6, ro_70_7, ro_70_8, ro_70_9, ro_71_0, ro_73_0, ro_75_0, ro_77_0, ro_79_0, ro_81_0, ro_83_0, ro_85_0, ro_87_0, ro_89_0, ro_91_0, ro_91_1, ro_91_2, ro_91_3, ro_91_4, ro_91_5, ro_91_6, ro_91_7, ro_91_8, ro_91_9, ro_92_0, ro_94_0, ro_96_0, ro_98_0, ro_100_0, ro_102_0, ro_104_0, ro_106_0, ro_108_0, ro_110_0, ro_112_0, ro_112_1, ro_112_2, ro_112_3, ro_112_4, ro_112_5, ro_112_6, ro_112_7, ro_112_8, ro_112_9, ro_113_0, ro_115_0, ro_117_0, ro_119_0, ro_121_0, ro_123_0, ro_125_0, ro_127_0, ro_129_0, ro_131_0, ro_133_0, ro_133_1, ro_133_2, ro_133_3, ro_133_4, ro_133_5, ro_133_6, ro_133_7, ro_133_8, ro_133_9, ro_134_0, ro_136_0, ro_138_0, ro_140_0, ro_142_0, ro_144_0, ro_146_0, ro_148_0, ro_150_0, ro_152_0, ro_154_0, ro_155_0, ro_157_0, ro_157_1, ro_157_2, ro_157_3, ro_157_4, ro_157_5, ro_157_6, ro_157_7, ro_157_8, ro_157_9, ro_158_0, ro_160_0, ro_162_0, ro_164_0, ro_166_0, ro_168_0, ro_170_0, ro_172_0, ro_174_0, ro_176_0, ro_178_0, ro_180_0, ro_182_1, ro_182_4, ro_182_5, ro_182_6, ro_182_9, ro_182_10, ro_182_11, ro_182_13, ro_182_14, ro_182_15, ro_182_16, ro_182_17, ro_182_20, ro_182_21, ro_182_22, ro_182_23, ro_182_24, ro_182_26, ro_182_27, ro_182_28, lo_3, lo_5, lo_7, lo_9, lo_11, lo_13, lo_15, lo_17, lo_19, lo_21, lo_24, lo_26, lo_28, lo_30, lo_32, lo_34, lo_36, lo_38, lo_40, lo_42, lo_44, lo_47, lo_49, lo_51, lo_54, lo_56, lo_58, lo_60, lo_63, lo_65, lo_67, lo_69, lo_72, lo_74, lo_76, lo_78, lo_80, lo_82, lo_84, lo_86, lo_88, lo_90, lo_93, lo_95, lo_97, lo_99, lo_101, lo_103, lo_105, lo_107, lo_109, lo_111, lo_114, lo_116, lo_118, lo_120, lo_122, lo_124, lo_126, lo_128, lo_130, lo_132, lo_135, lo_137, lo_139, lo_141, lo_143, lo_145, lo_147, lo_149, lo_151, lo_153, lo_156, lo_159, lo_161, lo_163, lo_165, lo_167, lo_169, lo_171, lo_173, lo_175, lo_177, lo_179, lo_181, lo_183, lo_184, lo_185, lo_186, lo_187, lo_188, lo_189, lo_190, lo_191, lo_192, lo_193, lo_194, lo_195, lo_196, lo_197, lo_198, lo_199, lo_200, lo_201, lo_202, lo_203, jp_nn, jp_eq, jp_e1, Classical.not_not, ji0, ji1, ji2, cs46_198, kk_198, cs46_225, kk_225, cs46_228, kk_228, cs46_264, kk_264, cs46_259, kk_259f, cs46_285, kk_285f, cs46_287, kk_287f, cs46_274, kk_274, cs46_298, kk_298, cs46_309, kk_309, jl_0, jl_1, jl_2, jl_3, jl_4, jl_5, jl_6, jl_7, jl_8, jl_9, jl_10, jl_11, jl_12, jl_13, jl_14, jl_15, jl_16, jl_17, jl_18, jl_19, jl_20, jl_21, jl_22, jl_23, jl_24, jl_25, jl_26, jl_27, jl_28, jl_29, jl_30, jl_31, jl_32, jl_33, jl_34, jl_35, jl_36, jl_37, jl_38, jl_39, jl_40, jl_95, jl_96, jl_97, jl_98, jl_99, jl_100, jl_101, jl_102, jl_103, jl_104, jl_105, jl_106, jl_107, jl_108, jl_109, jl_110, jl_111, jl_112, jl_113, jl_114, jl_186, jl_1100, jr, ju, jpT, jpF, tnc, Nat.reduceEqDiff, reduceIte, and_false, false_and, not_true_eq_false, not_false_eq_true, or_false, gt_iff_lt, ge_iff_le, Int.lt_irrefl, Int.le_refl]
            refine ⟨fun _ k r h5 f5_w _ => ?_, fun _ => ⟨fun _ => hQ _ _ _ b5, fun _ k r h5 f5_w _ => hQ _ _ _ (BKq.tr b5 (BKq.fr f5_w (by decide)))⟩⟩
            have bb := BKq.tr b5 (BKq.fr f5_w (by decide))
            have rr : h5 188 = h 188 := (f5_w.row rfl (by decide)).trans r5_w
            exact ⟨fun _ => ⟨_, _, _, rfl, bb, rr⟩, fun _ => ⟨_, _, _, rfl, bb, rr⟩⟩
        · simp only [qe_1, qe_3, qe_4, qe_5, qe_7, qe_72, qe_10, qe_102, qe_13, qe_14, qe_15, qe_16, qe_17, qe_18, qe_20, qe_22, qe_23, qe_21, qe_24, qe_25, qe_26, qe_27, qe_28, qe_30, qe_31, qe_32, qc_20, qc_22, qc_23, qc_21, qc_24, qc_25, qc_26, qc_27, qc_1, qc_3, qc_4, qc_7, qc_13, qc_28, qc_32, qs_1, qs_2, qs_3, qs_4, qs_5, qs_6, qs_9, qs_10, qs_11, qs_14, qs_15, qs_16, qs_27, qs_17, qs_18, qs_19, qs_20, qs_22, qs_23, qs_28, qs_25, qs_26, qs_7, qs_8, kc_1, kn_1, kc_2, kn_2, kc_3, kn_3, kc_4, kn_4, kc_5, kn_5, kc_6, kn_6, kc_7, kn_7, kc_8, kn_8, kc_9, kn_9, kc_10, kn_10, kc_11, kn_11, kc_12, kn_12, kc_13, kn_13, kc_14, kn_14, kc_15, kn_15, kc_16, kc_17, kc_18, kc_19, kc_20, kc_21, kc_22, kc_23, kc_30, kc_32, kc_40, kc_43, kc_45, kc_48, kc_52, kc_56, kc_57, kc_59, kc_60, kc_61, kc_63, kc_64, kc_72, kc_78, kc_97, kc_99, kc_122, kc_126, kc_128, kc_192, kc_200, kc_255, kc_999, kc_1000, kc_9999, kn_9999, kc_10000, kc_12345, kc_65536, kc_252645135, kc_858993459, kc_1103515245, kc_1431655765, kc_2147483647, kc_0, kc_24, kc_28, kc_37, kc_41, kc_42, kc_73, kc_91, kc_95, kc_96, kc_98, kc_100, kc_112, kc_125, kc_150, kc_162, kc_163, kc_168, kc_186, kc_190, kc_250, kc_355, kc_356, kc_404, kc_405, kc_429, kc_573, kc_1002, kc_1100, kc_1891, kc_2200, kc_4719, kc_4869, kc_4881, kc_5148, kc_19741, kc_25433, kc_320403, kc_628412, kc_629093, kc_660401, kc_679843, kc_918640, kc_979410, kc_1178088, kc_6232410, kc_24644941, kc_36238189, kc_38270444, kc_392531318, kc_425693491, kc_1342154595, kc_2147483648, kc_42328242873, kc_891704255789, kc_1722105685577, kc_1858726030364, ct_0, ct_1, ct_2, ct_3, ct_4, ct_5, cf_0, cf_1, cf_2, cf_3, cf_4, cf_5, w_ty6, w_ty7, m_sv, m_z0, m_hd, m_g0, m_gs, m_s0, m_ss, m_ap, m_an, forall_const, true_and, and_true, ne_eq, not_true_eq_false, not_false_eq_true, false_implies, true_implies, implies_true, eq_self, reduceCtorEq, Nat.reduceDiv, Nat.reduceMod, Int.reduceToNat, or_true, true_or, or_false, false_or, or_self, m_it, m_if, m_c1, m_01, m_02, m_03, m_04, m_10, m_12, m_13, m_14, m_20, m_21, m_23, m_24, m_30, m_31, m_32, m_34, m_40, m_41, m_42, m_43, Int.reduceLE, Int.reduceLT, Int.reduceGE, Int.reduceGT, Int.reduceNeg, Int.reduceAdd, Int.reduceSub, Int.reduceMul, Int.reduceEq, Int.reduceNe, Nat.reduceAdd, jun2, ro_0_0, ro_0_1, ro_0_2, ro_0_3, ro_0_4, ro_0_5, ro_0_6, ro_0_7, ro_0_8, ro_0_9, ro_0_10, ro_0_11, ro_0_12, ro_1_0, ro_1_1, ro_2_0, ro_4_0, ro_6_0, ro_6_1, ro_6_2, ro_6_3, ro_6_4, ro_6_5, ro_6_6, ro_6_7, ro_6_8, ro_8_0, ro_10_0, ro_12_0, ro_14_0, ro_16_0, ro_18_0, ro_20_0, ro_22_0, ro_22_1, ro_22_2, ro_23_0, ro_25_0, ro_27_0, ro_29_0, ro_29_1, ro_29_2, ro_29_3, ro_29_4, ro_29_5, ro_29_6, ro_29_7, ro_29_8, ro_31_0, ro_33_0, ro_35_0, ro_37_0, ro_39_0, ro_41_0, ro_43_0, ro_45_0, ro_45_1, ro_45_2, ro_46_0, ro_48_0, ro_50_0, ro_52_0, ro_52_1, ro_52_2, ro_52_3, ro_53_0, ro_55_0, ro_57_0, ro_59_0, ro_61_0, ro_61_1, ro_61_2, ro_61_3, ro_62_0, ro_64_0, ro_66_0, ro_68_0, ro_70_0, ro_70_1, ro_70_2, ro_70_3, ro_70_4, ro_70_5, ro_70_6, ro_70_7, ro_70_8, ro_70_9, ro_71_0, ro_73_0, ro_75_0, ro_77_0, ro_79_0, ro_81_0, ro_83_0, ro_85_0, ro_87_0, ro_89_0, ro_91_0, ro_91_1, ro_91_2, ro_91_3, ro_91_4, ro_91_5, ro_91_6, ro_91_7, ro_91_8, ro_91_9, ro_92_0, ro_94_0, ro_96_0, ro_98_0, ro_100_0, ro_102_0, ro_104_0, ro_106_0, ro_108_0, ro_110_0, ro_112_0, ro_112_1, ro_112_2, ro_112_3, ro_112_4, ro_112_5, ro_112_6, ro_112_7, ro_112_8, ro_112_9, ro_113_0, ro_115_0, ro_117_0, ro_119_0, ro_121_0, ro_123_0, ro_125_0, ro_127_0, ro_129_0, ro_131_0, ro_133_0, ro_133_1, ro_133_2, ro_133_3, ro_133_4, ro_133_5, ro_133_6, ro_133_7, ro_133_8, ro_133_9, ro_134_0, ro_136_0, ro_138_0, ro_140_0, ro_142_0, ro_144_0, ro_146_0, ro_148_0, ro_150_0, ro_152_0, ro_154_0, ro_155_0, ro_157_0, ro_157_1, ro_157_2, ro_157_3, ro_157_4, ro_157_5, ro_157_6, ro_157_7, ro_157_8, ro_157_9, ro_158_0, ro_160_0, ro_162_0, ro_164_0, ro_166_0, ro_168_0, ro_170_0, ro_172_0, ro_174_0, ro_176_0, ro_178_0, ro_180_0, ro_182_1, ro_182_4, ro_182_5, ro_182_6, ro_182_9, ro_182_10, ro_182_11, ro_182_13, ro_182_14, ro_182_15, ro_182_16, ro_182_17, ro_182_20, ro_182_21, ro_182_22, ro_182_23, ro_182_24, ro_182_26, ro_182_27, ro_182_28, lo_3, lo_5, lo_7, lo_9, lo_11, lo_13, lo_15, lo_17, lo_19, lo_21, lo_24, lo_26, lo_28, lo_30, lo_32, lo_34, lo_36, lo_38, lo_40, lo_42, lo_44, lo_47, lo_49, lo_51, lo_54, lo_56, lo_58, lo_60, lo_63, lo_65, lo_67, lo_69, lo_72, lo_74, lo_76, lo_78, lo_80, lo_82, lo_84, lo_86, lo_88, lo_90, lo_93, lo_95, lo_97, lo_99, lo_101, lo_103, lo_105, lo_107, lo_109, lo_111, lo_114, lo_116, lo_118, lo_120, lo_122, lo_124, lo_126, lo_128, lo_130, lo_132, lo_135, lo_137, lo_139, lo_141, lo_143, lo_145, lo_147, lo_149, lo_151, lo_153, lo_156, lo_159, lo_161, lo_163, lo_165, lo_167, lo_169, lo_171, lo_173, lo_175, lo_177, lo_179, lo_181, lo_183, lo_184, lo_185, lo_186, lo_187, lo_188, lo_189, lo_190, lo_191, lo_192, lo_193, lo_194, lo_195, lo_196, lo_197, lo_198, lo_199, lo_200, lo_201, lo_202, lo_203, jp_nn, jp_eq, jp_e1, Classical.not_not, ji0, ji1, ji2, cs46_198, kk_198, cs46_225, kk_225, cs46_228, kk_228, cs46_264, kk_264, cs46_259, kk_259f, cs46_285, kk_285f, cs46_287, kk_287f, cs46_274, kk_274, cs46_298, kk_298, cs46_309, kk_309, jl_0, jl_1, jl_2, jl_3, jl_4, jl_5, jl_6, jl_7, jl_8, jl_9, jl_10, jl_11, jl_12, jl_13, jl_14, jl_15, jl_16, jl_17, jl_18, jl_19, jl_20, jl_21, jl_22, jl_23, jl_24, jl_25, jl_26, jl_27, jl_28, jl_29, jl_30, jl_31, jl_32, jl_33, jl_34, jl_35, jl_36, jl_37, jl_38, jl_39, jl_40, jl_95, jl_96, jl_97, jl_98, jl_99, jl_100, jl_101, jl_102, jl_103, jl_104, jl_105, jl_106, jl_107, jl_108, jl_109, jl_110, jl_111, jl_112, jl_113, jl_114, jl_186, jl_1100, jr, ju, jpT, jpF, tnc, Nat.reduceEqDiff, reduceIte, and_false, false_and, not_true_eq_false, not_false_eq_true, or_false, gt_iff_lt, ge_iff_le, Int.lt_irrefl, Int.le_refl, ya, yb, yw, and_self]
          exact hQ _ _ _ (BKq.u (fun z => by omega))
      · simp only [qe_1, qe_3, qe_4, qe_5, qe_7, qe_72, qe_10, qe_102, qe_13, qe_14, qe_15, qe_16, qe_17, qe_18, qe_20, qe_22, qe_23, qe_21, qe_24, qe_25, qe_26, qe_27, qe_28, qe_30, qe_31, qe_32, qc_20, qc_22, qc_23, qc_21, qc_24, qc_25, qc_26, qc_27, qc_1, qc_3, qc_4, qc_7, qc_13, qc_28, qc_32, qs_1, qs_2, qs_3, qs_4, qs_5, qs_6, qs_9, qs_10, qs_11, qs_14, qs_15, qs_16, qs_27, qs_17, qs_18, qs_19, qs_20, qs_22, qs_23, qs_28, qs_25, qs_26, qs_7, qs_8, kc_1, kn_1, kc_2, kn_2, kc_3, kn_3, kc_4, kn_4, kc_5, kn_5, kc_6, kn_6, kc_7, kn_7, kc_8, kn_8, kc_9, kn_9, kc_10, kn_10, kc_11, kn_11, kc_12, kn_12, kc_13, kn_13, kc_14, kn_14, kc_15, kn_15, kc_16, kc_17, kc_18, kc_19, kc_20, kc_21, kc_22, kc_23, kc_30, kc_32, kc_40, kc_43, kc_45, kc_48, kc_52, kc_56, kc_57, kc_59, kc_60, kc_61, kc_63, kc_64, kc_72, kc_78, kc_97, kc_99, kc_122, kc_126, kc_128, kc_192, kc_200, kc_255, kc_999, kc_1000, kc_9999, kn_9999, kc_10000, kc_12345, kc_65536, kc_252645135, kc_858993459, kc_1103515245, kc_1431655765, kc_2147483647, kc_0, kc_24, kc_28, kc_37, kc_41, kc_42, kc_73, kc_91, kc_95, kc_96, kc_98, kc_100, kc_112, kc_125, kc_150, kc_162, kc_163, kc_168, kc_186, kc_190, kc_250, kc_355, kc_356, kc_404, kc_405, kc_429, kc_573, kc_1002, kc_1100, kc_1891, kc_2200, kc_4719, kc_4869, kc_4881, kc_5148, kc_19741, kc_25433, kc_320403, kc_628412, kc_629093, kc_660401, kc_679843, kc_918640, kc_979410, kc_1178088, kc_6232410, kc_24644941, kc_36238189, kc_38270444, kc_392531318, kc_425693491, kc_1342154595, kc_2147483648, kc_42328242873, kc_891704255789, kc_1722105685577, kc_1858726030364, ct_0, ct_1, ct_2, ct_3, ct_4, ct_5, cf_0, cf_1, cf_2, cf_3, cf_4, cf_5, w_ty6, w_ty7, m_sv, m_z0, m_hd, m_g0, m_gs, m_s0, m_ss, m_ap, m_an, forall_const, true_and, and_true, ne_eq, not_true_eq_false, not_false_eq_true, false_implies, true_implies, implies_true, eq_self, reduceCtorEq, Nat.reduceDiv, Nat.reduceMod, Int.reduceToNat, or_true, true_or, or_false, false_or, or_self, m_it, m_if, m_c1, m_01, m_02, m_03, m_04, m_10, m_12, m_13, m_14, m_20, m_21, m_23, m_24, m_30, m_31, m_32, m_34, m_40, m_41, m_42, m_43, Int.reduceLE, Int.reduceLT, Int.reduceGE, Int.reduceGT, Int.reduceNeg, Int.reduceAdd, Int.reduceSub, Int.reduceMul, Int.reduceEq, Int.reduceNe, Nat.reduceAdd, jun2, ro_0_0, ro_0_1, ro_0_2, ro_0_3, ro_0_4, ro_0_5, ro_0_6, ro_0_7, ro_0_8, ro_0_9, ro_0_10, ro_0_11, ro_0_12, ro_1_0, ro_1_1, ro_2_0, ro_4_0, ro_6_0, ro_6_1, ro_6_2, ro_6_3, ro_6_4, ro_6_5, ro_6_6, ro_6_7, ro_6_8, ro_8_0, ro_10_0, ro_12_0, ro_14_0, ro_16_0, ro_18_0, ro_20_0, ro_22_0, ro_22_1, ro_22_2, ro_23_0, ro_25_0, ro_27_0, ro_29_0, ro_29_1, ro_29_2, ro_29_3, ro_29_4, ro_29_5, ro_29_6, ro_29_7, ro_29_8, ro_31_0, ro_33_0, ro_35_0, ro_37_0, ro_39_0, ro_41_0, ro_43_0, ro_45_0, ro_45_1, ro_45_2, ro_46_0, ro_48_0, ro_50_0, ro_52_0, ro_52_1, ro_52_2, ro_52_3, ro_53_0, ro_55_0, ro_57_0, ro_59_0, ro_61_0, ro_61_1, ro_61_2, ro_61_3, ro_62_0, ro_64_0, ro_66_0, ro_68_0, ro_70_0, ro_70_1, ro_70_2, ro_70_3, ro_70_4, ro_70_5, ro_70_6, ro_70_7, ro_70_8, ro_70_9, ro_71_0, ro_73_0, ro_75_0, ro_77_0, ro_79_0, ro_81_0, ro_83_0, ro_85_0, ro_87_0, ro_89_0, ro_91_0, ro_91_1, ro_91_2, ro_91_3, ro_91_4, ro_91_5, ro_91_6, ro_91_7, ro_91_8, ro_91_9, ro_92_0, ro_94_0, ro_96_0, ro_98_0, ro_100_0, ro_102_0, ro_104_0, ro_106_0, ro_108_0, ro_110_0, ro_112_0, ro_112_1, ro_112_2, ro_112_3, ro_112_4, ro_112_5, ro_112_6, ro_112_7, ro_112_8, ro_112_9, ro_113_0, ro_115_0, ro_117_0, ro_119_0, ro_121_0, ro_123_0, ro_125_0, ro_127_0, ro_129_0, ro_131_0, ro_133_0, ro_133_1, ro_133_2, ro_133_3, ro_133_4, ro_133_5, ro_133_6, ro_133_7, ro_133_8, ro_133_9, ro_134_0, ro_136_0, ro_138_0, ro_140_0, ro_142_0, ro_144_0, ro_146_0, ro_148_0, ro_150_0, ro_152_0, ro_154_0, ro_155_0, ro_157_0, ro_157_1, ro_157_2, ro_157_3, ro_157_4, ro_157_5, ro_157_6, ro_157_7, ro_157_8, ro_157_9, ro_158_0, ro_160_0, ro_162_0, ro_164_0, ro_166_0, ro_168_0, ro_170_0, ro_172_0, ro_174_0, ro_176_0, ro_178_0, ro_180_0, ro_182_1, ro_182_4, ro_182_5, ro_182_6, ro_182_9, ro_182_10, ro_182_11, ro_182_13, ro_182_14, ro_182_15, ro_182_16, ro_182_17, ro_182_20, ro_182_21, ro_182_22, ro_182_23, ro_182_24, ro_182_26, ro_182_27, ro_182_28, lo_3, lo_5, lo_7, lo_9, lo_11, lo_13, lo_15, lo_17, lo_19, lo_21, lo_24, lo_26, lo_28, lo_30, lo_32, lo_34, lo_36, lo_38, lo_40, lo_42, lo_44, lo_47, lo_49, lo_51, lo_54, lo_56, lo_58, lo_60, lo_63, lo_65, lo_67, lo_69, lo_72, lo_74, lo_76, lo_78, lo_80, lo_82, lo_84, lo_86, lo_88, lo_90, lo_93, lo_95, lo_97, lo_99, lo_101, lo_103, lo_105, lo_107, lo_109, lo_111, lo_114, lo_116, lo_118, lo_120, lo_122, lo_124, lo_126, lo_128, lo_130, lo_132, lo_135, lo_137, lo_139, lo_141, lo_143, lo_145, lo_147, lo_149, lo_151, lo_153, lo_156, lo_159, lo_161, lo_163, lo_165, lo_167, lo_169, lo_171, lo_173, lo_175, lo_177, lo_179, lo_181, lo_183, lo_184, lo_185, lo_186, lo_187, lo_188, lo_189, lo_190, lo_191, lo_192, lo_193, lo_194, lo_195, lo_196, lo_197, lo_198, lo_199, lo_200, lo_201, lo_202, lo_203, jp_nn, jp_eq, jp_e1, Classical.not_not, ji0, ji1, ji2, cs46_198, kk_198, cs46_225, kk_225, cs46_228, kk_228, cs46_264, kk_264, cs46_259, kk_259f, cs46_285, kk_285f, cs46_287, kk_287f, cs46_274, kk_274, cs46_298, kk_298, cs46_309, kk_309, jl_0, jl_1, jl_2, jl_3, jl_4, jl_5, jl_6, jl_7, jl_8, jl_9, jl_10, jl_11, jl_12, jl_13, jl_14, jl_15, jl_16, jl_17, jl_18, jl_19, jl_20, jl_21, jl_22, jl_23, jl_24, jl_25, jl_26, jl_27, jl_28, jl_29, jl_30, jl_31, jl_32, jl_33, jl_34, jl_35, jl_36, jl_37, jl_38, jl_39, jl_40, jl_95, jl_96, jl_97, jl_98, jl_99, jl_100, jl_101, jl_102, jl_103, jl_104, jl_105, jl_106, jl_107, jl_108, jl_109, jl_110, jl_111, jl_112, jl_113, jl_114, jl_186, jl_1100, jr, ju, jpT, jpF, tnc, Nat.reduceEqDiff, reduceIte, and_false, false_and, not_true_eq_false, not_false_eq_true, or_false, gt_iff_lt, ge_iff_le, Int.lt_irrefl, Int.le_refl, ya, yb, and_self]
        exact hQ _ _ _ (BKq.u (fun z => by omega))
    · simp only [qe_1, qe_3, qe_4, qe_5, qe_7, qe_72, qe_10, qe_102, qe_13, qe_14, qe_15, qe_16, qe_17, qe_18, qe_20, qe_22, qe_23, qe_21, qe_24, qe_25, qe_26, qe_27, qe_28, qe_30, qe_31, qe_32, qc_20, qc_22, qc_23, qc_21, qc_24, qc_25, qc_26, qc_27, qc_1, qc_3, qc_4, qc_7, qc_13, qc_28, qc_32, qs_1, qs_2, qs_3, qs_4, qs_5, qs_6, qs_9, qs_10, qs_11, qs_14, qs_15, qs_16, qs_27, qs_17, qs_18, qs_19, qs_20, qs_22, qs_23, qs_28, qs_25, qs_26, qs_7, qs_8, kc_1, kn_1, kc_2, kn_2, kc_3, kn_3, kc_4, kn_4, kc_5, kn_5, kc_6, kn_6, kc_7, kn_7, kc_8, kn_8, kc_9, kn_9, kc_10, kn_10, kc_11, kn_11, kc_12, kn_12, kc_13, kn_13, kc_14, kn_14, kc_15, kn_15, kc_16, kc_17, kc_18, kc_19, kc_20, kc_21, kc_22, kc_23, kc_30, kc_32, kc_40, kc_43, kc_45, kc_48, kc_52, kc_56, kc_57, kc_59, kc_60, kc_61, kc_63, kc_64, kc_72, kc_78, kc_97, kc_99, kc_122, kc_126, kc_128, kc_192, kc_200, kc_255, kc_999, kc_1000, kc_9999, kn_9999, kc_10000, kc_12345, kc_65536, kc_252645135, kc_858993459, kc_1103515245, kc_1431655765, kc_2147483647, kc_0, kc_24, kc_28, kc_37, kc_41, kc_42, kc_73, kc_91, kc_95, kc_96, kc_98, kc_100, kc_112, kc_125, kc_150, kc_162, kc_163, kc_168, kc_186, kc_190, kc_250, kc_355, kc_356, kc_404, kc_405, kc_429, kc_573, kc_1002, kc_1100, kc_1891, kc_2200, kc_4719, kc_4869, kc_4881, kc_5148, kc_19741, kc_25433, kc_320403, kc_628412, kc_629093, kc_660401, kc_679843, kc_918640, kc_979410, kc_1178088, kc_6232410, kc_24644941, kc_36238189, kc_38270444, kc_392531318, kc_425693491, kc_1342154595, kc_2147483648, kc_42328242873, kc_891704255789, kc_1722105685577, kc_1858726030364, ct_0, ct_1, ct_2, ct_3, ct_4, ct_5, cf_0, cf_1, cf_2, cf_3, cf_4, cf_5, w_ty6, w_ty7, m_sv, m_z0, m_hd, m_g0, m_gs, m_s0, m_ss, m_ap, m_an, forall_const, true_and, and_true, ne_eq, not_true_eq_false, not_false_eq_true, false_implies, true_implies, implies_true, eq_self, reduceCtorEq, Nat.reduceDiv, Nat.reduceMod, Int.reduceToNat, or_true, true_or, or_false, false_or, or_self, m_it, m_if, m_c1, m_01, m_02, m_03, m_04, m_10, m_12, m_13, m_14, m_20, m_21, m_23, m_24, m_30, m_31, m_32, m_34, m_40, m_41, m_42, m_43, Int.reduceLE, Int.reduceLT, Int.reduceGE, Int.reduceGT, Int.reduceNeg, Int.reduceAdd, Int.reduceSub, Int.reduceMul, Int.reduceEq, Int.reduceNe, Nat.reduceAdd, jun2, ro_0_0, ro_0_1, ro_0_2, ro_0_3, ro_0_4, ro_0_5, ro_0_6, ro_0_7, ro_0_8, ro_0_9, ro_0_10, ro_0_11, ro_0_12, ro_1_0, ro_1_1, ro_2_0, ro_4_0, ro_6_0, ro_6_1, ro_6_2, ro_6_3, ro_6_4, ro_6_5, ro_6_6, ro_6_7, ro_6_8, ro_8_0, ro_10_0, ro_12_0, ro_14_0, ro_16_0, ro_18_0, ro_20_0, ro_22_0, ro_22_1, ro_22_2, ro_23_0, ro_25_0, ro_27_0, ro_29_0, ro_29_1, ro_29_2, ro_29_3, ro_29_4, ro_29_5, ro_29_6, ro_29_7, ro_29_8, ro_31_0, ro_33_0, ro_35_0, ro_37_0, ro_39_0, ro_41_0, ro_43_0, ro_45_0, ro_45_1, ro_45_2, ro_46_0, ro_48_0, ro_50_0, ro_52_0, ro_52_1, ro_52_2, ro_52_3, ro_53_0, ro_55_0, ro_57_0, ro_59_0, ro_61_0, ro_61_1, ro_61_2, ro_61_3, ro_62_0, ro_64_0, ro_66_0, ro_68_0, ro_70_0, ro_70_1, ro_70_2, ro_70_3, ro_70_4, ro_70_5, ro_70_6, ro_70_7, ro_70_8, ro_70_9, ro_71_0, ro_73_0, ro_75_0, ro_77_0, ro_79_0, ro_81_0, ro_83_0, ro_85_0, ro_87_0, ro_89_0, ro_91_0, ro_91_1, ro_91_2, ro_91_3, ro_91_4, ro_91_5, ro_91_6, ro_91_7, ro_91_8, ro_91_9, ro_92_0, ro_94_0, ro_96_0, ro_98_0, ro_100_0, ro_102_0, ro_104_0, ro_106_0, ro_108_0, ro_110_0, ro_112_0, ro_112_1, ro_112_2, ro_112_3, ro_112_4, ro_112_5, ro_112_6, ro_112_7, ro_112_8, ro_112_9, ro_113_0, ro_115_0, ro_117_0, ro_119_0, ro_121_0, ro_123_0, ro_125_0, ro_127_0, ro_129_0, ro_131_0, ro_133_0, ro_133_1, ro_133_2, ro_133_3, ro_133_4, ro_133_5, ro_133_6, ro_133_7, ro_133_8, ro_133_9, ro_134_0, ro_136_0, ro_138_0, ro_140_0, ro_142_0, ro_144_0, ro_146_0, ro_148_0, ro_150_0, ro_152_0, ro_154_0, ro_155_0, ro_157_0, ro_157_1, ro_157_2, ro_157_3, ro_157_4, ro_157_5, ro_157_6, ro_157_7, ro_157_8, ro_157_9, ro_158_0, ro_160_0, ro_162_0, ro_164_0, ro_166_0, ro_168_0, ro_170_0, ro_172_0, ro_174_0, ro_176_0, ro_178_0, ro_180_0, ro_182_1, ro_182_4, ro_182_5, ro_182_6, ro_182_9, ro_182_10, ro_182_11, ro_182_13, ro_182_14, ro_182_15, ro_182_16, ro_182_17, ro_182_20, ro_182_21, ro_182_22, ro_182_23, ro_182_24, ro_182_26, ro_182_27, ro_182_28, lo_3, lo_5, lo_7, lo_9, lo_11, lo_13, lo_15, lo_17, lo_19, lo_21, lo_24, lo_26, lo_28, lo_30, lo_32, lo_34, lo_36, lo_38, lo_40, lo_42, lo_44, lo_47, lo_49, lo_51, lo_54, lo_56, lo_58, lo_60, lo_63, lo_65, lo_67, lo_69, lo_72, lo_74, lo_76, lo_78, lo_80, lo_82, lo_84, lo_86, lo_88, lo_90, lo_93, lo_95, lo_97, lo_99, lo_101, lo_103, lo_105, lo_107, lo_109, lo_111, lo_114, lo_116, lo_118, lo_120, lo_122, lo_124, lo_126, lo_128, lo_130, lo_132, lo_135, lo_137, lo_139, lo_141, lo_143, lo_145, lo_147, lo_149, lo_151, lo_153, lo_156, lo_159, lo_161, lo_163, lo_165, lo_167, lo_169, lo_171, lo_173, lo_175, lo_177, lo_179, lo_181, lo_183, lo_184, lo_185, lo_186, lo_187, lo_188, lo_189, lo_190, lo_191, lo_192, lo_193, lo_194, lo_195, lo_196, lo_197, lo_198, lo_199, lo_200, lo_201, lo_202, lo_203, jp_nn, jp_eq, jp_e1, Classical.not_not, ji0, ji1, ji2, cs46_198, kk_198, cs46_225, kk_225, cs46_228, kk_228, cs46_264, kk_264, cs46_259, kk_259f, cs46_285, kk_285f, cs46_287, kk_287f, cs46_274, kk_274, cs46_298, kk_298, cs46_309, kk_309, jl_0, jl_1, jl_2, jl_3, jl_4, jl_5, jl_6, jl_7, jl_8, jl_9, jl_10, jl_11, jl_12, jl_13, jl_14, jl_15, jl_16, jl_17, jl_18, jl_19, jl_20, jl_21, jl_22, jl_23, jl_24, jl_25, jl_26, jl_27, jl_28, jl_29, jl_30, jl_31, jl_32, jl_33, jl_34, jl_35, jl_36, jl_37, jl_38, jl_39, jl_40, jl_95, jl_96, jl_97, jl_98, jl_99, jl_100, jl_101, jl_102, jl_103, jl_104, jl_105, jl_106, jl_107, jl_108, jl_109, jl_110, jl_111, jl_112, jl_113, jl_114, jl_186, jl_1100, jr, ju, jpT, jpF, tnc, Nat.reduceEqDiff, reduceIte, and_false, false_and, not_true_eq_false, not_false_eq_true, or_false, gt_iff_lt, ge_iff_le, Int.lt_irrefl, Int.le_refl, ya]
      exact hQ _ _ _ (BKq.u (fun z => by omega))
  · exact hQ.elim
theorem m_273b : BodyOK CS46 CS46 273 := fun av h Q hQ => by
  rw [cs46_273] at hQ
  unfold k273b at hQ
  split at hQ
  · rename_i t w
    obtain ⟨rfl, M, S, eM_w, hM_w, eS, hS_w, l30, ln, hQ⟩ := hQ
    show pS CS46 bb_273 [182, w, 0, 0, 0] h _
    unfold bb_273
    by_cases yw : 0 ≤ w ∧ w ≤ 2
    · simp only [qe_1, qe_3, qe_4, qe_5, qe_7, qe_72, qe_10, qe_102, qe_13, qe_14, qe_15, qe_16, qe_17, qe_18, qe_20, qe_22, qe_23, qe_21, qe_24, qe_25, qe_26, qe_27, qe_28, qe_30, qe_31, qe_32, qc_20, qc_22, qc_23, qc_21, qc_24, qc_25, qc_26, qc_27, qc_1, qc_3, qc_4, qc_7, qc_13, qc_28, qc_32, qs_1, qs_2, qs_3, qs_4, qs_5, qs_6, qs_9, qs_10, qs_11, qs_14, qs_15, qs_16, qs_27, qs_17, qs_18, qs_19, qs_20, qs_22, qs_23, qs_28, qs_25, qs_26, qs_7, qs_8, kc_1, kn_1, kc_2, kn_2, kc_3, kn_3, kc_4, kn_4, kc_5, kn_5, kc_6, kn_6, kc_7, kn_7, kc_8, kn_8, kc_9, kn_9, kc_10, kn_10, kc_11, kn_11, kc_12, kn_12, kc_13, kn_13, kc_14, kn_14, kc_15, kn_15, kc_16, kc_17, kc_18, kc_19, kc_20, kc_21, kc_22, kc_23, kc_30, kc_32, kc_40, kc_43, kc_45, kc_48, kc_52, kc_56, kc_57, kc_59, kc_60, kc_61, kc_63, kc_64, kc_72, kc_78, kc_97, kc_99, kc_122, kc_126, kc_128, kc_192, kc_200, kc_255, kc_999, kc_1000, kc_9999, kn_9999, kc_10000, kc_12345, kc_65536, kc_252645135, kc_858993459, kc_1103515245, kc_1431655765, kc_2147483647, kc_0, kc_24, kc_28, kc_37, kc_41, kc_42, kc_73, kc_91, kc_95, kc_96, kc_98, kc_100, kc_112, kc_125, kc_150, kc_162, kc_163, kc_168, kc_186, kc_190, kc_250, kc_355, kc_356, kc_404, kc_405, kc_429, kc_573, kc_1002, kc_1100, kc_1891, kc_2200, kc_4719, kc_4869, kc_4881, kc_5148, kc_19741, kc_25433, kc_320403, kc_628412, kc_629093, kc_660401, kc_679843, kc_918640, kc_979410, kc_1178088, kc_6232410, kc_24644941, kc_36238189, kc_38270444, kc_392531318, kc_425693491, kc_1342154595, kc_2147483648, kc_42328242873, kc_891704255789, kc_1722105685577, kc_1858726030364, ct_0, ct_1, ct_2, ct_3, ct_4, ct_5, cf_0, cf_1, cf_2, cf_3, cf_4, cf_5, w_ty6, w_ty7, m_sv, m_z0, m_hd, m_g0, m_gs, m_s0, m_ss, m_ap, m_an, forall_const, true_and, and_true, ne_eq, not_true_eq_false, not_false_eq_true, false_implies, true_implies, implies_true, eq_self, reduceCtorEq, Nat.reduceDiv, Nat.reduceMod, Int.reduceToNat, or_true, true_or, or_false, false_or, or_self, m_it, m_if, m_c1, m_01, m_02, m_03, m_04, m_10, m_12, m_13, m_14, m_20, m_21, m_23, m_24, m_30, m_31, m_32, m_34, m_40, m_41, m_42, m_43, Int.reduceLE, Int.reduceLT, Int.reduceGE, Int.reduceGT, Int.reduceNeg, Int.reduceAdd, Int.reduceSub, Int.reduceMul, Int.reduceEq, Int.reduceNe, Nat.reduceAdd, jun2, ro_0_0, ro_0_1, ro_0_2, ro_0_3, ro_0_4, ro_0_5, ro_0_6, ro_0_7, ro_0_8, ro_0_9, ro_0_10, ro_0_11, ro_0_12, ro_1_0, ro_1_1, ro_2_0, ro_4_0, ro_6_0, ro_6_1, ro_6_2, ro_6_3, ro_6_4, ro_6_5, ro_6_6, ro_6_7, ro_6_8, ro_8_0, ro_10_0, ro_12_0, ro_14_0, ro_16_0, ro_18_0, ro_20_0, ro_22_0, ro_22_1, ro_22_2, ro_23_0, ro_25_0, ro_27_0, ro_29_0, ro_29_1, ro_29_2, ro_29_3, ro_29_4, ro_29_5, ro_29_6, ro_29_7, ro_29_8, ro_31_0, ro_33_0, ro_35_0, ro_37_0, ro_39_0, ro_41_0, ro_43_0, ro_45_0, ro_45_1, ro_45_2, ro_46_0, ro_48_0, ro_50_0, ro_52_0, ro_52_1, ro_52_2, ro_52_3, ro_53_0, ro_55_0, ro_57_0, ro_59_0, ro_61_0, ro_61_1, ro_61_2, ro_61_3, ro_62_0, ro_64_0, ro_66_0, ro_68_0, ro_70_0, ro_70_1, ro_70_2, ro_70_3, ro_70_4, ro_70_5, ro_70_6, ro_70_7, ro_70_8, ro_70_9, ro_71_0, ro_73_0, ro_75_0, ro_77_0, ro_79_0, ro_81_0, ro_83_0, ro_85_0, ro_87_0, ro_89_0, ro_91_0, ro_91_1, ro_91_2, ro_91_3, ro_91_4, ro_91_5, ro_91_6, ro_91_7, ro_91_8, ro_91_9, ro_92_0, ro_94_0, ro_96_0, ro_98_0, ro_100_0, ro_102_0, ro_104_0, ro_106_0, ro_108_0, ro_110_0, ro_112_0, ro_112_1, ro_112_2, ro_112_3, ro_112_4, ro_112_5, ro_112_6, ro_112_7, ro_112_8, ro_112_9, ro_113_0, ro_115_0, ro_117_0, ro_119_0, ro_121_0, ro_123_0, ro_125_0, ro_127_0, ro_129_0, ro_131_0, ro_133_0, ro_133_1, ro_133_2, ro_133_3, ro_133_4, ro_133_5, ro_133_6, ro_133_7, ro_133_8, ro_133_9, ro_134_0, ro_136_0, ro_138_0, ro_140_0, ro_142_0, ro_144_0, ro_146_0, ro_148_0, ro_150_0, ro_152_0, ro_154_0, ro_155_0, ro_157_0, ro_157_1, ro_157_2, ro_157_3, ro_157_4, ro_157_5, ro_157_6, ro_157_7, ro_157_8, ro_157_9, ro_158_0, ro_160_0, ro_162_0, ro_164_0, ro_166_0, ro_168_0, ro_170_0, ro_172_0, ro_174_0, ro_176_0, ro_178_0, ro_180_0, ro_182_1, ro_182_4, ro_182_5, ro_182_6, ro_182_9, ro_182_10, ro_182_11, ro_182_13, ro_182_14, ro_182_15, ro_182_16, ro_182_17, ro_182_20, ro_182_21, ro_182_22, ro_182_23, ro_182_24, ro_182_26, ro_182_27, ro_182_28, lo_3, lo_5, lo_7, lo_9, lo_11, lo_13, lo_15, lo_17, lo_19, lo_21, lo_24, lo_26, lo_28, lo_30, lo_32, lo_34, lo_36, lo_38, lo_40, lo_42, lo_44, lo_47, lo_49, lo_51, lo_54, lo_56, lo_58, lo_60, lo_63, lo_65, lo_67, lo_69, lo_72, lo_74, lo_76, lo_78, lo_80, lo_82, lo_84, lo_86, lo_88, lo_90, lo_93, lo_95, lo_97, lo_99, lo_101, lo_103, lo_105, lo_107, lo_109, lo_111, lo_114, lo_116, lo_118, lo_120, lo_122, lo_124, lo_126, lo_128, lo_130, lo_132, lo_135, lo_137, lo_139, lo_141, lo_143, lo_145, lo_147, lo_149, lo_151, lo_153, lo_156, lo_159, lo_161, lo_163, lo_165, lo_167, lo_169, lo_171, lo_173, lo_175, lo_177, lo_179, lo_181, lo_183, lo_184, lo_185, lo_186, lo_187, lo_188, lo_189, lo_190, lo_191, lo_192, lo_193, lo_194, lo_195, lo_196, lo_197, lo_198, lo_199, lo_200, lo_201, lo_202, lo_203, jp_nn, jp_eq, jp_e1, Classical.not_not, ji0, ji1, ji2, cs46_198, kk_198, cs46_240, kk_240s, cs46_264, kk_264, cs46_266, kk_266, cs46_259, kk_259f, jl_0, jl_1, jl_2, jl_3, jl_4, jl_5, jl_6, jl_7, jl_8, jl_9, jl_10, jl_11, jl_12, jl_13, jl_14, jl_15, jl_16, jl_17, jl_18, jl_19, jl_20, jl_21, jl_22, jl_23, jl_24, jl_25, jl_26, jl_27, jl_28, jl_29, jl_30, jl_31, jl_32, jl_33, jl_34, jl_35, jl_36, jl_37, jl_38, jl_39, jl_40, jl_95, jl_96, jl_97, jl_98, jl_99, jl_100, jl_101, jl_102, jl_103, jl_104, jl_105, jl_106, jl_107, jl_108, jl_109, jl_110, jl_111, jl_112, jl_113, jl_114, jl_186, jl_1100, jr, ju, jpT, jpF, tnc, Nat.reduceEqDiff, reduceIte, and_false, false_and, not_true_eq_false, not_false_eq_true, or_false, gt_iff_lt, ge_iff_le, Int.lt_irrefl, Int.le_refl, yw, and_self]
      refine ⟨4719, M, S, rfl, by decide, eM_w, hM_w, eS, hS_w, fun h1 f1_w g1 _ => ?_⟩
      refine qp_lp (fun en h' => ∃ (n : Nat) (x y : Int), en = [182, w, x, (n : Int), y] ∧ n ≤ 30 ∧ BKq h h' ∧ h' 191 = h 191) ⟨0, _, _, rfl, by decide, fun q z => g1 q (by omega), f1_w.row rfl (by decide)⟩ ?_
      intro en h2 ⟨n, x, y, e2_w, n30_w, b2, r2⟩
      subst e2_w
      have e0 : h2 191 0 = h 191 0 := by rw [r2]
      by_cases z1 : (n : Int) < h 191 0
      · have z1' : ¬ h 191 0 ≤ (n : Int) := by omega
        obtain ⟨l0, l1, l2⟩ := ln n z1
        have ek := jk1 (k := n) (by omega)
        have i0 : j32 (1 + j32 (4 * (n : Int))) = ((1 + 4 * n : Nat) : Int) := by
          rw [jcn (x := 4 * (n : Int)) (n := 4 * n) (by omega) (by omega)]
          exact jcn (by omega) (by omega)
        have i1_w : j32 (((1 + 4 * n : Nat) : Int) + 1) = ((2 + 4 * n : Nat) : Int) := jcn (by omega) (by omega)
        have i2_w : j32 (((1 + 4 * n : Nat) : Int) + 2) = ((3 + 4 * n : Nat) : Int) := jcn (by omega) (by omega)
        have i3_w : j32 (((1 + 4 * n : Nat) : Int) + 3) = ((4 + 4 * n : Nat) : Int) := jcn (by omega) (by omega)
        have a0_w : h2 191 (1 + 4 * n) = h 191 (1 + 4 * n) := by rw [r2]
        have a1_w : h2 191 (2 + 4 * n) = h 191 (2 + 4 * n) := by rw [r2]
        have a2 : h2 191 (3 + 4 * n) = h 191 (3 + 4 * n) := by rw [r2]
        have a3 : h2 191 (4 + 4 * n) = h 191 (4 + 4 * n) := by rw [r2]
        by_cases c0 : h 191 (1 + 4 * n) = 0
        · have := l0 c0
          simp only [qe_1, qe_3, qe_4, qe_5, qe_7, qe_72, qe_10, qe_102, qe_13, qe_14, qe_15, qe_16, qe_17, qe_18, qe_20, qe_22, qe_23, qe_21, qe_24, qe_25, qe_26, qe_27, qe_28, qe_30, qe_31, qe_32, qc_20, qc_22, qc_23, qc_21, qc_24, qc_25, qc_26, qc_27, qc_1, qc_3, qc_4, qc_7, qc_13, qc_28, qc_32, qs_1, qs_2, qs_3, qs_4, qs_5, qs_6, qs_9, qs_10, qs_11, qs_14, qs_15, qs_16, qs_27, qs_17, qs_18, qs_19, qs_20, qs_22, qs_23, qs_28, qs_25, qs_26, qs_7, qs_8, kc_1, kn_1, kc_2, kn_2, kc_3, kn_3, kc_4, kn_4, kc_5, kn_5, kc_6, kn_6, kc_7, kn_7, kc_8, kn_8, kc_9, kn_9, kc_10, kn_10, kc_11, kn_11, kc_12, kn_12, kc_13, kn_13, kc_14, kn_14, kc_15, kn_15, kc_16, kc_17, kc_18, kc_19, kc_20, kc_21, kc_22, kc_23, kc_30, kc_32, kc_40, kc_43, kc_45, kc_48, kc_52, kc_56, kc_57, kc_59, kc_60, kc_61, kc_63, kc_64, kc_72, kc_78, kc_97, kc_99, kc_122, kc_126, kc_128, kc_192, kc_200, kc_255, kc_999, kc_1000, kc_9999, kn_9999, kc_10000, kc_12345, kc_65536, kc_252645135, kc_858993459, kc_1103515245, kc_1431655765, kc_2147483647, kc_0, kc_24, kc_28, kc_37, kc_41, kc_42, kc_73, kc_91, kc_95, kc_96, kc_98, kc_100, kc_112, kc_125, kc_150, kc_162, kc_163, kc_168, kc_186, kc_190, kc_250, kc_355, kc_356, kc_404, kc_405, kc_429, kc_573, kc_1002, kc_1100, kc_1891, kc_2200, kc_4719, kc_4869, kc_4881, kc_5148, kc_19741, kc_25433, kc_320403, kc_628412, kc_629093, kc_660401, kc_679843, kc_918640, kc_979410, kc_1178088, kc_6232410, kc_24644941, kc_36238189, kc_38270444, kc_392531318, kc_425693491, kc_1342154595, kc_2147483648, kc_42328242873, kc_891704255789, kc_1722105685577, kc_1858726030364, ct_0, ct_1, ct_2, ct_3, ct_4, ct_5, cf_0, cf_1, cf_2, cf_3, cf_4, cf_5, w_ty6, w_ty7, m_sv, m_z0, m_hd, m_g0, m_gs, m_s0, m_ss, m_ap, m_an, forall_const, true_and, and_true, ne_eq, not_true_eq_false, not_false_eq_true, false_implies, true_implies, implies_true, eq_self, reduceCtorEq, Nat.reduceDiv, Nat.reduceMod, Int.reduceToNat, or_true, true_or, or_false, false_or, or_self, m_it, m_if, m_c1, m_01, m_02, m_03, m_04, m_10, m_12, m_13, m_14, m_20, m_21, m_23, m_24, m_30, m_31, m_32, m_34, m_40, m_41, m_42, m_43, Int.reduceLE, Int.reduceLT, Int.reduceGE, Int.reduceGT, Int.reduceNeg, Int.reduceAdd, Int.reduceSub, Int.reduceMul, Int.reduceEq, Int.reduceNe, Nat.reduceAdd, jun2, ro_0_0, ro_0_1, ro_0_2, ro_0_3, ro_0_4, ro_0_5, ro_0_6, ro_0_7, ro_0_8, ro_0_9, ro_0_10, ro_0_11, ro_0_12, ro_1_0, ro_1_1, ro_2_0, ro_4_0, ro_6_0, ro_6_1, ro_6_2, ro_6_3, ro_6_4, ro_6_5, ro_6_6, ro_6_7, ro_6_8, ro_8_0, ro_10_0, ro_12_0, ro_14_0, ro_16_0, ro_18_0, ro_20_0, ro_22_0, ro_22_1, ro_22_2, ro_23_0, ro_25_0, ro_27_0, ro_29_0, ro_29_1, ro_29_2, ro_29_3, ro_29_4, ro_29_5, ro_29_6, ro_29_7, ro_29_8, ro_31_0, ro_33_0, ro_35_0, ro_37_0, ro_39_0, ro_41_0, ro_43_0, ro_45_0, ro_45_1, ro_45_2, ro_46_0, ro_48_0, ro_50_0, ro_52_0, ro_52_1, ro_52_2, ro_52_3, ro_53_0, ro_55_0, ro_57_0, ro_59_0, ro_61_0, ro_61_1, ro_61_2, ro_61_3, ro_62_0, ro_64_0, ro_66_0, ro_68_0, ro_70_0, ro_70_1, ro_70_2, ro_70_3, ro_70_4, ro_70_5, ro_70_6, ro_70_7, ro_70_8, ro_70_9, ro_71_0, ro_73_0, ro_75_0, ro_77_0, ro_79_0, ro_81_0, ro_83_0, ro_85_0, ro_87_0, ro_89_0, ro_91_0, ro_91_1, ro_91_2, ro_91_3, ro_91_4, ro_91_5, ro_91_6, ro_91_7, ro_91_8, ro_91_9, ro_92_0, ro_94_0, ro_96_0, ro_98_0, ro_100_0, ro_102_0, ro_104_0, ro_106_0, ro_108_0, ro_110_0, ro_112_0, ro_112_1, ro_112_2, ro_112_3, ro_112_4, ro_112_5, ro_112_6, ro_112_7, ro_112_8, ro_112_9, ro_113_0, ro_115_0, ro_117_0, ro_119_0, ro_121_0, ro_123_0, ro_125_0, ro_127_0, ro_129_0, ro_131_0, ro_133_0, ro_133_1, ro_133_2, ro_133_3, ro_133_4, ro_133_5, ro_133_6, ro_133_7, ro_133_8, ro_133_9, ro_134_0, ro_136_0, ro_138_0, ro_140_0, ro_142_0, ro_144_0, ro_146_0, ro_148_0, ro_150_0, ro_152_0, ro_154_0, ro_155_0, ro_157_0, ro_157_1, ro_157_2, ro_157_3, ro_157_4, ro_157_5, ro_157_6, ro_157_7, ro_157_8, ro_157_9, ro_158_0, ro_160_0, ro_162_0, ro_164_0, ro_166_0, ro_168_0, ro_170_0, ro_172_0, ro_174_0, ro_176_0, ro_178_0, ro_180_0, ro_182_1, ro_182_4, ro_182_5, ro_182_6, ro_182_9, ro_182_10, ro_182_11, ro_182_13, ro_182_14, ro_182_15, ro_182_16, ro_182_17, ro_182_20, ro_182_21, ro_182_22, ro_182_23, ro_182_24, ro_182_26, ro_182_27, ro_182_28, lo_3, lo_5, lo_7, lo_9, lo_11, lo_13, lo_15, lo_17, lo_19, lo_21, lo_24, lo_26, lo_28, lo_30, lo_32, lo_34, lo_36, lo_38, lo_40, lo_42, lo_44, lo_47, lo_49, lo_51, lo_54, lo_56, lo_58, lo_60, lo_63, lo_65, lo_67, lo_69, lo_72, lo_74, lo_76, lo_78, lo_80, lo_82, lo_84, lo_86, lo_88, lo_90, lo_93, lo_95, lo_97, lo_99, lo_101, lo_103, lo_105, lo_107, lo_109, lo_111, lo_114, lo_116, lo_118, lo_120, lo_122, lo_124, lo_126, lo_128, lo_130, lo_132, lo_135, lo_137, lo_139, lo_141, lo_143, lo_145, lo_147, lo_149, lo_151, lo_153, lo_156, lo_159, lo_161, lo_163, lo_165, lo_167, lo_169, lo_171, lo_173, lo_175, lo_177, lo_179, lo_181, lo_183, lo_184, lo_185, lo_186, lo_187, lo_188, lo_189, lo_190, lo_191, lo_192, lo_193, lo_194, lo_195, lo_196, lo_197, lo_198, lo_199, lo_200, lo_201, lo_202, lo_203, jp_nn, jp_eq, jp_e1, Classical.not_not, ji0, ji1, ji2, cs46_198, kk_198, cs46_240, kk_240s, cs46_264, kk_264, cs46_266, kk_266, cs46_259, kk_259f, jl_0, jl_1, jl_2, jl_3, jl_4, jl_5, jl_6, jl_7, jl_8, jl_9, jl_10, jl_11, jl_12, jl_13, jl_14, jl_15, jl_16, jl_17, jl_18, jl_19, jl_20, jl_21, jl_22, jl_23, jl_24, jl_25, jl_26, jl_27, jl_28, jl_29, jl_30, jl_31, jl_32, jl_33, jl_34, jl_35, jl_36, jl_37, jl_38, jl_39, jl_40, jl_95, jl_96, jl_97, jl_98, jl_99, jl_100, jl_101, jl_102, jl_103, jl_104, jl_105, jl_106, jl_107, jl_108, jl_109, jl_110, jl_111, jl_112, jl_113, jl_114, jl_186, jl_1100, jr, ju, jpT, jpF, tnc, Nat.reduceEqDiff, reduceIte, and_false, false_and, not_true_eq_false, not_false_eq_true, or_false, gt_iff_lt, ge_iff_le, Int.lt_irrefl, Int.le_refl, z1, z1', e0, ek, i0, i1_w, i2_w, i3_w, a0_w, a1_w, a2, a3, c0]
          intros
          exact ⟨4719, (h 191 (2 + 4 * n)).toNat, (h 191 (3 + 4 * n)).toNat, rfl, by decide, by omega, by omega, by omega, by omega, n + 1, _, _, rfl, by omega, BKq.tr b2 (BKq.u (fun z => by omega)), r2⟩
        · by_cases c1_w : h 191 (1 + 4 * n) = 1
          · have := l1 c1_w
            simp only [qe_1, qe_3, qe_4, qe_5, qe_7, qe_72, qe_10, qe_102, qe_13, qe_14, qe_15, qe_16, qe_17, qe_18, qe_20, qe_22, qe_23, qe_21, qe_24, qe_25, qe_26, qe_27, qe_28, qe_30, qe_31, qe_32, qc_20, qc_22, qc_23, qc_21, qc_24, qc_25, qc_26, qc_27, qc_1, qc_3, qc_4, qc_7, qc_13, qc_28, qc_32, qs_1, qs_2, qs_3, qs_4, qs_5, qs_6, qs_9, qs_10, qs_11, qs_14, qs_15, qs_16, qs_27, qs_17, qs_18, qs_19, qs_20, qs_22, qs_23, qs_28, qs_25, qs_26, qs_7, qs_8, kc_1, kn_1, kc_2, kn_2, kc_3, kn_3, kc_4, kn_4, kc_5, kn_5, kc_6, kn_6, kc_7, kn_7, kc_8, kn_8, kc_9, kn_9, kc_10, kn_10, kc_11, kn_11, kc_12, kn_12, kc_13, kn_13, kc_14, kn_14, kc_15, kn_15, kc_16, kc_17, kc_18, kc_19, kc_20, kc_21, kc_22, kc_23, kc_30, kc_32, kc_40, kc_43, kc_45, kc_48, kc_52, kc_56, kc_57, kc_59, kc_60, kc_61, kc_63, kc_64, kc_72, kc_78, kc_97, kc_99, kc_122, kc_126, kc_128, kc_192, kc_200, kc_255, kc_999, kc_1000, kc_9999, kn_9999, kc_10000, kc_12345, kc_65536, kc_252645135, kc_858993459, kc_1103515245, kc_1431655765, kc_2147483647, kc_0, kc_24, kc_28, kc_37, kc_41, kc_42, kc_73, kc_91, kc_95, kc_96, kc_98, kc_100, kc_112, kc_125, kc_150, kc_162, kc_163, kc_168, kc_186, kc_190, kc_250, kc_355, kc_356, kc_404, kc_405, kc_429, kc_573, kc_1002, kc_1100, kc_1891, kc_2200, kc_4719, kc_4869, kc_4881, kc_5148, kc_19741, kc_25433, kc_320403, kc_628412, kc_629093, kc_660401, kc_679843, kc_918640, kc_979410, kc_1178088, kc_6232410, kc_24644941, kc_36238189, kc_38270444, kc_392531318, kc_425693491, kc_1342154595, kc_2147483648, kc_42328242873, kc_891704255789, kc_1722105685577, kc_1858726030364, ct_0, ct_1, ct_2, ct_3, ct_4, ct_5, cf_0, cf_1, cf_2, cf_3, cf_4, cf_5, w_ty6, w_ty7, m_sv, m_z0, m_hd, m_g0, m_gs, m_s0, m_ss, m_ap, m_an, forall_const, true_and, and_true, ne_eq, not_true_eq_false, not_false_eq_true, false_implies, true_implies, implies_true, eq_self, reduceCtorEq, Nat.reduceDiv, Nat.reduceMod, Int.reduceToNat, or_true, true_or, or_false, false_or, or_self, m_it, m_if, m_c1, m_01, m_02, m_03, m_04, m_10, m_12, m_13, m_14, m_20, m_21, m_23, m_24, m_30, m_31, m_32, m_34, m_40, m_41, m_42, m_43, Int.reduceLE, Int.reduceLT, Int.reduceGE, Int.reduceGT, Int.reduceNeg, Int.reduceAdd, Int.reduceSub, Int.reduceMul, Int.reduceEq, Int.reduceNe, Nat.reduceAdd, jun2, ro_0_0, ro_0_1, ro_0_2, ro_0_3, ro_0_4, ro_0_5, ro_0_6, ro_0_7, ro_0_8, ro_0_9, ro_0_10, ro_0_11, ro_0_12, ro_1_0, ro_1_1, ro_2_0, ro_4_0, ro_6_0, ro_6_1, ro_6_2, ro_6_3, ro_6_4, ro_6_5, ro_6_6, ro_6_7, ro_6_8, ro_8_0, ro_10_0, ro_12_0, ro_14_0, ro_16_0, ro_18_0, ro_20_0, ro_22_0, ro_22_1, ro_22_2, ro_23_0, ro_25_0, ro_27_0, ro_29_0, ro_29_1, ro_29_2, ro_29_3, ro_29_4, ro_29_5, ro_29_6, ro_29_7, ro_29_8, ro_31_0, ro_33_0, ro_35_0, ro_37_0, ro_39_0, ro_41_0, ro_43_0, ro_45_0, ro_45_1, ro_45_2, ro_46_0, ro_48_0, ro_50_0, ro_52_0, ro_52_1, ro_52_2, ro_52_3, ro_53_0, ro_55_0, ro_57_0, ro_59_0, ro_61_0, ro_61_1, ro_61_2, ro_61_3, ro_62_0, ro_64_0, ro_66_0, ro_68_0, ro_70_0, ro_70_1, ro_70_2, ro_70_3, ro_70_4, ro_70_5, ro_70_6, ro_70_7, ro_70_8, ro_70_9, ro_71_0, ro_73_0, ro_75_0, ro_77_0, ro_79_0, ro_81_0, ro_83_0, ro_85_0, ro_87_0, ro_89_0, ro_91_0, ro_91_1, ro_91_2, ro_91_3, ro_91_4, ro_91_5, ro_91_6, ro_91_7, ro_91_8, ro_91_9, ro_92_0, ro_94_0, ro_96_0, ro_98_0, ro_100_0, ro_102_0, ro_104_0, ro_106_0, ro_108_0, ro_110_0, ro_112_0, ro_112_1, ro_112_2, ro_112_3, ro_112_4, ro_112_5, ro_112_6, ro_112_7, ro_112_8, ro_112_9, ro_113_0, ro_115_0, ro_117_0, ro_119_0, ro_121_0, ro_123_0, ro_125_0, ro_127_0, ro_129_0, ro_131_0, ro_133_0, ro_133_1, ro_133_2, ro_133_3, ro_133_4, ro_133_5, ro_133_6, ro_133_7, ro_133_8, ro_133_9, ro_134_0, ro_136_0, ro_138_0, ro_140_0, ro_142_0, ro_144_0, ro_146_0, ro_148_0, ro_150_0, ro_152_0, ro_154_0, ro_155_0, ro_157_0, ro_157_1, ro_157_2, ro_157_3, ro_157_4, ro_157_5, ro_157_6, ro_157_7, ro_157_8, ro_157_9, ro_158_0, ro_160_0, ro_162_0, ro_164_0, ro_166_0, ro_168_0, ro_170_0, ro_172_0, ro_174_0, ro_176_0, ro_178_0, ro_180_0, ro_182_1, ro_182_4, ro_182_5, ro_182_6, ro_182_9, ro_182_10, ro_182_11, ro_182_13, ro_182_14, ro_182_15, ro_182_16, ro_182_17, ro_182_20, ro_182_21, ro_182_22, ro_182_23, ro_182_24, ro_182_26, ro_182_27, ro_182_28, lo_3, lo_5, lo_7, lo_9, lo_11, lo_13, lo_15, lo_17, lo_19, lo_21, lo_24, lo_26, lo_28, lo_30, lo_32, lo_34, lo_36, lo_38, lo_40, lo_42, lo_44, lo_47, lo_49, lo_51, lo_54, lo_56, lo_58, lo_60, lo_63, lo_65, lo_67, lo_69, lo_72, lo_74, lo_76, lo_78, lo_80, lo_82, lo_84, lo_86, lo_88, lo_90, lo_93, lo_95, lo_97, lo_99, lo_101, lo_103, lo_105, lo_107, lo_109, lo_111, lo_114, lo_116, lo_118, lo_120, lo_122, lo_124, lo_126, lo_128, lo_130, lo_132, lo_135, lo_137, lo_139, lo_141, lo_143, lo_145, lo_147, lo_149, lo_151, lo_153, lo_156, lo_159, lo_161, lo_163, lo_165, lo_167, lo_169, lo_171, lo_173, lo_175, lo_177, lo_179, lo_181, lo_183, lo_184, lo_185, lo_186, lo_187, lo_188, lo_189, lo_190, lo_191, lo_192, lo_193, lo_194, lo_195, lo_196, lo_197, lo_198, lo_199, lo_200, lo_201, lo_202, lo_203, jp_nn, jp_eq, jp_e1, Classical.not_not, ji0, ji1, ji2, cs46_198, kk_198, cs46_240, kk_240s, cs46_264, kk_264, cs46_266, kk_266, cs46_259, kk_259f, jl_0, jl_1, jl_2, jl_3, jl_4, jl_5, jl_6, jl_7, jl_8, jl_9, jl_10, jl_11, jl_12, jl_13, jl_14, jl_15, jl_16, jl_17, jl_18, jl_19, jl_20, jl_21, jl_22, jl_23, jl_24, jl_25, jl_26, jl_27, jl_28, jl_29, jl_30, jl_31, jl_32, jl_33, jl_34, jl_35, jl_36, jl_37, jl_38, jl_39, jl_40, jl_95, jl_96, jl_97, jl_98, jl_99, jl_100, jl_101, jl_102, jl_103, jl_104, jl_105, jl_106, jl_107, jl_108, jl_109, jl_110, jl_111, jl_112, jl_113, jl_114, jl_186, jl_1100, jr, ju, jpT, jpF, tnc, Nat.reduceEqDiff, reduceIte, and_false, false_and, not_true_eq_false, not_false_eq_true, or_false, gt_iff_lt, ge_iff_le, Int.lt_irrefl, Int.le_refl, z1, z1', e0, ek, i0, i1_w, i2_w, i3_w, a0_w, a1_w, a2, a3, c1_w]
            intros
            refine ⟨4719, (h 191 (2 + 4 * n)).toNat, (h 191 (4 + 4 * n)).toNat, rfl, by decide, by omega, by omega, by omega, by omega, fun h3 g3_w g4 => ⟨n + 1, _, _, rfl, by omega, BKq.tr b2 (fun q z => ?_), (funext fun k => g3_w 191 k (by decide)).trans r2⟩⟩
            rw [g4 q, if_neg (by omega)]
          · by_cases c2 : h 191 (1 + 4 * n) = 2
            · have := l2 c2
              have i4_w : j32 (4869 + h 191 (2 + 4 * n)) = ((4869 + (h 191 (2 + 4 * n)).toNat : Nat) : Int) := jcn (by omega) (by omega)
              simp only [qe_1, qe_3, qe_4, qe_5, qe_7, qe_72, qe_10, qe_102, qe_13, qe_14, qe_15, qe_16, qe_17, qe_18, qe_20, qe_22, qe_23, qe_21, qe_24, qe_25, qe_26, qe_27, qe_28, qe_30, qe_31, qe_32, qc_20, qc_22, qc_23, qc_21, qc_24, qc_25, qc_26, qc_27, qc_1, qc_3, qc_4, qc_7, qc_13, qc_28, qc_32, qs_1, qs_2, qs_3, qs_4, qs_5, qs_6, qs_9, qs_10, qs_11, qs_14, qs_15, qs_16, qs_27, qs_17, qs_18, qs_19, qs_20, qs_22, qs_23, qs_28, qs_25, qs_26, qs_7, qs_8, kc_1, kn_1, kc_2, kn_2, kc_3, kn_3, kc_4, kn_4, kc_5, kn_5, kc_6, kn_6, kc_7, kn_7, kc_8, kn_8, kc_9, kn_9, kc_10, kn_10, kc_11, kn_11, kc_12, kn_12, kc_13, kn_13, kc_14, kn_14, kc_15, kn_15, kc_16, kc_17, kc_18, kc_19, kc_20, kc_21, kc_22, kc_23, kc_30, kc_32, kc_40, kc_43, kc_45, kc_48, kc_52, kc_56, kc_57, kc_59, kc_60, kc_61, kc_63, kc_64, kc_72, kc_78, kc_97, kc_99, kc_122, kc_126, kc_128, kc_192, kc_200, kc_255, kc_999, kc_1000, kc_9999, kn_9999, kc_10000, kc_12345, kc_65536, kc_252645135, kc_858993459, kc_1103515245, kc_1431655765, kc_2147483647, kc_0, kc_24, kc_28, kc_37, kc_41, kc_42, kc_73, kc_91, kc_95, kc_96, kc_98, kc_100, kc_112, kc_125, kc_150, kc_162, kc_163, kc_168, kc_186, kc_190, kc_250, kc_355, kc_356, kc_404, kc_405, kc_429, kc_573, kc_1002, kc_1100, kc_1891, kc_2200, kc_4719, kc_4869, kc_4881, kc_5148, kc_19741, kc_25433, kc_320403, kc_628412, kc_629093, kc_660401, kc_679843, kc_918640, kc_979410, kc_1178088, kc_6232410, kc_24644941, kc_36238189, kc_38270444, kc_392531318, kc_425693491, kc_1342154595, kc_2147483648, kc_42328242873, kc_891704255789, kc_1722105685577, kc_1858726030364, ct_0, ct_1, ct_2, ct_3, ct_4, ct_5, cf_0, cf_1, cf_2, cf_3, cf_4, cf_5, w_ty6, w_ty7, m_sv, m_z0, m_hd, m_g0, m_gs, m_s0, m_ss, m_ap, m_an, forall_const, true_and, and_true, ne_eq, not_true_eq_false, not_false_eq_true, false_implies, true_implies, implies_true, eq_self, reduceCtorEq, Nat.reduceDiv, Nat.reduceMod, Int.reduceToNat, or_true, true_or, or_false, false_or, or_self, m_it, m_if, m_c1, m_01, m_02, m_03, m_04, m_10, m_12, m_13, m_14, m_20, m_21, m_23, m_24, m_30, m_31, m_32, m_34, m_40, m_41, m_42, m_43, Int.reduceLE, Int.reduceLT, Int.reduceGE, Int.reduceGT, Int.reduceNeg, Int.reduceAdd, Int.reduceSub, Int.reduceMul, Int.reduceEq, Int.reduceNe, Nat.reduceAdd, jun2, ro_0_0, ro_0_1, ro_0_2, ro_0_3, ro_0_4, ro_0_5, ro_0_6, ro_0_7, ro_0_8, ro_0_9, ro_0_10, ro_0_11, ro_0_12, ro_1_0, ro_1_1, ro_2_0, ro_4_0, ro_6_0, ro_6_1, ro_6_2, ro_6_3, ro_6_4, ro_6_5, ro_6_6, ro_6_7, ro_6_8, ro_8_0, ro_10_0, ro_12_0, ro_14_0, ro_16_0, ro_18_0, ro_20_0, ro_22_0, ro_22_1, ro_22_2, ro_23_0, ro_25_0, ro_27_0, ro_29_0, ro_29_1, ro_29_2, ro_29_3, ro_29_4, ro_29_5, ro_29_6, ro_29_7, ro_29_8, ro_31_0, ro_33_0, ro_35_0, ro_37_0, ro_39_0, ro_41_0, ro_43_0, ro_45_0, ro_45_1, ro_45_2, ro_46_0, ro_48_0, ro_50_0, ro_52_0, ro_52_1, ro_52_2, ro_52_3, ro_53_0, ro_55_0, ro_57_0, ro_59_0, ro_61_0, ro_61_1, ro_61_2, ro_61_3, ro_62_0, ro_64_0, ro_66_0, ro_68_0, ro_70_0, ro_70_1, ro_70_2, ro_70_3, ro_70_4, ro_70_5, ro_70_6, ro_70_7, ro_70_8, ro_70_9, ro_71_0, ro_73_0, ro_75_0, ro_77_0, ro_79_0, ro_81_0, ro_83_0, ro_85_0, ro_87_0, ro_89_0, ro_91_0, ro_91_1, ro_91_2, ro_91_3, ro_91_4, ro_91_5, ro_91_6, ro_91_7, ro_91_8, ro_91_9, ro_92_0, ro_94_0, ro_96_0, ro_98_0, ro_100_0, ro_102_0, ro_104_0, ro_106_0, ro_108_0, ro_110_0, ro_112_0, ro_112_1, ro_112_2, ro_112_3, ro_112_4, ro_112_5, ro_112_6, ro_112_7, ro_112_8, ro_112_9, ro_113_0, ro_115_0, ro_117_0, ro_119_0, ro_121_0, ro_123_0, ro_125_0, ro_127_0, ro_129_0, ro_131_0, ro_133_0, ro_133_1, ro_133_2, ro_133_3, ro_133_4, ro_133_5, ro_133_6, ro_133_7, ro_133_8, ro_133_9, ro_134_0, ro_136_0, ro_138_0, ro_140_0, ro_142_0, ro_144_0, ro_146_0, ro_148_0, ro_150_0, ro_152_0, ro_154_0, ro_155_0, ro_157_0, ro_157_1, ro_157_2, ro_157_3, ro_157_4, ro_157_5, ro_157_6, ro_157_7, ro_157_8, ro_157_9, ro_158_0, ro_160_0, ro_162_0, ro_164_0, ro_166_0, ro_168_0, ro_170_0, ro_172_0, ro_174_0, ro_176_0, ro_178_0, ro_180_0, ro_182_1, ro_182_4, ro_182_5, ro_182_6, ro_182_9, ro_182_10, ro_182_11, ro_182_13, ro_182_14, ro_182_15, ro_182_16, ro_182_17, ro_182_20, ro_182_21, ro_182_22, ro_182_23, ro_182_24, ro_182_26, ro_182_27, ro_182_28, lo_3, lo_5, lo_7, lo_9, lo_11, lo_13, lo_15, lo_17, lo_19, lo_21, lo_24, lo_26, lo_28, lo_30, lo_32, lo_34, lo_36, lo_38, lo_40, lo_42, lo_44, lo_47, lo_49, lo_51, lo_54, lo_56, lo_58, lo_60, lo_63, lo_65, lo_67, lo_69, lo_72, lo_74, lo_76, lo_78, lo_80, lo_82, lo_84, lo_86, lo_88, lo_90, lo_93, lo_95, lo_97, lo_99, lo_101, lo_103, lo_105, lo_107, lo_109, lo_111, lo_114, lo_116, lo_118, lo_120, lo_122, lo_124, lo_126, lo_128, lo_130, lo_132, lo_135, lo_137, lo_139, lo_141, lo_143, lo_145, lo_147, lo_149, lo_151, lo_153, lo_156, lo_159, lo_161, lo_163, lo_165, lo_167, lo_169, lo_171, lo_173, lo_175, lo_177, lo_179, lo_181, lo_183, lo_184, lo_185, lo_186, lo_187, lo_188, lo_189, lo_190, lo_191, lo_192, lo_193, lo_194, lo_195, lo_196, lo_197, lo_198, lo_199, lo_200, lo_201, lo_202, lo_203, jp_nn, jp_eq, jp_e1, Classical.not_not, ji0, ji1, ji2, cs46_198, kk_198, cs46_240, kk_240s, cs46_264, kk_264, cs46_266, kk_266, cs46_259, kk_259f, jl_0, jl_1, jl_2, jl_3, jl_4, jl_5, jl_6, jl_7, jl_8, jl_9, jl_10, jl_11, jl_12, jl_13, jl_14, jl_15, jl_16, jl_17, jl_18, jl_19, jl_20, jl_21, jl_22, jl_23, jl_24, jl_25, jl_26, jl_27, jl_28, jl_29, jl_30, jl_31, jl_32, jl_33, jl_34, jl_35, jl_36, jl_37, jl_38, jl_39, jl_40, jl_95, jl_96, jl_97, jl_98, jl_99, jl_100, jl_101, jl_102, jl_103, jl_104, jl_105, jl_106, jl_107, jl_108, jl_109, jl_110, jl_111, jl_112, jl_113, jl_114, jl_186, jl_1100, jr, ju, jpT, jpF, tnc, Nat.reduceEqDiff, reduceIte, and_false, false_and, not_true_eq_false, not_false_eq_true, or_false, gt_iff_lt, ge_iff_le, Int.lt_irrefl, Int.le_refl, z1, z1', e0, ek, i0, i1_w, i2_w, i3_w, i4_w, a0_w, a1_w, a2, a3, c2]
              intros
              exact ⟨n + 1, _, _, rfl, by omega, BKq.tr b2 (BKq.u (fun z => by omega)), r2⟩
            · simp only [qe_1, qe_3, qe_4, qe_5, qe_7, qe_72, qe_10, qe_102, qe_13, qe_14, qe_15, qe_16, qe_17, qe_18, qe_20, qe_22, qe_23, qe_21, qe_24, qe_25, qe_26, qe_27, qe_28, qe_30, qe_31, qe_32, qc_20, qc_22, qc_23, qc_21, qc_24, qc_25, qc_26, qc_27, qc_1, qc_3, qc_4, qc_7, qc_13, qc_28, qc_32, qs_1, qs_2, qs_3, qs_4, qs_5, qs_6, qs_9, qs_10, qs_11, qs_14, qs_15, qs_16, qs_27, qs_17, qs_18, qs_19, qs_20, qs_22, qs_23, qs_28, qs_25, qs_26, qs_7, qs_8, kc_1, kn_1, kc_2, kn_2, kc_3, kn_3, kc_4, kn_4, kc_5, kn_5, kc_6, kn_6, kc_7, kn_7, kc_8, kn_8, kc_9, kn_9, kc_10, kn_10, kc_11, kn_11, kc_12, kn_12, kc_13, kn_13, kc_14, kn_14, kc_15, kn_15, kc_16, kc_17, kc_18, kc_19, kc_20, kc_21, kc_22, kc_23, kc_30, kc_32, kc_40, kc_43, kc_45, kc_48, kc_52, kc_56, kc_57, kc_59, kc_60, kc_61, kc_63, kc_64, kc_72, kc_78, kc_97, kc_99, kc_122, kc_126, kc_128, kc_192, kc_200, kc_255, kc_999, kc_1000, kc_9999, kn_9999, kc_10000, kc_12345, kc_65536, kc_252645135, kc_858993459, kc_1103515245, kc_1431655765, kc_2147483647, kc_0, kc_24, kc_28, kc_37, kc_41, kc_42, kc_73, kc_91, kc_95, kc_96, kc_98, kc_100, kc_112, kc_125, kc_150, kc_162, kc_163, kc_168, kc_186, kc_190, kc_250, kc_355, kc_356, kc_404, kc_405, kc_429, kc_573, kc_1002, kc_1100, kc_1891, kc_2200, kc_4719, kc_4869, kc_4881, kc_5148, kc_19741, kc_25433, kc_320403, kc_628412, kc_629093, kc_660401, kc_679843, kc_918640, kc_979410, kc_1178088, kc_6232410, kc_24644941, kc_36238189, kc_38270444, kc_392531318, kc_425693491, kc_1342154595, kc_2147483648, kc_42328242873, kc_891704255789, kc_1722105685577, kc_1858726030364, ct_0, ct_1, ct_2, ct_3, ct_4, ct_5, cf_0, cf_1, cf_2, cf_3, cf_4, cf_5, w_ty6, w_ty7, m_sv, m_z0, m_hd, m_g0, m_gs, m_s0, m_ss, m_ap, m_an, forall_const, true_and, and_true, ne_eq, not_true_eq_false, not_false_eq_true, false_implies, true_implies, implies_true, eq_self, reduceCtorEq, Nat.reduceDiv, Nat.reduceMod, Int.reduceToNat, or_true, true_or, or_false, false_or, or_self, m_it, m_if, m_c1, m_01, m_02, m_03, m_04, m_10, m_12, m_13, m_14, m_20, m_21, m_23, m_24, m_30, m_31, m_32, m_34, m_40, m_41, m_42, m_43, Int.reduceLE, Int.reduceLT, Int.reduceGE, Int.reduceGT, Int.reduceNeg, Int.reduceAdd, Int.reduceSub, Int.reduceMul, Int.reduceEq, Int.reduceNe, Nat.reduceAdd, jun2, ro_0_0, ro_0_1, ro_0_2, ro_0_3, ro_0_4, ro_0_5, ro_0_6, ro_0_7, ro_0_8, ro_0_9, ro_0_10, ro_0_11, ro_0_12, ro_1_0, ro_1_1, ro_2_0, ro_4_0, ro_6_0, ro_6_1, ro_6_2, ro_6_3, ro_6_4, ro_6_5, ro_6_6, ro_6_7, ro_6_8, ro_8_0, ro_10_0, ro_12_0, ro_14_0, ro_16_0, ro_18_0, ro_20_0, ro_22_0, ro_22_1, ro_22_2, ro_23_0, ro_25_0, ro_27_0, ro_29_0, ro_29_1, ro_29_2, ro_29_3, ro_29_4, ro_29_5, ro_29_6, ro_29_7, ro_29_8, ro_31_0, ro_33_0, ro_35_0, ro_37_0, ro_39_0, ro_41_0, ro_43_0, ro_45_0, ro_45_1, ro_45_2, ro_46_0, ro_48_0, ro_50_0, ro_52_0, ro_52_1, ro_52_2, ro_52_3, ro_53_0, ro_55_0, ro_57_0, ro_59_0, ro_61_0, ro_61_1, ro_61_2, ro_61_3, ro_62_0, ro_64_0, ro_66_0, ro_68_0, ro_70_0, ro_70_1, ro_70_2, ro_70_3, ro_70_4, ro_70_5, ro_70_6, ro_70_7, ro_70_8, ro_70_9, ro_71_0, ro_73_0, ro_75_0, ro_77_0, ro_79_0, ro_81_0, ro_83_0, ro_85_0, ro_87_0, ro_89_0, ro_91_0, ro_91_1, ro_91_2, ro_91_3, ro_91_4, ro_91_5, ro_91_6, ro_91_7, ro_91_8, ro_91_9, ro_92_0, ro_94_0, ro_96_0, ro_98_0, ro_100_0, ro_102_0, ro_104_0, ro_106_0, ro_108_0, ro_110_0, ro_112_0, ro_112_1, ro_112_2, ro_112_3, ro_112_4, ro_112_5, ro_112_6, ro_112_7, ro_112_8, ro_112_9, ro_113_0, ro_115_0, ro_117_0, ro_119_0, ro_121_0, ro_123_0, ro_125_0, ro_127_0, ro_129_0, ro_131_0, ro_133_0, ro_133_1, ro_133_2, ro_133_3, ro_133_4, ro_133_5, ro_133_6, ro_133_7, ro_133_8, ro_133_9, ro_134_0, ro_136_0, ro_138_0, ro_140_0, ro_142_0, ro_144_0, ro_146_0, ro_148_0, ro_150_0, ro_152_0, ro_154_0, ro_155_0, ro_157_0, ro_157_1, ro_157_2, ro_157_3, ro_157_4, ro_157_5, ro_157_6, ro_157_7, ro_157_8, ro_157_9, ro_158_0, ro_160_0, ro_162_0, ro_164_0, ro_166_0, ro_168_0, ro_170_0, ro_172_0, ro_174_0, ro_176_0, ro_178_0, ro_180_0, ro_182_1, ro_182_4, ro_182_5, ro_182_6, ro_182_9, ro_182_10, ro_182_11, ro_182_13, ro_182_14, ro_182_15, ro_182_16, ro_182_17, ro_182_20, ro_182_21, ro_182_22, ro_182_23, ro_182_24, ro_182_26, ro_182_27, ro_182_28, lo_3, lo_5, lo_7, lo_9, lo_11, lo_13, lo_15, lo_17, lo_19, lo_21, lo_24, lo_26, lo_28, lo_30, lo_32, lo_34, lo_36, lo_38, lo_40, lo_42, lo_44, lo_47, lo_49, lo_51, lo_54, lo_56, lo_58, lo_60, lo_63, lo_65, lo_67, lo_69, lo_72, lo_74, lo_76, lo_78, lo_80, lo_82, lo_84, lo_86, lo_88, lo_90, lo_93, lo_95, lo_97, lo_99, lo_101, lo_103, lo_105, lo_107, lo_109, lo_111, lo_114, lo_116, lo_118, lo_120, lo_122, lo_124, lo_126, lo_128, lo_130, lo_132, lo_135, lo_137, lo_139, lo_141, lo_143, lo_145, lo_147, lo_149, lo_151, lo_153, lo_156, lo_159, lo_161, lo_163, lo_165, lo_167, lo_169, lo_171, lo_173, lo_175, lo_177, lo_179, lo_181, lo_183, lo_184, lo_185, lo_186, lo_187, lo_188, lo_189, lo_190, lo_191, lo_192, lo_193, lo_194, lo_195, lo_196, lo_197, lo_198, lo_199, lo_200, lo_201, lo_202, lo_203, jp_nn, jp_eq, jp_e1, Classical.not_not, ji0, ji1, ji2, cs46_198, kk_198, cs46_240, kk_240s, cs46_264, kk_264, cs46_266, kk_266, cs46_259, kk_259f, jl_0, jl_1, jl_2, jl_3, jl_4, jl_5, jl_6, jl_7, jl_8, jl_9, jl_10, jl_11, jl_12, jl_13, jl_14, jl_15, jl_16, jl_17, jl_18, jl_19, jl_20, jl_21, jl_22, jl_23, jl_24, jl_25, jl_26, jl_27, jl_28, jl_29, jl_30, jl_31, jl_32, jl_33, jl_34, jl_35, jl_36, jl_37, jl_38, jl_39, jl_40, jl_95, jl_96, jl_97, jl_98, jl_99, jl_100, jl_101, jl_102, jl_103, jl_104, jl_105, jl_106, jl_107, jl_108, jl_109, jl_110, jl_111, jl_112, jl_113, jl_114, jl_186, jl_1100, jr, ju, jpT, jpF, tnc, Nat.reduceEqDiff, reduceIte, and_false, false_and, not_true_eq_false, not_false_eq_true, or_false, gt_iff_lt, ge_iff_le, Int.lt_irrefl, Int.le_refl, z1, z1', e0, ek, i0, i1_w, i2_w, i3_w, a0_w, a1_w, a2, a3, c0, c1_w, c2]
              intros
              exact ⟨fun _ => ⟨n + 1, _, _, rfl, by omega, BKq.tr b2 (BKq.u (fun z => by omega)), r2⟩, fun _ => ⟨fun _ => ⟨n + 1, _, _, rfl, by omega, b2, r2⟩, fun _ => ⟨n + 1, _, _, rfl, by omega, b2, r2⟩⟩⟩
      · have z1' : h 191 0 ≤ (n : Int) := by omega
        simp only [qe_1, qe_3, qe_4, qe_5, qe_7, qe_72, qe_10, qe_102, qe_13, qe_14, qe_15, qe_16, qe_17, qe_18, qe_20, qe_22, qe_23, qe_21, qe_24, qe_25, qe_26, qe_27, qe_28, qe_30, qe_31, qe_32, qc_20, qc_22, qc_23, qc_21, qc_24, qc_25, qc_26, qc_27, qc_1, qc_3, qc_4, qc_7, qc_13, qc_28, qc_32, qs_1, qs_2, qs_3, qs_4, qs_5, qs_6, qs_9, qs_10, qs_11, qs_14, qs_15, qs_16, qs_27, qs_17, qs_18, qs_19, qs_20, qs_22, qs_23, qs_28, qs_25, qs_26, qs_7, qs_8, kc_1, kn_1, kc_2, kn_2, kc_3, kn_3, kc_4, kn_4, kc_5, kn_5, kc_6, kn_6, kc_7, kn_7, kc_8, kn_8, kc_9, kn_9, kc_10, kn_10, kc_11, kn_11, kc_12, kn_12, kc_13, kn_13, kc_14, kn_14, kc_15, kn_15, kc_16, kc_17, kc_18, kc_19, kc_20, kc_21, kc_22, kc_23, kc_30, kc_32, kc_40, kc_43, kc_45, kc_48, kc_52, kc_56, kc_57, kc_59, kc_60, kc_61, kc_63, kc_64, kc_72, kc_78, kc_97, kc_99, kc_122, kc_126, kc_128, kc_192, kc_200, kc_255, kc_999, kc_1000, kc_9999, kn_9999, kc_10000, kc_12345, kc_65536, kc_252645135, kc_858993459, kc_1103515245, kc_1431655765, kc_2147483647, kc_0, kc_24, kc_28, kc_37, kc_41, kc_42, kc_73, kc_91, kc_95, kc_96, kc_98, kc_100, kc_112, kc_125, kc_150, kc_162, kc_163, kc_168, kc_186, kc_190, kc_250, kc_355, kc_356, kc_404, kc_405, kc_429, kc_573, kc_1002, kc_1100, kc_1891, kc_2200, kc_4719, kc_4869, kc_4881, kc_5148, kc_19741, kc_25433, kc_320403, kc_628412, kc_629093, kc_660401, kc_679843, kc_918640, kc_979410, kc_1178088, kc_6232410, kc_24644941, kc_36238189, kc_38270444, kc_392531318, kc_425693491, kc_1342154595, kc_2147483648, kc_42328242873, kc_891704255789, kc_1722105685577, kc_1858726030364, ct_0, ct_1, ct_2, ct_3, ct_4, ct_5, cf_0, cf_1, cf_2, cf_3, cf_4, cf_5, w_ty6, w_ty7, m_sv, m_z0, m_hd, m_g0, m_gs, m_s0, m_ss, m_ap, m_an, forall_const, true_and, and_true, ne_eq, not_true_eq_false, not_false_eq_true, false_implies, true_implies, implies_true, eq_self, reduceCtorEq, Nat.reduceDiv, Nat.reduceMod, Int.reduceToNat, or_true, true_or, or_false, false_or, or_self, m_it, m_if, m_c1, m_01, m_02, m_03, m_04, m_10, m_12, m_13, m_14, m_20, m_21, m_23, m_24, m_30, m_31, m_32, m_34, m_40, m_41, m_42, m_43, Int.reduceLE, Int.reduceLT, Int.reduceGE, Int.reduceGT, Int.reduceNeg, Int.reduceAdd, Int.reduceSub, Int.reduceMul, Int.reduceEq, Int.reduceNe, Nat.reduceAdd, jun2, ro_0_0, ro_0_1, ro_0_2, ro_0_3, ro_0_4, ro_0_5, ro_0_6, ro_0_7, ro_0_8, ro_0_9, ro_0_10, ro_0_11, ro_0_12, ro_1_0, ro_1_1, ro_2_0, ro_4_0, ro_6_0, ro_6_1, ro_6_2, ro_6_3, ro_6_4, ro_6_5, ro_6_6, ro_6_7, ro_6_8, ro_8_0, ro_10_0, ro_12_0, ro_14_0, ro_16_0, ro_18_0, ro_20_0, ro_22_0, ro_22_1, ro_22_2, ro_23_0, ro_25_0, ro_27_0, ro_29_0, ro_29_1, ro_29_2, ro_29_3, ro_29_4, ro_29_5, ro_29_6, ro_29_7, ro_29_8, ro_31_0, ro_33_0, ro_35_0, ro_37_0, ro_39_0, ro_41_0, ro_43_0, ro_45_0, ro_45_1, ro_45_2, ro_46_0, ro_48_0, ro_50_0, ro_52_0, ro_52_1, ro_52_2, ro_52_3, ro_53_0, ro_55_0, ro_57_0, ro_59_0, ro_61_0, ro_61_1, ro_61_2, ro_61_3, ro_62_0, ro_64_0, ro_66_0, ro_68_0, ro_70_0, ro_70_1, ro_70_2, ro_70_3, ro_70_4, ro_70_5, ro_70_6, ro_70_7, ro_70_8, ro_70_9, ro_71_0, ro_73_0, ro_75_0, ro_77_0, ro_79_0, ro_81_0, ro_83_0, ro_85_0, ro_87_0, ro_89_0, ro_91_0, ro_91_1, ro_91_2, ro_91_3, ro_91_4, ro_91_5, ro_91_6, ro_91_7, ro_91_8, ro_91_9, ro_92_0, ro_94_0, ro_96_0, ro_98_0, ro_100_0, ro_102_0, ro_104_0, ro_106_0, ro_108_0, ro_110_0, ro_112_0, ro_112_1, ro_112_2, ro_112_3, ro_112_4, ro_112_5, ro_112_6, ro_112_7, ro_112_8, ro_112_9, ro_113_0, ro_115_0, ro_117_0, ro_119_0, ro_121_0, ro_123_0, ro_125_0, ro_127_0, ro_129_0, ro_131_0, ro_133_0, ro_133_1, ro_133_2, ro_133_3, ro_133_4, ro_133_5, ro_133_6, ro_133_7, ro_133_8, ro_133_9, ro_134_0, ro_136_0, ro_138_0, ro_140_0, ro_142_0, ro_144_0, ro_146_0, ro_148_0, ro_150_0, ro_152_0, ro_154_0, ro_155_0, ro_157_0, ro_157_1, ro_157_2, ro_157_3, ro_157_4, ro_157_5, ro_157_6, ro_157_7, ro_157_8, ro_157_9, ro_158_0, ro_160_0, ro_162_0, ro_164_0, ro_166_0, ro_168_0, ro_170_0, ro_172_0, ro_174_0, ro_176_0, ro_178_0, ro_180_0, ro_182_1, ro_182_4, ro_182_5, ro_182_6, ro_182_9, ro_182_10, ro_182_11, ro_182_13, ro_182_14, ro_182_15, ro_182_16, ro_182_17, ro_182_20, ro_182_21, ro_182_22, ro_182_23, ro_182_24, ro_182_26, ro_182_27, ro_182_28, lo_3, lo_5, lo_7, lo_9, lo_11, lo_13, lo_15, lo_17, lo_19, lo_21, lo_24, lo_26, lo_28, lo_30, lo_32, lo_34, lo_36, lo_38, lo_40, lo_42, lo_44, lo_47, lo_49, lo_51, lo_54, lo_56, lo_58, lo_60, lo_63, lo_65, lo_67, lo_69, lo_72, lo_74, lo_76, lo_78, lo_80, lo_82, lo_84, lo_86, lo_88, lo_90, lo_93, lo_95, lo_97, lo_99, lo_101, lo_103, lo_105, lo_107, lo_109, lo_111, lo_114, lo_116, lo_118, lo_120, lo_122, lo_124, lo_126, lo_128, lo_130, lo_132, lo_135, lo_137, lo_139, lo_141, lo_143, lo_145, lo_147, lo_149, lo_151, lo_153, lo_156, lo_159, lo_161, lo_163, lo_165, lo_167, lo_169, lo_171, lo_173, lo_175, lo_177, lo_179, lo_181, lo_183, lo_184, lo_185, lo_186, lo_187, lo_188, lo_189, lo_190, lo_191, lo_192, lo_193, lo_194, lo_195, lo_196, lo_197, lo_198, lo_199, lo_200, lo_201, lo_202, lo_203, jp_nn, jp_eq, jp_e1, Classical.not_not, ji0, ji1, ji2, cs46_198, kk_198, cs46_240, kk_240s, cs46_264, kk_264, cs46_266, kk_266, cs46_259, kk_259f, jl_0, jl_1, jl_2, jl_3, jl_4, jl_5, jl_6, jl_7, jl_8, jl_9, jl_10, jl_11, jl_12, jl_13, jl_14, jl_15, jl_16, jl_17, jl_18, jl_19, jl_20, jl_21, jl_22, jl_23, jl_24, jl_25, jl_26, jl_27, jl_28, jl_29, jl_30, jl_31, jl_32, jl_33, jl_34, jl_35, jl_36, jl_37, jl_38, jl_39, jl_40, jl_95, jl_96, jl_97, jl_98, jl_99, jl_100, jl_101, jl_102, jl_103, jl_104, jl_105, jl_106, jl_107, jl_108, jl_109, jl_110, jl_111, jl_112, jl_113, jl_114, jl_186, jl_1100, jr, ju, jpT, jpF, tnc, Nat.reduceEqDiff, reduceIte, and_false, false_and, not_true_eq_false, not_false_eq_true, or_false, gt_iff_lt, ge_iff_le, Int.lt_irrefl, Int.le_refl, z1, z1', e0]
        exact ⟨fun _ => hQ _ _ _ b2, fun _ => ⟨fun _ => hQ _ _ _ b2, fun _ k r h3 f3_w _ => hQ _ _ _ (BKq.tr b2 (BKq.fr f3_w (by decide)))⟩⟩
    · simp only [qe_1, qe_3, qe_4, qe_5, qe_7, qe_72, qe_10, qe_102, qe_13, qe_14, qe_15, qe_16, qe_17, qe_18, qe_20, qe_22, qe_23, qe_21, qe_24, qe_25, qe_26, qe_27, qe_28, qe_30, qe_31, qe_32, qc_20, qc_22, qc_23, qc_21, qc_24, qc_25, qc_26, qc_27, qc_1, qc_3, qc_4, qc_7, qc_13, qc_28, qc_32, qs_1, qs_2, qs_3, qs_4, qs_5, qs_6, qs_9, qs_10, qs_11, qs_14, qs_15, qs_16, qs_27, qs_17, qs_18, qs_19, qs_20, qs_22, qs_23, qs_28, qs_25, qs_26, qs_7, qs_8, kc_1, kn_1, kc_2, kn_2, kc_3, kn_3, kc_4, kn_4, kc_5, kn_5, kc_6, kn_6, kc_7, kn_7, kc_8, kn_8, kc_9, kn_9, kc_10, kn_10, kc_11, kn_11, kc_12, kn_12, kc_13, kn_13, kc_14, kn_14, kc_15, kn_15, kc_16, kc_17, kc_18, kc_19, kc_20, kc_21, kc_22, kc_23, kc_30, kc_32, kc_40, kc_43, kc_45, kc_48, kc_52, kc_56, kc_57, kc_59, kc_60, kc_61, kc_63, kc_64, kc_72, kc_78, kc_97, kc_99, kc_122, kc_126, kc_128, kc_192, kc_200, kc_255, kc_999, kc_1000, kc_9999, kn_9999, kc_10000, kc_12345, kc_65536, kc_252645135, kc_858993459, kc_1103515245, kc_1431655765, kc_2147483647, kc_0, kc_24, kc_28, kc_37, kc_41, kc_42, kc_73, kc_91, kc_95, kc_96, kc_98, kc_100, kc_112, kc_125, kc_150, kc_162, kc_163, kc_168, kc_186, kc_190, kc_250, kc_355, kc_356, kc_404, kc_405, kc_429, kc_573, kc_1002, kc_1100, kc_1891, kc_2200, kc_4719, kc_4869, kc_4881, kc_5148, kc_19741, kc_25433, kc_320403, kc_628412, kc_629093, kc_660401, kc_679843, kc_918640, kc_979410, kc_1178088, kc_6232410, kc_24644941, kc_36238189, kc_38270444, kc_392531318, kc_425693491, kc_1342154595, kc_2147483648, kc_42328242873, kc_891704255789, kc_1722105685577, kc_1858726030364, ct_0, ct_1, ct_2, ct_3, ct_4, ct_5, cf_0, cf_1, cf_2, cf_3, cf_4, cf_5, w_ty6, w_ty7, m_sv, m_z0, m_hd, m_g0, m_gs, m_s0, m_ss, m_ap, m_an, forall_const, true_and, and_true, ne_eq, not_true_eq_false, not_false_eq_true, false_implies, true_implies, implies_true, eq_self, reduceCtorEq, Nat.reduceDiv, Nat.reduceMod, Int.reduceToNat, or_true, true_or, or_false, false_or, or_self, m_it, m_if, m_c1, m_01, m_02, m_03, m_04, m_10, m_12, m_13, m_14, m_20, m_21, m_23, m_24, m_30, m_31, m_32, m_34, m_40, m_41, m_42, m_43, Int.reduceLE, Int.reduceLT, Int.reduceGE, Int.reduceGT, Int.reduceNeg, Int.reduceAdd, Int.reduceSub, Int.reduceMul, Int.reduceEq, Int.reduceNe, Nat.reduceAdd, jun2, ro_0_0, ro_0_1, ro_0_2, ro_0_3, ro_0_4, ro_0_5, ro_0_6, ro_0_7, ro_0_8, ro_0_9, ro_0_10, ro_0_11, ro_0_12, ro_1_0, ro_1_1, ro_2_0, ro_4_0, ro_6_0, ro_6_1, ro_6_2, ro_6_3, ro_6_4, ro_6_5, ro_6_6, ro_6_7, ro_6_8, ro_8_0, ro_10_0, ro_12_0, ro_14_0, ro_16_0, ro_18_0, ro_20_0, ro_22_0, ro_22_1, ro_22_2, ro_23_0, ro_25_0, ro_27_0, ro_29_0, ro_29_1, ro_29_2, ro_29_3, ro_29_4, ro_29_5, ro_29_6, ro_29_7, ro_29_8, ro_31_0, ro_33_0, ro_35_0, ro_37_0, ro_39_0, ro_41_0, ro_43_0, ro_45_0, ro_45_1, ro_45_2, ro_46_0, ro_48_0, ro_50_0, ro_52_0, ro_52_1, ro_52_2, ro_52_3, ro_53_0, ro_55_0, ro_57_0, ro_59_0, ro_61_0, ro_61_1, ro_61_2, ro_61_3, ro_62_0, ro_64_0, ro_66_0, ro_68_0, ro_70_0, ro_70_1, ro_70_2, ro_70_3, ro_70_4, ro_70_5, ro_70_6, ro_70_7, ro_70_8, ro_70_9, ro_71_0, ro_73_0, ro_75_0, ro_77_0, ro_79_0, ro_81_0, ro_83_0, ro_85_0, ro_87_0, ro_89_0, ro_91_0, ro_91_1, ro_91_2, ro_91_3, ro_91_4, ro_91_5, ro_91_6, ro_91_7, ro_91_8, ro_91_9, ro_92_0, ro_94_0, ro_96_0, ro_98_0, ro_100_0, ro_102_0, ro_104_0, ro_106_0, ro_108_0, ro_110_0, ro_112_0, ro_112_1, ro_112_2, ro_112_3, ro_112_4, ro_112_5, ro_112_6, ro_112_7, ro_112_8, ro_112_9, ro_113_0, ro_115_0, ro_117_0, ro_119_0, ro_121_0, ro_123_0, ro_125_0, ro_127_0, ro_129_0, ro_131_0, ro_133_0, ro_133_1, ro_133_2, ro_133_3, ro_133_4, ro_133_5, ro_133_6, ro_133_7, ro_133_8, ro_133_9, ro_134_0, ro_136_0, ro_138_0, ro_140_0, ro_142_0, ro_144_0, ro_146_0, ro_148_0, ro_150_0, ro_152_0, ro_154_0, ro_155_0, ro_157_0, ro_157_1, ro_157_2, ro_157_3, ro_157_4, ro_157_5, ro_157_6, ro_157_7, ro_157_8, ro_157_9, ro_158_0, ro_160_0, ro_162_0, ro_164_0, ro_166_0, ro_168_0, ro_170_0, ro_172_0, ro_174_0, ro_176_0, ro_178_0, ro_180_0, ro_182_1, ro_182_4, ro_182_5, ro_182_6, ro_182_9, ro_182_10, ro_182_11, ro_182_13, ro_182_14, ro_182_15, ro_182_16, ro_182_17, ro_182_20, ro_182_21, ro_182_22, ro_182_23, ro_182_24, ro_182_26, ro_182_27, ro_182_28, lo_3, lo_5, lo_7, lo_9, lo_11, lo_13, lo_15, lo_17, lo_19, lo_21, lo_24, lo_26, lo_28, lo_30, lo_32, lo_34, lo_36, lo_38, lo_40, lo_42, lo_44, lo_47, lo_49, lo_51, lo_54, lo_56, lo_58, lo_60, lo_63, lo_65, lo_67, lo_69, lo_72, lo_74, lo_76, lo_78, lo_80, lo_82, lo_84, lo_86, lo_88, lo_90, lo_93, lo_95, lo_97, lo_99, lo_101, lo_103, lo_105, lo_107, lo_109, lo_111, lo_114, lo_116, lo_118, lo_120, lo_122, lo_124, lo_126, lo_128, lo_130, lo_132, lo_135, lo_137, lo_139, lo_141, lo_143, lo_145, lo_147, lo_149, lo_151, lo_153, lo_156, lo_159, lo_161, lo_163, lo_165, lo_167, lo_169, lo_171, lo_173, lo_175, lo_177, lo_179, lo_181, lo_183, lo_184, lo_185, lo_186, lo_187, lo_188, lo_189, lo_190, lo_191, lo_192, lo_193, lo_194, lo_195, lo_196, lo_197, lo_198, lo_199, lo_200, lo_201, lo_202, lo_203, jp_nn, jp_eq, jp_e1, Classical.not_not, ji0, ji1, ji2, cs46_198, kk_198, cs46_240, kk_240s, cs46_264, kk_264, cs46_266, kk_266, cs46_259, kk_259f, jl_0, jl_1, jl_2, jl_3, jl_4, jl_5, jl_6, jl_7, jl_8, jl_9, jl_10, jl_11, jl_12, jl_13, jl_14, jl_15, jl_16, jl_17, jl_18, jl_19, jl_20, jl_21, jl_22, jl_23, jl_24, jl_25, jl_26, jl_27, jl_28, jl_29, jl_30, jl_31, jl_32, jl_33, jl_34, jl_35, jl_36, jl_37, jl_38, jl_39, jl_40, jl_95, jl_96, jl_97, jl_98, jl_99, jl_100, jl_101, jl_102, jl_103, jl_104, jl_105, jl_106, jl_107, jl_108, jl_109, jl_110, jl_111, jl_112, jl_113, jl_114, jl_186, jl_1100, jr, ju, jpT, jpF, tnc, Nat.reduceEqDiff, reduceIte, and_false, false_and, not_true_eq_false, not_false_eq_true, or_false, gt_iff_lt, ge_iff_le, Int.lt_irrefl, Int.le_refl, yw]
      exact hQ _ _ _ (BKq.u (fun z => by omega))
  · exact hQ.elim
theorem snd_46 {xs : Nat → Int} {L K : Nat} : ∀ n, SndC CS46 (evF xs L g_ck K g_cW g_M n) := snd_all snd_45 (fun f av h Q hQ => by
  unfold CS46 at hQ
  split at hQ
  · exact Or.inr m_273b
  · exact Or.inr m_299b
  · exact Or.inr m_300b
  · exact Or.inr m_301b
  · exact Or.inr m_310b
  · exact Or.inl hQ)
end
section
/-! ===== contracts: bears, heaviest change no block_w but the tried one; what a call of each_w side_w keeps_w ===== -/
def k302b : KT := fun av h Q => match av with
  | [t, m] => t = 182 ∧ h 188 3 ≤ 6 ∧ ∀ k r h', BKq h h' → Q k r h'
  | _ => False
def k303b : KT := fun av h Q => match av with
  | [t] => t = 182 ∧ h 188 3 ≤ 6 ∧ ∀ k r h', BKq h h' → Q k r h'
  | _ => False
section KKG5
variable {h h1 h2 h' : XH} {Q : Nat → List Int → XH → Prop} {t b m p s f o v c a w : Int} {D : DD} {k : Nat} {av : List Int}
theorem kk_302b : k302b [182, m] h Q = (h 188 3 ≤ 6 ∧ ∀ k r h', BKq h h' → Q k r h') := propext ⟨fun a => a.2, fun a => ⟨rfl, a⟩⟩
theorem kk_303b : k303b [182] h Q = (h 188 3 ≤ 6 ∧ ∀ k r h', BKq h h' → Q k r h') := propext ⟨fun a => a.2, fun a => ⟨rfl, a⟩⟩
end KKG5
def CS47 : CSt := fun f => match f with
  | 302 => k302b
  | 303 => k303b
  | _ => CS46 f
theorem cs47_54 {av : List Int} {h : XH} {Q : Nat → List Int → XH → Prop} : CS47 54 av h Q = k54 av h Q := id rfl
theorem cs47_55 {av : List Int} {h : XH} {Q : Nat → List Int → XH → Prop} : CS47 55 av h Q = k55 av h Q := id rfl
theorem cs47_68 {av : List Int} {h : XH} {Q : Nat → List Int → XH → Prop} : CS47 68 av h Q = k68 av h Q := id rfl
theorem cs47_69 {av : List Int} {h : XH} {Q : Nat → List Int → XH → Prop} : CS47 69 av h Q = k69 av h Q := id rfl
theorem cs47_70 {av : List Int} {h : XH} {Q : Nat → List Int → XH → Prop} : CS47 70 av h Q = k70 av h Q := id rfl
theorem cs47_71 {av : List Int} {h : XH} {Q : Nat → List Int → XH → Prop} : CS47 71 av h Q = k71 av h Q := id rfl
theorem cs47_72 {av : List Int} {h : XH} {Q : Nat → List Int → XH → Prop} : CS47 72 av h Q = k72 av h Q := id rfl
theorem cs47_73 {av : List Int} {h : XH} {Q : Nat → List Int → XH → Prop} : CS47 73 av h Q = k73 av h Q := id rfl
theorem cs47_74 {av : List Int} {h : XH} {Q : Nat → List Int → XH → Prop} : CS47 74 av h Q = k74 av h Q := id rfl
theorem cs47_75 {av : List Int} {h : XH} {Q : Nat → List Int → XH → Prop} : CS47 75 av h Q = k75 av h Q := id rfl
theorem cs47_186 {av : List Int} {h : XH} {Q : Nat → List Int → XH → Prop} : CS47 186 av h Q = k186 av h Q := id rfl
theorem cs47_187 {av : List Int} {h : XH} {Q : Nat → List Int → XH → Prop} : CS47 187 av h Q = k187 av h Q := id rfl
theorem cs47_188 {av : List Int} {h : XH} {Q : Nat → List Int → XH → Prop} : CS47 188 av h Q = k188 av h Q := id rfl
theorem cs47_189 {av : List Int} {h : XH} {Q : Nat → List Int → XH → Prop} : CS47 189 av h Q = k189 av h Q := id rfl
theorem cs47_191 {av : List Int} {h : XH} {Q : Nat → List Int → XH → Prop} : CS47 191 av h Q = k191 av h Q := id rfl
theorem cs47_192 {av : List Int} {h : XH} {Q : Nat → List Int → XH → Prop} : CS47 192 av h Q = k192 av h Q := id rfl
theorem cs47_193 {av : List Int} {h : XH} {Q : Nat → List Int → XH → Prop} : CS47 193 av h Q = k193 av h Q := id rfl
theorem cs47_198 {av : List Int} {h : XH} {Q : Nat → List Int → XH → Prop} : CS47 198 av h Q = k198 av h Q := id rfl
theorem cs47_207 {av : List Int} {h : XH} {Q : Nat → List Int → XH → Prop} : CS47 207 av h Q = k207 av h Q := id rfl
theorem cs47_195 {av : List Int} {h : XH} {Q : Nat → List Int → XH → Prop} : CS47 195 av h Q = k195 av h Q := id rfl
theorem cs47_196 {av : List Int} {h : XH} {Q : Nat → List Int → XH → Prop} : CS47 196 av h Q = k196 av h Q := id rfl
theorem cs47_201 {av : List Int} {h : XH} {Q : Nat → List Int → XH → Prop} : CS47 201 av h Q = k201 av h Q := id rfl
theorem cs47_203 {av : List Int} {h : XH} {Q : Nat → List Int → XH → Prop} : CS47 203 av h Q = k203 av h Q := id rfl
theorem cs47_204 {av : List Int} {h : XH} {Q : Nat → List Int → XH → Prop} : CS47 204 av h Q = k204 av h Q := id rfl
theorem cs47_194 {av : List Int} {h : XH} {Q : Nat → List Int → XH → Prop} : CS47 194 av h Q = k194 av h Q := id rfl
theorem cs47_197 {av : List Int} {h : XH} {Q : Nat → List Int → XH → Prop} : CS47 197 av h Q = k197 av h Q := id rfl
theorem cs47_200 {av : List Int} {h : XH} {Q : Nat → List Int → XH → Prop} : CS47 200 av h Q = k200 av h Q := id rfl
theorem cs47_202 {av : List Int} {h : XH} {Q : Nat → List Int → XH → Prop} : CS47 202 av h Q = k202 av h Q := id rfl
theorem cs47_205 {av : List Int} {h : XH} {Q : Nat → List Int → XH → Prop} : CS47 205 av h Q = k205 av h Q := id rfl
theorem cs47_208 {av : List Int} {h : XH} {Q : Nat → List Int → XH → Prop} : CS47 208 av h Q = k208 av h Q := id rfl
theorem cs47_209 {av : List Int} {h : XH} {Q : Nat → List Int → XH → Prop} : CS47 209 av h Q = k209 av h Q := id rfl
theorem cs47_211 {av : List Int} {h : XH} {Q : Nat → List Int → XH → Prop} : CS47 211 av h Q = k211 av h Q := id rfl
theorem cs47_216 {av : List Int} {h : XH} {Q : Nat → List Int → XH → Prop} : CS47 216 av h Q = k216 av h Q := id rfl
theorem cs47_217 {av : List Int} {h : XH} {Q : Nat → List Int → XH → Prop} : CS47 217 av h Q = k217 av h Q := id rfl
theorem cs47_218 {av : List Int} {h : XH} {Q : Nat → List Int → XH → Prop} : CS47 218 av h Q = k218 av h Q := id rfl
theorem cs47_219 {av : List Int} {h : XH} {Q : Nat → List Int → XH → Prop} : CS47 219 av h Q = k219 av h Q := id rfl
theorem cs47_220 {av : List Int} {h : XH} {Q : Nat → List Int → XH → Prop} : CS47 220 av h Q = k220 av h Q := id rfl
theorem cs47_221 {av : List Int} {h : XH} {Q : Nat → List Int → XH → Prop} : CS47 221 av h Q = k221 av h Q := id rfl
theorem cs47_210 {av : List Int} {h : XH} {Q : Nat → List Int → XH → Prop} : CS47 210 av h Q = k210 av h Q := id rfl
theorem cs47_212 {av : List Int} {h : XH} {Q : Nat → List Int → XH → Prop} : CS47 212 av h Q = k212 av h Q := id rfl
theorem cs47_213 {av : List Int} {h : XH} {Q : Nat → List Int → XH → Prop} : CS47 213 av h Q = k213 av h Q := id rfl
theorem cs47_190 {av : List Int} {h : XH} {Q : Nat → List Int → XH → Prop} : CS47 190 av h Q = k190 av h Q := id rfl
theorem cs47_199 {av : List Int} {h : XH} {Q : Nat → List Int → XH → Prop} : CS47 199 av h Q = k199 av h Q := id rfl
theorem cs47_225 {av : List Int} {h : XH} {Q : Nat → List Int → XH → Prop} : CS47 225 av h Q = k225 av h Q := id rfl
theorem cs47_226 {av : List Int} {h : XH} {Q : Nat → List Int → XH → Prop} : CS47 226 av h Q = k226 av h Q := id rfl
theorem cs47_227 {av : List Int} {h : XH} {Q : Nat → List Int → XH → Prop} : CS47 227 av h Q = k227 av h Q := id rfl
theorem cs47_228 {av : List Int} {h : XH} {Q : Nat → List Int → XH → Prop} : CS47 228 av h Q = k228 av h Q := id rfl
theorem cs47_333 {av : List Int} {h : XH} {Q : Nat → List Int → XH → Prop} : CS47 333 av h Q = k333 av h Q := id rfl
theorem cs47_67 {av : List Int} {h : XH} {Q : Nat → List Int → XH → Prop} : CS47 67 av h Q = k67 av h Q := id rfl
theorem cs47_65 {av : List Int} {h : XH} {Q : Nat → List Int → XH → Prop} : CS47 65 av h Q = k65 av h Q := id rfl
theorem cs47_66 {av : List Int} {h : XH} {Q : Nat → List Int → XH → Prop} : CS47 66 av h Q = k66 av h Q := id rfl
theorem cs47_64 {av : List Int} {h : XH} {Q : Nat → List Int → XH → Prop} : CS47 64 av h Q = k64 av h Q := id rfl
theorem cs47_63 {av : List Int} {h : XH} {Q : Nat → List Int → XH → Prop} : CS47 63 av h Q = k63 av h Q := id rfl
theorem cs47_77 {av : List Int} {h : XH} {Q : Nat → List Int → XH → Prop} : CS47 77 av h Q = k77 av h Q := id rfl
theorem cs47_76 {av : List Int} {h : XH} {Q : Nat → List Int → XH → Prop} : CS47 76 av h Q = k76 av h Q := id rfl
theorem cs47_133 {av : List Int} {h : XH} {Q : Nat → List Int → XH → Prop} : CS47 133 av h Q = k133 av h Q := id rfl
theorem cs47_134 {av : List Int} {h : XH} {Q : Nat → List Int → XH → Prop} : CS47 134 av h Q = k134 av h Q := id rfl
theorem cs47_135 {av : List Int} {h : XH} {Q : Nat → List Int → XH → Prop} : CS47 135 av h Q = k135 av h Q := id rfl
theorem cs47_136 {av : List Int} {h : XH} {Q : Nat → List Int → XH → Prop} : CS47 136 av h Q = k136 av h Q := id rfl
theorem cs47_138 {av : List Int} {h : XH} {Q : Nat → List Int → XH → Prop} : CS47 138 av h Q = k138 av h Q := id rfl
theorem cs47_139 {av : List Int} {h : XH} {Q : Nat → List Int → XH → Prop} : CS47 139 av h Q = k139 av h Q := id rfl
theorem cs47_105 {av : List Int} {h : XH} {Q : Nat → List Int → XH → Prop} : CS47 105 av h Q = k105 av h Q := id rfl
theorem cs47_102 {av : List Int} {h : XH} {Q : Nat → List Int → XH → Prop} : CS47 102 av h Q = k102 av h Q := id rfl
theorem cs47_103 {av : List Int} {h : XH} {Q : Nat → List Int → XH → Prop} : CS47 103 av h Q = k103 av h Q := id rfl
theorem cs47_104 {av : List Int} {h : XH} {Q : Nat → List Int → XH → Prop} : CS47 104 av h Q = k104 av h Q := id rfl
theorem cs47_106 {av : List Int} {h : XH} {Q : Nat → List Int → XH → Prop} : CS47 106 av h Q = k106 av h Q := id rfl
theorem cs47_140 {av : List Int} {h : XH} {Q : Nat → List Int → XH → Prop} : CS47 140 av h Q = k140 av h Q := id rfl
theorem cs47_137 {av : List Int} {h : XH} {Q : Nat → List Int → XH → Prop} : CS47 137 av h Q = k137 av h Q := id rfl
theorem cs47_127 {av : List Int} {h : XH} {Q : Nat → List Int → XH → Prop} : CS47 127 av h Q = k127 av h Q := id rfl
theorem cs47_56 {av : List Int} {h : XH} {Q : Nat → List Int → XH → Prop} : CS47 56 av h Q = k56 av h Q := id rfl
theorem cs47_57 {av : List Int} {h : XH} {Q : Nat → List Int → XH → Prop} : CS47 57 av h Q = k57 av h Q := id rfl
theorem cs47_79 {av : List Int} {h : XH} {Q : Nat → List Int → XH → Prop} : CS47 79 av h Q = k79 av h Q := id rfl
theorem cs47_101 {av : List Int} {h : XH} {Q : Nat → List Int → XH → Prop} : CS47 101 av h Q = k101 av h Q := id rfl
theorem cs47_96 {av : List Int} {h : XH} {Q : Nat → List Int → XH → Prop} : CS47 96 av h Q = k96 av h Q := id rfl
theorem cs47_99 {av : List Int} {h : XH} {Q : Nat → List Int → XH → Prop} : CS47 99 av h Q = k99c av h Q := id rfl
theorem cs47_100 {av : List Int} {h : XH} {Q : Nat → List Int → XH → Prop} : CS47 100 av h Q = k100 av h Q := id rfl
theorem cs47_98 {av : List Int} {h : XH} {Q : Nat → List Int → XH → Prop} : CS47 98 av h Q = k98 av h Q := id rfl
theorem cs47_122 {av : List Int} {h : XH} {Q : Nat → List Int → XH → Prop} : CS47 122 av h Q = k122 av h Q := id rfl
theorem cs47_123 {av : List Int} {h : XH} {Q : Nat → List Int → XH → Prop} : CS47 123 av h Q = k123 av h Q := id rfl
theorem cs47_124 {av : List Int} {h : XH} {Q : Nat → List Int → XH → Prop} : CS47 124 av h Q = k124 av h Q := id rfl
theorem cs47_125 {av : List Int} {h : XH} {Q : Nat → List Int → XH → Prop} : CS47 125 av h Q = k125 av h Q := id rfl
theorem cs47_126 {av : List Int} {h : XH} {Q : Nat → List Int → XH → Prop} : CS47 126 av h Q = k126 av h Q := id rfl
theorem cs47_84 {av : List Int} {h : XH} {Q : Nat → List Int → XH → Prop} : CS47 84 av h Q = k84 av h Q := id rfl
theorem cs47_82 {av : List Int} {h : XH} {Q : Nat → List Int → XH → Prop} : CS47 82 av h Q = k82 av h Q := id rfl
theorem cs47_83 {av : List Int} {h : XH} {Q : Nat → List Int → XH → Prop} : CS47 83 av h Q = k83 av h Q := id rfl
theorem cs47_85 {av : List Int} {h : XH} {Q : Nat → List Int → XH → Prop} : CS47 85 av h Q = k85 av h Q := id rfl
theorem cs47_89 {av : List Int} {h : XH} {Q : Nat → List Int → XH → Prop} : CS47 89 av h Q = k89 av h Q := id rfl
theorem cs47_90 {av : List Int} {h : XH} {Q : Nat → List Int → XH → Prop} : CS47 90 av h Q = k90 av h Q := id rfl
theorem cs47_91 {av : List Int} {h : XH} {Q : Nat → List Int → XH → Prop} : CS47 91 av h Q = k91 av h Q := id rfl
theorem cs47_88 {av : List Int} {h : XH} {Q : Nat → List Int → XH → Prop} : CS47 88 av h Q = k88 av h Q := id rfl
theorem cs47_86 {av : List Int} {h : XH} {Q : Nat → List Int → XH → Prop} : CS47 86 av h Q = k86 av h Q := id rfl
theorem cs47_87 {av : List Int} {h : XH} {Q : Nat → List Int → XH → Prop} : CS47 87 av h Q = k87 av h Q := id rfl
theorem cs47_81 {av : List Int} {h : XH} {Q : Nat → List Int → XH → Prop} : CS47 81 av h Q = k81 av h Q := id rfl
theorem cs47_128 {av : List Int} {h : XH} {Q : Nat → List Int → XH → Prop} : CS47 128 av h Q = k128 av h Q := id rfl
theorem cs47_119 {av : List Int} {h : XH} {Q : Nat → List Int → XH → Prop} : CS47 119 av h Q = k119 av h Q := id rfl
theorem cs47_58 {av : List Int} {h : XH} {Q : Nat → List Int → XH → Prop} : CS47 58 av h Q = k58 av h Q := id rfl
theorem cs47_80 {av : List Int} {h : XH} {Q : Nat → List Int → XH → Prop} : CS47 80 av h Q = k80 av h Q := id rfl
theorem cs47_97 {av : List Int} {h : XH} {Q : Nat → List Int → XH → Prop} : CS47 97 av h Q = k97s av h Q := id rfl
theorem cs47_156 {av : List Int} {h : XH} {Q : Nat → List Int → XH → Prop} : CS47 156 av h Q = k156 av h Q := id rfl
theorem cs47_142 {av : List Int} {h : XH} {Q : Nat → List Int → XH → Prop} : CS47 142 av h Q = k142 av h Q := id rfl
theorem cs47_3 {av : List Int} {h : XH} {Q : Nat → List Int → XH → Prop} : CS47 3 av h Q = k3s av h Q := id rfl
theorem cs47_61 {av : List Int} {h : XH} {Q : Nat → List Int → XH → Prop} : CS47 61 av h Q = k61z av h Q := id rfl
theorem cs47_2 {av : List Int} {h : XH} {Q : Nat → List Int → XH → Prop} : CS47 2 av h Q = k2s av h Q := id rfl
theorem cs47_240 {av : List Int} {h : XH} {Q : Nat → List Int → XH → Prop} : CS47 240 av h Q = k240s av h Q := id rfl
theorem cs47_241 {av : List Int} {h : XH} {Q : Nat → List Int → XH → Prop} : CS47 241 av h Q = k241s av h Q := id rfl
theorem cs47_206 {av : List Int} {h : XH} {Q : Nat → List Int → XH → Prop} : CS47 206 av h Q = k206s av h Q := id rfl
theorem cs47_113 {av : List Int} {h : XH} {Q : Nat → List Int → XH → Prop} : CS47 113 av h Q = k113 av h Q := id rfl
theorem cs47_114 {av : List Int} {h : XH} {Q : Nat → List Int → XH → Prop} : CS47 114 av h Q = k114 av h Q := id rfl
theorem cs47_116 {av : List Int} {h : XH} {Q : Nat → List Int → XH → Prop} : CS47 116 av h Q = k116 av h Q := id rfl
theorem cs47_117 {av : List Int} {h : XH} {Q : Nat → List Int → XH → Prop} : CS47 117 av h Q = k117 av h Q := id rfl
theorem cs47_121 {av : List Int} {h : XH} {Q : Nat → List Int → XH → Prop} : CS47 121 av h Q = k121 av h Q := id rfl
theorem cs47_129 {av : List Int} {h : XH} {Q : Nat → List Int → XH → Prop} : CS47 129 av h Q = k129 av h Q := id rfl
theorem cs47_130 {av : List Int} {h : XH} {Q : Nat → List Int → XH → Prop} : CS47 130 av h Q = k130 av h Q := id rfl
theorem cs47_131 {av : List Int} {h : XH} {Q : Nat → List Int → XH → Prop} : CS47 131 av h Q = k131 av h Q := id rfl
theorem cs47_132 {av : List Int} {h : XH} {Q : Nat → List Int → XH → Prop} : CS47 132 av h Q = k132 av h Q := id rfl
theorem cs47_120 {av : List Int} {h : XH} {Q : Nat → List Int → XH → Prop} : CS47 120 av h Q = k120 av h Q := id rfl
theorem cs47_4 {av : List Int} {h : XH} {Q : Nat → List Int → XH → Prop} : CS47 4 av h Q = k4 av h Q := id rfl
theorem cs47_229 {av : List Int} {h : XH} {Q : Nat → List Int → XH → Prop} : CS47 229 av h Q = k229 av h Q := id rfl
theorem cs47_233 {av : List Int} {h : XH} {Q : Nat → List Int → XH → Prop} : CS47 233 av h Q = k233 av h Q := id rfl
theorem cs47_234 {av : List Int} {h : XH} {Q : Nat → List Int → XH → Prop} : CS47 234 av h Q = k234 av h Q := id rfl
theorem cs47_215 {av : List Int} {h : XH} {Q : Nat → List Int → XH → Prop} : CS47 215 av h Q = k215 av h Q := id rfl
theorem cs47_214 {av : List Int} {h : XH} {Q : Nat → List Int → XH → Prop} : CS47 214 av h Q = k214 av h Q := id rfl
theorem cs47_146 {av : List Int} {h : XH} {Q : Nat → List Int → XH → Prop} : CS47 146 av h Q = k146 av h Q := id rfl
theorem cs47_147 {av : List Int} {h : XH} {Q : Nat → List Int → XH → Prop} : CS47 147 av h Q = k147 av h Q := id rfl
theorem cs47_149 {av : List Int} {h : XH} {Q : Nat → List Int → XH → Prop} : CS47 149 av h Q = k149 av h Q := id rfl
theorem cs47_155 {av : List Int} {h : XH} {Q : Nat → List Int → XH → Prop} : CS47 155 av h Q = k155 av h Q := id rfl
theorem cs47_157 {av : List Int} {h : XH} {Q : Nat → List Int → XH → Prop} : CS47 157 av h Q = k157 av h Q := id rfl
theorem cs47_165 {av : List Int} {h : XH} {Q : Nat → List Int → XH → Prop} : CS47 165 av h Q = k165 av h Q := id rfl
theorem cs47_59 {av : List Int} {h : XH} {Q : Nat → List Int → XH → Prop} : CS47 59 av h Q = k59 av h Q := id rfl
theorem cs47_107 {av : List Int} {h : XH} {Q : Nat → List Int → XH → Prop} : CS47 107 av h Q = k107 av h Q := id rfl
theorem cs47_108 {av : List Int} {h : XH} {Q : Nat → List Int → XH → Prop} : CS47 108 av h Q = k108 av h Q := id rfl
theorem cs47_109 {av : List Int} {h : XH} {Q : Nat → List Int → XH → Prop} : CS47 109 av h Q = k109 av h Q := id rfl
theorem cs47_110 {av : List Int} {h : XH} {Q : Nat → List Int → XH → Prop} : CS47 110 av h Q = k110 av h Q := id rfl
theorem cs47_111 {av : List Int} {h : XH} {Q : Nat → List Int → XH → Prop} : CS47 111 av h Q = k111 av h Q := id rfl
theorem cs47_112 {av : List Int} {h : XH} {Q : Nat → List Int → XH → Prop} : CS47 112 av h Q = k112 av h Q := id rfl
theorem cs47_143 {av : List Int} {h : XH} {Q : Nat → List Int → XH → Prop} : CS47 143 av h Q = k143 av h Q := id rfl
theorem cs47_170 {av : List Int} {h : XH} {Q : Nat → List Int → XH → Prop} : CS47 170 av h Q = k170 av h Q := id rfl
theorem cs47_168 {av : List Int} {h : XH} {Q : Nat → List Int → XH → Prop} : CS47 168 av h Q = k168 av h Q := id rfl
theorem cs47_169 {av : List Int} {h : XH} {Q : Nat → List Int → XH → Prop} : CS47 169 av h Q = k169 av h Q := id rfl
theorem cs47_181 {av : List Int} {h : XH} {Q : Nat → List Int → XH → Prop} : CS47 181 av h Q = k181 av h Q := id rfl
theorem cs47_5 {av : List Int} {h : XH} {Q : Nat → List Int → XH → Prop} : CS47 5 av h Q = k5 av h Q := id rfl
theorem cs47_6 {av : List Int} {h : XH} {Q : Nat → List Int → XH → Prop} : CS47 6 av h Q = k6 av h Q := id rfl
theorem cs47_7 {av : List Int} {h : XH} {Q : Nat → List Int → XH → Prop} : CS47 7 av h Q = k7 av h Q := id rfl
theorem cs47_8 {av : List Int} {h : XH} {Q : Nat → List Int → XH → Prop} : CS47 8 av h Q = k8 av h Q := id rfl
theorem cs47_9 {av : List Int} {h : XH} {Q : Nat → List Int → XH → Prop} : CS47 9 av h Q = k9 av h Q := id rfl
theorem cs47_10 {av : List Int} {h : XH} {Q : Nat → List Int → XH → Prop} : CS47 10 av h Q = k10s av h Q := id rfl
theorem cs47_11 {av : List Int} {h : XH} {Q : Nat → List Int → XH → Prop} : CS47 11 av h Q = k11 av h Q := id rfl
theorem cs47_12 {av : List Int} {h : XH} {Q : Nat → List Int → XH → Prop} : CS47 12 av h Q = k12s av h Q := id rfl
theorem cs47_40 {av : List Int} {h : XH} {Q : Nat → List Int → XH → Prop} : CS47 40 av h Q = k40s av h Q := id rfl
theorem cs47_49 {av : List Int} {h : XH} {Q : Nat → List Int → XH → Prop} : CS47 49 av h Q = k49 av h Q := id rfl
theorem cs47_50 {av : List Int} {h : XH} {Q : Nat → List Int → XH → Prop} : CS47 50 av h Q = k50 av h Q := id rfl
theorem cs47_48 {av : List Int} {h : XH} {Q : Nat → List Int → XH → Prop} : CS47 48 av h Q = k48 av h Q := id rfl
theorem cs47_224 {av : List Int} {h : XH} {Q : Nat → List Int → XH → Prop} : CS47 224 av h Q = k224s av h Q := id rfl
theorem cs47_230 {av : List Int} {h : XH} {Q : Nat → List Int → XH → Prop} : CS47 230 av h Q = k230 av h Q := id rfl
theorem cs47_235 {av : List Int} {h : XH} {Q : Nat → List Int → XH → Prop} : CS47 235 av h Q = k235 av h Q := id rfl
theorem cs47_236 {av : List Int} {h : XH} {Q : Nat → List Int → XH → Prop} : CS47 236 av h Q = k236 av h Q := id rfl
theorem cs47_237 {av : List Int} {h : XH} {Q : Nat → List Int → XH → Prop} : CS47 237 av h Q = k237 av h Q := id rfl
theorem cs47_238 {av : List Int} {h : XH} {Q : Nat → List Int → XH → Prop} : CS47 238 av h Q = k238 av h Q := id rfl
theorem cs47_243 {av : List Int} {h : XH} {Q : Nat → List Int → XH → Prop} : CS47 243 av h Q = k243 av h Q := id rfl
theorem cs47_256 {av : List Int} {h : XH} {Q : Nat → List Int → XH → Prop} : CS47 256 av h Q = k256 av h Q := id rfl
theorem cs47_264 {av : List Int} {h : XH} {Q : Nat → List Int → XH → Prop} : CS47 264 av h Q = k264 av h Q := id rfl
theorem cs47_266 {av : List Int} {h : XH} {Q : Nat → List Int → XH → Prop} : CS47 266 av h Q = k266 av h Q := id rfl
theorem cs47_239 {av : List Int} {h : XH} {Q : Nat → List Int → XH → Prop} : CS47 239 av h Q = k239 av h Q := id rfl
theorem cs47_242 {av : List Int} {h : XH} {Q : Nat → List Int → XH → Prop} : CS47 242 av h Q = k242s av h Q := id rfl
theorem cs47_260 {av : List Int} {h : XH} {Q : Nat → List Int → XH → Prop} : CS47 260 av h Q = k260 av h Q := id rfl
theorem cs47_261 {av : List Int} {h : XH} {Q : Nat → List Int → XH → Prop} : CS47 261 av h Q = k261 av h Q := id rfl
theorem cs47_262 {av : List Int} {h : XH} {Q : Nat → List Int → XH → Prop} : CS47 262 av h Q = k262 av h Q := id rfl
theorem cs47_263 {av : List Int} {h : XH} {Q : Nat → List Int → XH → Prop} : CS47 263 av h Q = k263 av h Q := id rfl
theorem cs47_265 {av : List Int} {h : XH} {Q : Nat → List Int → XH → Prop} : CS47 265 av h Q = k265 av h Q := id rfl
theorem cs47_267 {av : List Int} {h : XH} {Q : Nat → List Int → XH → Prop} : CS47 267 av h Q = k267 av h Q := id rfl
theorem cs47_268 {av : List Int} {h : XH} {Q : Nat → List Int → XH → Prop} : CS47 268 av h Q = k268 av h Q := id rfl
theorem cs47_272 {av : List Int} {h : XH} {Q : Nat → List Int → XH → Prop} : CS47 272 av h Q = k272 av h Q := id rfl
theorem cs47_304 {av : List Int} {h : XH} {Q : Nat → List Int → XH → Prop} : CS47 304 av h Q = k304 av h Q := id rfl
theorem cs47_311 {av : List Int} {h : XH} {Q : Nat → List Int → XH → Prop} : CS47 311 av h Q = k311 av h Q := id rfl
theorem cs47_254 {av : List Int} {h : XH} {Q : Nat → List Int → XH → Prop} : CS47 254 av h Q = k254f av h Q := id rfl
theorem cs47_257 {av : List Int} {h : XH} {Q : Nat → List Int → XH → Prop} : CS47 257 av h Q = k257f av h Q := id rfl
theorem cs47_269 {av : List Int} {h : XH} {Q : Nat → List Int → XH → Prop} : CS47 269 av h Q = k269 av h Q := id rfl
theorem cs47_270 {av : List Int} {h : XH} {Q : Nat → List Int → XH → Prop} : CS47 270 av h Q = k270 av h Q := id rfl
theorem cs47_271 {av : List Int} {h : XH} {Q : Nat → List Int → XH → Prop} : CS47 271 av h Q = k271 av h Q := id rfl
theorem cs47_258 {av : List Int} {h : XH} {Q : Nat → List Int → XH → Prop} : CS47 258 av h Q = k258f av h Q := id rfl
theorem cs47_259 {av : List Int} {h : XH} {Q : Nat → List Int → XH → Prop} : CS47 259 av h Q = k259f av h Q := id rfl
theorem cs47_285 {av : List Int} {h : XH} {Q : Nat → List Int → XH → Prop} : CS47 285 av h Q = k285f av h Q := id rfl
theorem cs47_287 {av : List Int} {h : XH} {Q : Nat → List Int → XH → Prop} : CS47 287 av h Q = k287f av h Q := id rfl
theorem cs47_274 {av : List Int} {h : XH} {Q : Nat → List Int → XH → Prop} : CS47 274 av h Q = k274 av h Q := id rfl
theorem cs47_298 {av : List Int} {h : XH} {Q : Nat → List Int → XH → Prop} : CS47 298 av h Q = k298 av h Q := id rfl
theorem cs47_309 {av : List Int} {h : XH} {Q : Nat → List Int → XH → Prop} : CS47 309 av h Q = k309 av h Q := id rfl
theorem cs47_273 {av : List Int} {h : XH} {Q : Nat → List Int → XH → Prop} : CS47 273 av h Q = k273b av h Q := id rfl
theorem cs47_299 {av : List Int} {h : XH} {Q : Nat → List Int → XH → Prop} : CS47 299 av h Q = k299b av h Q := id rfl
theorem cs47_300 {av : List Int} {h : XH} {Q : Nat → List Int → XH → Prop} : CS47 300 av h Q = k300b av h Q := id rfl
theorem cs47_301 {av : List Int} {h : XH} {Q : Nat → List Int → XH → Prop} : CS47 301 av h Q = k301b av h Q := id rfl
theorem cs47_310 {av : List Int} {h : XH} {Q : Nat → List Int → XH → Prop} : CS47 310 av h Q = k310b av h Q := id rfl
theorem cs47_302 {av : List Int} {h : XH} {Q : Nat → List Int → XH → Prop} : CS47 302 av h Q = k302b av h Q := id rfl
theorem cs47_303 {av : List Int} {h : XH} {Q : Nat → List Int → XH → Prop} : CS47 303 av h Q = k303b av h Q := id rfl
theorem m_302b : BodyOK CS47 CS47 302 := fun av h Q hQ => by
  rw [cs47_302] at hQ
  unfold k302b at hQ
  split at hQ
  · rename_i t m
    obtain ⟨rfl, h6, hQ⟩ := hQ
    show pS CS47 bb_302 [182, m] h _
    unfold bb_302
    by_cases y : 0 ≤ m ∧ m < h 188 3
    · simp only [qe_1, qe_3, qe_4, qe_5, qe_7, qe_72, qe_10, qe_102, qe_13, qe_14, qe_15, qe_16, qe_17, qe_18, qe_20, qe_22, qe_23, qe_21, qe_24, qe_25, qe_26, qe_27, qe_28, qe_30, qe_31, qe_32, qc_20, qc_22, qc_23, qc_21, qc_24, qc_25, qc_26, qc_27, qc_1, qc_3, qc_4, qc_7, qc_13, qc_28, qc_32, qs_1, qs_2, qs_3, qs_4, qs_5, qs_6, qs_9, qs_10, qs_11, qs_14, qs_15, qs_16, qs_27, qs_17, qs_18, qs_19, qs_20, qs_22, qs_23, qs_28, qs_25, qs_26, qs_7, qs_8, kc_1, kn_1, kc_2, kn_2, kc_3, kn_3, kc_4, kn_4, kc_5, kn_5, kc_6, kn_6, kc_7, kn_7, kc_8, kn_8, kc_9, kn_9, kc_10, kn_10, kc_11, kn_11, kc_12, kn_12, kc_13, kn_13, kc_14, kn_14, kc_15, kn_15, kc_16, kc_17, kc_18, kc_19, kc_20, kc_21, kc_22, kc_23, kc_30, kc_32, kc_40, kc_43, kc_45, kc_48, kc_52, kc_56, kc_57, kc_59, kc_60, kc_61, kc_63, kc_64, kc_72, kc_78, kc_97, kc_99, kc_122, kc_126, kc_128, kc_192, kc_200, kc_255, kc_999, kc_1000, kc_9999, kn_9999, kc_10000, kc_12345, kc_65536, kc_252645135, kc_858993459, kc_1103515245, kc_1431655765, kc_2147483647, kc_0, kc_24, kc_28, kc_37, kc_41, kc_42, kc_73, kc_91, kc_95, kc_96, kc_98, kc_100, kc_112, kc_125, kc_150, kc_162, kc_163, kc_168, kc_186, kc_190, kc_250, kc_355, kc_356, kc_404, kc_405, kc_429, kc_573, kc_1002, kc_1100, kc_1891, kc_2200, kc_4719, kc_4869, kc_4881, kc_5148, kc_19741, kc_25433, kc_320403, kc_628412, kc_629093, kc_660401, kc_679843, kc_918640, kc_979410, kc_1178088, kc_6232410, kc_24644941, kc_36238189, kc_38270444, kc_392531318, kc_425693491, kc_1342154595, kc_2147483648, kc_42328242873, kc_891704255789, kc_1722105685577, kc_1858726030364, ct_0, ct_1, ct_2, ct_3, ct_4, ct_5, cf_0, cf_1, cf_2, cf_3, cf_4, cf_5, w_ty6, w_ty7, m_sv, m_z0, m_hd, m_g0, m_gs, m_s0, m_ss, m_ap, m_an, forall_const, true_and, and_true, ne_eq, not_true_eq_false, not_false_eq_true, false_implies, true_implies, implies_true, eq_self, reduceCtorEq, Nat.reduceDiv, Nat.reduceMod, Int.reduceToNat, or_true, true_or, or_false, false_or, or_self, m_it, m_if, m_c1, m_01, m_02, m_03, m_04, m_10, m_12, m_13, m_14, m_20, m_21, m_23, m_24, m_30, m_31, m_32, m_34, m_40, m_41, m_42, m_43, Int.reduceLE, Int.reduceLT, Int.reduceGE, Int.reduceGT, Int.reduceNeg, Int.reduceAdd, Int.reduceSub, Int.reduceMul, Int.reduceEq, Int.reduceNe, Nat.reduceAdd, jun2, ro_0_0, ro_0_1, ro_0_2, ro_0_3, ro_0_4, ro_0_5, ro_0_6, ro_0_7, ro_0_8, ro_0_9, ro_0_10, ro_0_11, ro_0_12, ro_1_0, ro_1_1, ro_2_0, ro_4_0, ro_6_0, ro_6_1, ro_6_2, ro_6_3, ro_6_4, ro_6_5, ro_6_6, ro_6_7, ro_6_8, ro_8_0, ro_10_0, ro_12_0, ro_14_0, ro_16_0, ro_18_0, ro_20_0, ro_22_0, ro_22_1, ro_22_2, ro_23_0, ro_25_0, ro_27_0, ro_29_0, ro_29_1, ro_29_2, ro_29_3, ro_29_4, ro_29_5, ro_29_6, ro_29_7, ro_29_8, ro_31_0, ro_33_0, ro_35_0, ro_37_0, ro_39_0, ro_41_0, ro_43_0, ro_45_0, ro_45_1, ro_45_2, ro_46_0, ro_48_0, ro_50_0, ro_52_0, ro_52_1, ro_52_2, ro_52_3, ro_53_0, ro_55_0, ro_57_0, ro_59_0, ro_61_0, ro_61_1, ro_61_2, ro_61_3, ro_62_0, ro_64_0, ro_66_0, ro_68_0, ro_70_0, ro_70_1, ro_70_2, ro_70_3, ro_70_4, ro_70_5, ro_70_6, ro_70_7, ro_70_8, ro_70_9, ro_71_0, ro_73_0, ro_75_0, ro_77_0, ro_79_0, ro_81_0, ro_83_0, ro_85_0, ro_87_0, ro_89_0, ro_91_0, ro_91_1, ro_91_2, ro_91_3, ro_91_4, ro_91_5, ro_91_6, ro_91_7, ro_91_8, ro_91_9, ro_92_0, ro_94_0, ro_96_0, ro_98_0, ro_100_0, ro_102_0, ro_104_0, ro_106_0, ro_108_0, ro_110_0, ro_112_0, ro_112_1, ro_112_2, ro_112_3, ro_112_4, ro_112_5, ro_112_6, ro_112_7, ro_112_8, ro_112_9, ro_113_0, ro_115_0, ro_117_0, ro_119_0, ro_121_0, ro_123_0, ro_125_0, ro_127_0, ro_129_0, ro_131_0, ro_133_0, ro_133_1, ro_133_2, ro_133_3, ro_133_4, ro_133_5, ro_133_6, ro_133_7, ro_133_8, ro_133_9, ro_134_0, ro_136_0, ro_138_0, ro_140_0, ro_142_0, ro_144_0, ro_146_0, ro_148_0, ro_150_0, ro_152_0, ro_154_0, ro_155_0, ro_157_0, ro_157_1, ro_157_2, ro_157_3, ro_157_4, ro_157_5, ro_157_6, ro_157_7, ro_157_8, ro_157_9, ro_158_0, ro_160_0, ro_162_0, ro_164_0, ro_166_0, ro_168_0, ro_170_0, ro_172_0, ro_174_0, ro_176_0, ro_178_0, ro_180_0, ro_182_1, ro_182_4, ro_182_5, ro_182_6, ro_182_9, ro_182_10, ro_182_11, ro_182_13, ro_182_14, ro_182_15, ro_182_16, ro_182_17, ro_182_20, ro_182_21, ro_182_22, ro_182_23, ro_182_24, ro_182_26, ro_182_27, ro_182_28, lo_3, lo_5, lo_7, lo_9, lo_11, lo_13, lo_15, lo_17, lo_19, lo_21, lo_24, lo_26, lo_28, lo_30, lo_32, lo_34, lo_36, lo_38, lo_40, lo_42, lo_44, lo_47, lo_49, lo_51, lo_54, lo_56, lo_58, lo_60, lo_63, lo_65, lo_67, lo_69, lo_72, lo_74, lo_76, lo_78, lo_80, lo_82, lo_84, lo_86, lo_88, lo_90, lo_93, lo_95, lo_97, lo_99, lo_101, lo_103, lo_105, lo_107, lo_109, lo_111, lo_114, lo_116, lo_118, lo_120, lo_122, lo_124, lo_126, lo_128, lo_130, lo_132, lo_135, lo_137, lo_139, lo_141, lo_143, lo_145, lo_147, lo_149, lo_151, lo_153, lo_156, lo_159, lo_161, lo_163, lo_165, lo_167, lo_169, lo_171, lo_173, lo_175, lo_177, lo_179, lo_181, lo_183, lo_184, lo_185, lo_186, lo_187, lo_188, lo_189, lo_190, lo_191, lo_192, lo_193, lo_194, lo_195, lo_196, lo_197, lo_198, lo_199, lo_200, lo_201, lo_202, lo_203, jp_nn, jp_eq, jp_e1, Classical.not_not, ji0, ji1, ji2, cs47_235, kk_235, cs47_301, kk_301b, jl_0, jl_1, jl_2, jl_3, jl_4, jl_5, jl_6, jl_7, jl_8, jl_9, jl_10, jl_11, jl_12, jl_13, jl_14, jl_15, jl_16, jl_17, jl_18, jl_19, jl_20, jl_21, jl_22, jl_23, jl_24, jl_25, jl_26, jl_27, jl_28, jl_29, jl_30, jl_31, jl_32, jl_33, jl_34, jl_35, jl_36, jl_37, jl_38, jl_39, jl_40, jl_95, jl_96, jl_97, jl_98, jl_99, jl_100, jl_101, jl_102, jl_103, jl_104, jl_105, jl_106, jl_107, jl_108, jl_109, jl_110, jl_111, jl_112, jl_113, jl_114, jl_186, jl_1100, jr, ju, jpT, jpF, tnc, Nat.reduceEqDiff, reduceIte, and_false, false_and, not_true_eq_false, not_false_eq_true, or_false, gt_iff_lt, ge_iff_le, Int.lt_irrefl, Int.le_refl, y, and_self]
      exact ⟨by omega, fun k r h2 b _ _ => hQ _ _ _ (BKq.tr (BKq.u (fun z => by omega)) b)⟩
    · simp only [qe_1, qe_3, qe_4, qe_5, qe_7, qe_72, qe_10, qe_102, qe_13, qe_14, qe_15, qe_16, qe_17, qe_18, qe_20, qe_22, qe_23, qe_21, qe_24, qe_25, qe_26, qe_27, qe_28, qe_30, qe_31, qe_32, qc_20, qc_22, qc_23, qc_21, qc_24, qc_25, qc_26, qc_27, qc_1, qc_3, qc_4, qc_7, qc_13, qc_28, qc_32, qs_1, qs_2, qs_3, qs_4, qs_5, qs_6, qs_9, qs_10, qs_11, qs_14, qs_15, qs_16, qs_27, qs_17, qs_18, qs_19, qs_20, qs_22, qs_23, qs_28, qs_25, qs_26, qs_7, qs_8, kc_1, kn_1, kc_2, kn_2, kc_3, kn_3, kc_4, kn_4, kc_5, kn_5, kc_6, kn_6, kc_7, kn_7, kc_8, kn_8, kc_9, kn_9, kc_10, kn_10, kc_11, kn_11, kc_12, kn_12, kc_13, kn_13, kc_14, kn_14, kc_15, kn_15, kc_16, kc_17, kc_18, kc_19, kc_20, kc_21, kc_22, kc_23, kc_30, kc_32, kc_40, kc_43, kc_45, kc_48, kc_52, kc_56, kc_57, kc_59, kc_60, kc_61, kc_63, kc_64, kc_72, kc_78, kc_97, kc_99, kc_122, kc_126, kc_128, kc_192, kc_200, kc_255, kc_999, kc_1000, kc_9999, kn_9999, kc_10000, kc_12345, kc_65536, kc_252645135, kc_858993459, kc_1103515245, kc_1431655765, kc_2147483647, kc_0, kc_24, kc_28, kc_37, kc_41, kc_42, kc_73, kc_91, kc_95, kc_96, kc_98, kc_100, kc_112, kc_125, kc_150, kc_162, kc_163, kc_168, kc_186, kc_190, kc_250, kc_355, kc_356, kc_404, kc_405, kc_429, kc_573, kc_1002, kc_1100, kc_1891, kc_2200, kc_4719, kc_4869, kc_4881, kc_5148, kc_19741, kc_25433, kc_320403, kc_628412, kc_629093, kc_660401, kc_679843, kc_918640, kc_979410, kc_1178088, kc_6232410, kc_24644941, kc_36238189, kc_38270444, kc_392531318, kc_425693491, kc_1342154595, kc_2147483648, kc_42328242873, kc_891704255789, kc_1722105685577, kc_1858726030364, ct_0, ct_1, ct_2, ct_3, ct_4, ct_5, cf_0, cf_1, cf_2, cf_3, cf_4, cf_5, w_ty6, w_ty7, m_sv, m_z0, m_hd, m_g0, m_gs, m_s0, m_ss, m_ap, m_an, forall_const, true_and, and_true, ne_eq, not_true_eq_false, not_false_eq_true, false_implies, true_implies, implies_true, eq_self, reduceCtorEq, Nat.reduceDiv, Nat.reduceMod, Int.reduceToNat, or_true, true_or, or_false, false_or, or_self, m_it, m_if, m_c1, m_01, m_02, m_03, m_04, m_10, m_12, m_13, m_14, m_20, m_21, m_23, m_24, m_30, m_31, m_32, m_34, m_40, m_41, m_42, m_43, Int.reduceLE, Int.reduceLT, Int.reduceGE, Int.reduceGT, Int.reduceNeg, Int.reduceAdd, Int.reduceSub, Int.reduceMul, Int.reduceEq, Int.reduceNe, Nat.reduceAdd, jun2, ro_0_0, ro_0_1, ro_0_2, ro_0_3, ro_0_4, ro_0_5, ro_0_6, ro_0_7, ro_0_8, ro_0_9, ro_0_10, ro_0_11, ro_0_12, ro_1_0, ro_1_1, ro_2_0, ro_4_0, ro_6_0, ro_6_1, ro_6_2, ro_6_3, ro_6_4, ro_6_5, ro_6_6, ro_6_7, ro_6_8, ro_8_0, ro_10_0, ro_12_0, ro_14_0, ro_16_0, ro_18_0, ro_20_0, ro_22_0, ro_22_1, ro_22_2, ro_23_0, ro_25_0, ro_27_0, ro_29_0, ro_29_1, ro_29_2, ro_29_3, ro_29_4, ro_29_5, ro_29_6, ro_29_7, ro_29_8, ro_31_0, ro_33_0, ro_35_0, ro_37_0, ro_39_0, ro_41_0, ro_43_0, ro_45_0, ro_45_1, ro_45_2, ro_46_0, ro_48_0, ro_50_0, ro_52_0, ro_52_1, ro_52_2, ro_52_3, ro_53_0, ro_55_0, ro_57_0, ro_59_0, ro_61_0, ro_61_1, ro_61_2, ro_61_3, ro_62_0, ro_64_0, ro_66_0, ro_68_0, ro_70_0, ro_70_1, ro_70_2, ro_70_3, ro_70_4, ro_70_5, ro_70_6, ro_70_7, ro_70_8, ro_70_9, ro_71_0, ro_73_0, ro_75_0, ro_77_0, ro_79_0, ro_81_0, ro_83_0, ro_85_0, ro_87_0, ro_89_0, ro_91_0, ro_91_1, ro_91_2, ro_91_3, ro_91_4, ro_91_5, ro_91_6, ro_91_7, ro_91_8, ro_91_9, ro_92_0, ro_94_0, ro_96_0, ro_98_0, ro_100_0, ro_102_0, ro_104_0, ro_106_0, ro_108_0, ro_110_0, ro_112_0, ro_112_1, ro_112_2, ro_112_3, ro_112_4, ro_112_5, ro_112_6, ro_112_7, ro_112_8, ro_112_9, ro_113_0, ro_115_0, ro_117_0, ro_119_0, ro_121_0, ro_123_0, ro_125_0, ro_127_0, ro_129_0, ro_131_0, ro_133_0, ro_133_1, ro_133_2, ro_133_3, ro_133_4, ro_133_5, ro_133_6, ro_133_7, ro_133_8, ro_133_9, ro_134_0, ro_136_0, ro_138_0, ro_140_0, ro_142_0, ro_144_0, ro_146_0, ro_148_0, ro_150_0, ro_152_0, ro_154_0, ro_155_0, ro_157_0, ro_157_1, ro_157_2, ro_157_3, ro_157_4, ro_157_5, ro_157_6, ro_157_7, ro_157_8, ro_157_9, ro_158_0, ro_160_0, ro_162_0, ro_164_0, ro_166_0, ro_168_0, ro_170_0, ro_172_0, ro_174_0, ro_176_0, ro_178_0, ro_180_0, ro_182_1, ro_182_4, ro_182_5, ro_182_6, ro_182_9, ro_182_10, ro_182_11, ro_182_13, ro_182_14, ro_182_15, ro_182_16, ro_182_17, ro_182_20, ro_182_21, ro_182_22, ro_182_23, ro_182_24, ro_182_26, ro_182_27, ro_182_28, lo_3, lo_5, lo_7, lo_9, lo_11, lo_13, lo_15, lo_17, lo_19, lo_21, lo_24, lo_26, lo_28, lo_30, lo_32, lo_34, lo_36, lo_38, lo_40, lo_42, lo_44, lo_47, lo_49, lo_51, lo_54, lo_56, lo_58, lo_60, lo_63, lo_65, lo_67, lo_69, lo_72, lo_74, lo_76, lo_78, lo_80, lo_82, lo_84, lo_86, lo_88, lo_90, lo_93, lo_95, lo_97, lo_99, lo_101, lo_103, lo_105, lo_107, lo_109, lo_111, lo_114, lo_116, lo_118, lo_120, lo_122, lo_124, lo_126, lo_128, lo_130, lo_132, lo_135, lo_137, lo_139, lo_141, lo_143, lo_145, lo_147, lo_149, lo_151, lo_153, lo_156, lo_159, lo_161, lo_163, lo_165, lo_167, lo_169, lo_171, lo_173, lo_175, lo_177, lo_179, lo_181, lo_183, lo_184, lo_185, lo_186, lo_187, lo_188, lo_189, lo_190, lo_191, lo_192, lo_193, lo_194, lo_195, lo_196, lo_197, lo_198, lo_199, lo_200, lo_201, lo_202, lo_203, jp_nn, jp_eq, jp_e1, Classical.not_not, ji0, ji1, ji2, cs47_235, kk_235, cs47_301, kk_301b, jl_0, jl_1, jl_2, jl_3, jl_4, jl_5, jl_6, jl_7, jl_8, jl_9, jl_10, jl_11, jl_12, jl_13, jl_14, jl_15, jl_16, jl_17, jl_18, jl_19, jl_20, jl_21, jl_22, jl_23, jl_24, jl_25, jl_26, jl_27, jl_28, jl_29, jl_30, jl_31, jl_32, jl_33, jl_34, jl_35, jl_36, jl_37, jl_38, jl_39, jl_40, jl_95, jl_96, jl_97, jl_98, jl_99, jl_100, jl_101, jl_102, jl_103, jl_104, jl_105, jl_106, jl_107, jl_108, jl_109, jl_110, jl_111, jl_112, jl_113, jl_114, jl_186, jl_1100, jr, ju, jpT, jpF, tnc, Nat.reduceEqDiff, reduceIte, and_false, false_and, not_true_eq_false, not_false_eq_true, or_false, gt_iff_lt, ge_iff_le, Int.lt_irrefl, Int.le_refl, y]
      exact hQ _ _ _ (BKq.u (fun z => by omega))
  · exact hQ.elim
theorem m_303b : BodyOK CS47 CS47 303 := fun av h Q hQ => by
  rw [cs47_303] at hQ
  unfold k303b at hQ
  split at hQ
  · rename_i t
    obtain ⟨rfl, h6, hQ⟩ := hQ
    show pS CS47 bb_303 [182, 0, 0, 0, 0] h _
    unfold bb_303
    simp only [qe_1, qe_3, qe_4, qe_5, qe_7, qe_72, qe_10, qe_102, qe_13, qe_14, qe_15, qe_16, qe_17, qe_18, qe_20, qe_22, qe_23, qe_21, qe_24, qe_25, qe_26, qe_27, qe_28, qe_30, qe_31, qe_32, qc_20, qc_22, qc_23, qc_21, qc_24, qc_25, qc_26, qc_27, qc_1, qc_3, qc_4, qc_7, qc_13, qc_28, qc_32, qs_1, qs_2, qs_3, qs_4, qs_5, qs_6, qs_9, qs_10, qs_11, qs_14, qs_15, qs_16, qs_27, qs_17, qs_18, qs_19, qs_20, qs_22, qs_23, qs_28, qs_25, qs_26, qs_7, qs_8, kc_1, kn_1, kc_2, kn_2, kc_3, kn_3, kc_4, kn_4, kc_5, kn_5, kc_6, kn_6, kc_7, kn_7, kc_8, kn_8, kc_9, kn_9, kc_10, kn_10, kc_11, kn_11, kc_12, kn_12, kc_13, kn_13, kc_14, kn_14, kc_15, kn_15, kc_16, kc_17, kc_18, kc_19, kc_20, kc_21, kc_22, kc_23, kc_30, kc_32, kc_40, kc_43, kc_45, kc_48, kc_52, kc_56, kc_57, kc_59, kc_60, kc_61, kc_63, kc_64, kc_72, kc_78, kc_97, kc_99, kc_122, kc_126, kc_128, kc_192, kc_200, kc_255, kc_999, kc_1000, kc_9999, kn_9999, kc_10000, kc_12345, kc_65536, kc_252645135, kc_858993459, kc_1103515245, kc_1431655765, kc_2147483647, kc_0, kc_24, kc_28, kc_37, kc_41, kc_42, kc_73, kc_91, kc_95, kc_96, kc_98, kc_100, kc_112, kc_125, kc_150, kc_162, kc_163, kc_168, kc_186, kc_190, kc_250, kc_355, kc_356, kc_404, kc_405, kc_429, kc_573, kc_1002, kc_1100, kc_1891, kc_2200, kc_4719, kc_4869, kc_4881, kc_5148, kc_19741, kc_25433, kc_320403, kc_628412, kc_629093, kc_660401, kc_679843, kc_918640, kc_979410, kc_1178088, kc_6232410, kc_24644941, kc_36238189, kc_38270444, kc_392531318, kc_425693491, kc_1342154595, kc_2147483648, kc_42328242873, kc_891704255789, kc_1722105685577, kc_1858726030364, ct_0, ct_1, ct_2, ct_3, ct_4, ct_5, cf_0, cf_1, cf_2, cf_3, cf_4, cf_5, w_ty6, w_ty7, m_sv, m_z0, m_hd, m_g0, m_gs, m_s0, m_ss, m_ap, m_an, forall_const, true_and, and_true, ne_eq, not_true_eq_false, not_false_eq_true, false_implies, true_implies, implies_true, eq_self, reduceCtorEq, Nat.reduceDiv, Nat.reduceMod, Int.reduceToNat, or_true, true_or, or_false, false_or, or_self, m_it, m_if, m_c1, m_01, m_02, m_03, m_04, m_10, m_12, m_13, m_14, m_20, m_21, m_23, m_24, m_30, m_31, m_32, m_34, m_40, m_41, m_42, m_43, Int.reduceLE, Int.reduceLT, Int.reduceGE, Int.reduceGT, Int.reduceNeg, Int.reduceAdd, Int.reduceSub, Int.reduceMul, Int.reduceEq, Int.reduceNe, Nat.reduceAdd, jun2, ro_0_0, ro_0_1, ro_0_2, ro_0_3, ro_0_4, ro_0_5, ro_0_6, ro_0_7, ro_0_8, ro_0_9, ro_0_10, ro_0_11, ro_0_12, ro_1_0, ro_1_1, ro_2_0, ro_4_0, ro_6_0, ro_6_1, ro_6_2, ro_6_3, ro_6_4, ro_6_5, ro_6_6, ro_6_7, ro_6_8, ro_8_0, ro_10_0, ro_12_0, ro_14_0, ro_16_0, ro_18_0, ro_20_0, ro_22_0, ro_22_1, ro_22_2, ro_23_0, ro_25_0, ro_27_0, ro_29_0, ro_29_1, ro_29_2, ro_29_3, ro_29_4, ro_29_5, ro_29_6, ro_29_7, ro_29_8, ro_31_0, ro_33_0, ro_35_0, ro_37_0, ro_39_0, ro_41_0, ro_43_0, ro_45_0, ro_45_1, ro_45_2, ro_46_0, ro_48_0, ro_50_0, ro_52_0, ro_52_1, ro_52_2, ro_52_3, ro_53_0, ro_55_0, ro_57_0, ro_59_0, ro_61_0, ro_61_1, ro_61_2, ro_61_3, ro_62_0, ro_64_0, ro_66_0, ro_68_0, ro_70_0, ro_70_1, ro_70_2, ro_70_3, ro_70_4, ro_70_5, ro_70_6, ro_70_7, ro_70_8, ro_70_9, ro_71_0, ro_73_0, ro_75_0, ro_77_0, ro_79_0, ro_81_0, ro_83_0, ro_85_0, ro_87_0, ro_89_0, ro_91_0, ro_91_1, ro_91_2, ro_91_3, ro_91_4, ro_91_5, ro_91_6, ro_91_7, ro_91_8, ro_91_9, ro_92_0, ro_94_0, ro_96_0, ro_98_0, ro_100_0, ro_102_0, ro_104_0, ro_106_0, ro_108_0, ro_110_0, ro_112_0, ro_112_1, ro_112_2, ro_112_3, ro_112_4, ro_112_5, ro_112_6, ro_112_7, ro_112_8, ro_112_9, ro_113_0, ro_115_0, ro_117_0, ro_119_0, ro_121_0, ro_123_0, ro_125_0, ro_127_0, ro_129_0, ro_131_0, ro_133_0, ro_133_1, ro_133_2, ro_133_3, ro_133_4, ro_133_5, ro_133_6, ro_133_7, ro_133_8, ro_133_9, ro_134_0, ro_136_0, ro_138_0, ro_140_0, ro_142_0, ro_144_0, ro_146_0, ro_148_0, ro_150_0, ro_152_0, ro_154_0, ro_155_0, ro_157_0, ro_157_1, ro_157_2, ro_157_3, ro_157_4, ro_157_5, ro_157_6, ro_157_7, ro_157_8, ro_157_9, ro_158_0, ro_160_0, ro_162_0, ro_164_0, ro_166_0, ro_168_0, ro_170_0, ro_172_0, ro_174_0, ro_176_0, ro_178_0, ro_180_0, ro_182_1, ro_182_4, ro_182_5, ro_182_6, ro_182_9, ro_182_10, ro_182_11, ro_182_13, ro_182_14, ro_182_15, ro_182_16, ro_182_17, ro_182_20, ro_182_21, ro_182_22, ro_182_23, ro_182_24, ro_182_26, ro_182_27, ro_182_28, lo_3, lo_5, lo_7, lo_9, lo_11, lo_13, lo_15, lo_17, lo_19, lo_21, lo_24, lo_26, lo_28, lo_30, lo_32, lo_34, lo_36, lo_38, lo_40, lo_42, lo_44, lo_47, lo_49, lo_51, lo_54, lo_56, lo_58, lo_60, lo_63, lo_65, lo_67, lo_69, lo_72, lo_74, lo_76, lo_78, lo_80, lo_82, lo_84, lo_86, lo_88, lo_90, lo_93, lo_95, lo_97, lo_99, lo_101, lo_103, lo_105, lo_107, lo_109, lo_111, lo_114, lo_116, lo_118, lo_120, lo_122, lo_124, lo_126, lo_128, lo_130, lo_132, lo_135, lo_137, lo_139, lo_141, lo_143, lo_145, lo_147, lo_149, lo_151, lo_153, lo_156, lo_159, lo_161, lo_163, lo_165, lo_167, lo_169, lo_171, lo_173, lo_175, lo_177, lo_179, lo_181, lo_183, lo_184, lo_185, lo_186, lo_187, lo_188, lo_189, lo_190, lo_191, lo_192, lo_193, lo_194, lo_195, lo_196, lo_197, lo_198, lo_199, lo_200, lo_201, lo_202, lo_203, jp_nn, jp_eq, jp_e1, Classical.not_not, ji0, ji1, ji2, cs47_228, kk_228, cs47_301, kk_301b, jl_0, jl_1, jl_2, jl_3, jl_4, jl_5, jl_6, jl_7, jl_8, jl_9, jl_10, jl_11, jl_12, jl_13, jl_14, jl_15, jl_16, jl_17, jl_18, jl_19, jl_20, jl_21, jl_22, jl_23, jl_24, jl_25, jl_26, jl_27, jl_28, jl_29, jl_30, jl_31, jl_32, jl_33, jl_34, jl_35, jl_36, jl_37, jl_38, jl_39, jl_40, jl_95, jl_96, jl_97, jl_98, jl_99, jl_100, jl_101, jl_102, jl_103, jl_104, jl_105, jl_106, jl_107, jl_108, jl_109, jl_110, jl_111, jl_112, jl_113, jl_114, jl_186, jl_1100, jr, ju, jpT, jpF, tnc, Nat.reduceEqDiff, reduceIte, and_false, false_and, not_true_eq_false, not_false_eq_true, or_false, gt_iff_lt, ge_iff_le, Int.lt_irrefl, Int.le_refl]
    refine qp_lp (fun en h' => ∃ (x y : Int) (m : Nat) (w : Int), en = [182, x, y, (m : Int), w] ∧ m ≤ 6 ∧ BKq h h' ∧ h' 188 = h 188) ⟨_, _, 0, _, rfl, by decide, BKq.u (fun z => by omega), jr (by decide)⟩ ?_
    intro en h1 ⟨x, y, m, w, e1_w, m6_w, b1, r1_w⟩
    subst e1_w
    have e3_w : h1 188 3 = h 188 3 := by rw [r1_w]
    by_cases z : (m : Int) < h 188 3
    · have z' : ¬ h 188 3 ≤ (m : Int) := by omega
      have ek := jk1 (k := m) (by omega)
      simp only [qe_1, qe_3, qe_4, qe_5, qe_7, qe_72, qe_10, qe_102, qe_13, qe_14, qe_15, qe_16, qe_17, qe_18, qe_20, qe_22, qe_23, qe_21, qe_24, qe_25, qe_26, qe_27, qe_28, qe_30, qe_31, qe_32, qc_20, qc_22, qc_23, qc_21, qc_24, qc_25, qc_26, qc_27, qc_1, qc_3, qc_4, qc_7, qc_13, qc_28, qc_32, qs_1, qs_2, qs_3, qs_4, qs_5, qs_6, qs_9, qs_10, qs_11, qs_14, qs_15, qs_16, qs_27, qs_17, qs_18, qs_19, qs_20, qs_22, qs_23, qs_28, qs_25, qs_26, qs_7, qs_8, kc_1, kn_1, kc_2, kn_2, kc_3, kn_3, kc_4, kn_4, kc_5, kn_5, kc_6, kn_6, kc_7, kn_7, kc_8, kn_8, kc_9, kn_9, kc_10, kn_10, kc_11, kn_11, kc_12, kn_12, kc_13, kn_13, kc_14, kn_14, kc_15, kn_15, kc_16, kc_17, kc_18, kc_19, kc_20, kc_21, kc_22, kc_23, kc_30, kc_32, kc_40, kc_43, kc_45, kc_48, kc_52, kc_56, kc_57, kc_59, kc_60, kc_61, kc_63, kc_64, kc_72, kc_78, kc_97, kc_99, kc_122, kc_126, kc_128, kc_192, kc_200, kc_255, kc_999, kc_1000, kc_9999, kn_9999, kc_10000, kc_12345, kc_65536, kc_252645135, kc_858993459, kc_1103515245, kc_1431655765, kc_2147483647, kc_0, kc_24, kc_28, kc_37, kc_41, kc_42, kc_73, kc_91, kc_95, kc_96, kc_98, kc_100, kc_112, kc_125, kc_150, kc_162, kc_163, kc_168, kc_186, kc_190, kc_250, kc_355, kc_356, kc_404, kc_405, kc_429, kc_573, kc_1002, kc_1100, kc_1891, kc_2200, kc_4719, kc_4869, kc_4881, kc_5148, kc_19741, kc_25433, kc_320403, kc_628412, kc_629093, kc_660401, kc_679843, kc_918640, kc_979410, kc_1178088, kc_6232410, kc_24644941, kc_36238189, kc_38270444, kc_392531318, kc_425693491, kc_1342154595, kc_2147483648, kc_42328242873, kc_891704255789, kc_1722105685577, kc_1858726030364, ct_0, ct_1, ct_2, ct_3, ct_4, ct_5, cf_0, cf_1, cf_2, cf_3, cf_4, cf_5, w_ty6, w_ty7, m_sv, m_z0, m_hd, m_g0, m_gs, m_s0, m_ss, m_ap, m_an, forall_const, true_and, and_true, ne_eq, not_true_eq_false, not_false_eq_true, false_implies, true_implies, implies_true, eq_self, reduceCtorEq, Nat.reduceDiv, Nat.reduceMod, Int.reduceToNat, or_true, true_or, or_false, false_or, or_self, m_it, m_if, m_c1, m_01, m_02, m_03, m_04, m_10, m_12, m_13, m_14, m_20, m_21, m_23, m_24, m_30, m_31, m_32, m_34, m_40, m_41, m_42, m_43, Int.reduceLE, Int.reduceLT, Int.reduceGE, Int.reduceGT, Int.reduceNeg, Int.reduceAdd, Int.reduceSub, Int.reduceMul, Int.reduceEq, Int.reduceNe, Nat.reduceAdd, jun2, ro_0_0, ro_0_1, ro_0_2, ro_0_3, ro_0_4, ro_0_5, ro_0_6, ro_0_7, ro_0_8, ro_0_9, ro_0_10, ro_0_11, ro_0_12, ro_1_0, ro_1_1, ro_2_0, ro_4_0, ro_6_0, ro_6_1, ro_6_2, ro_6_3, ro_6_4, ro_6_5, ro_6_6, ro_6_7, ro_6_8, ro_8_0, ro_10_0, ro_12_0, ro_14_0, ro_16_0, ro_18_0, ro_20_0, ro_22_0, ro_22_1, ro_22_2, ro_23_0, ro_25_0, ro_27_0, ro_29_0, ro_29_1, ro_29_2, ro_29_3, ro_29_4, ro_29_5, ro_29_6, ro_29_7, ro_29_8, ro_31_0, ro_33_0, ro_35_0, ro_37_0, ro_39_0, ro_41_0, ro_43_0, ro_45_0, ro_45_1, ro_45_2, ro_46_0, ro_48_0, ro_50_0, ro_52_0, ro_52_1, ro_52_2, ro_52_3, ro_53_0, ro_55_0, ro_57_0, ro_59_0, ro_61_0, ro_61_1, ro_61_2, ro_61_3, ro_62_0, ro_64_0, ro_66_0, ro_68_0, ro_70_0, ro_70_1, ro_70_2, ro_70_3, ro_70_4, ro_70_5, ro_70_6, ro_70_7, ro_70_8, ro_70_9, ro_71_0, ro_73_0, ro_75_0, ro_77_0, ro_79_0, ro_81_0, ro_83_0, ro_85_0, ro_87_0, ro_89_0, ro_91_0, ro_91_1, ro_91_2, ro_91_3, ro_91_4, ro_91_5, ro_91_6, ro_91_7, ro_91_8, ro_91_9, ro_92_0, ro_94_0, ro_96_0, ro_98_0, ro_100_0, ro_102_0, ro_104_0, ro_106_0, ro_108_0, ro_110_0, ro_112_0, ro_112_1, ro_112_2, ro_112_3, ro_112_4, ro_112_5, ro_112_6, ro_112_7, ro_112_8, ro_112_9, ro_113_0, ro_115_0, ro_117_0, ro_119_0, ro_121_0, ro_123_0, ro_125_0, ro_127_0, ro_129_0, ro_131_0, ro_133_0, ro_133_1, ro_133_2, ro_133_3, ro_133_4, ro_133_5, ro_133_6, ro_133_7, ro_133_8, ro_133_9, ro_134_0, ro_136_0, ro_138_0, ro_140_0, ro_142_0, ro_144_0, ro_146_0, ro_148_0, ro_150_0, ro_152_0, ro_154_0, ro_155_0, ro_157_0, ro_157_1, ro_157_2, ro_157_3, ro_157_4, ro_157_5, ro_157_6, ro_157_7, ro_157_8, ro_157_9, ro_158_0, ro_160_0, ro_162_0, ro_164_0, ro_166_0, ro_168_0, ro_170_0, ro_172_0, ro_174_0, ro_176_0, ro_178_0, ro_180_0, ro_182_1, ro_182_4, ro_182_5, ro_182_6, ro_182_9, ro_182_10, ro_182_11, ro_182_13, ro_182_14, ro_182_15, ro_182_16, ro_182_17, ro_182_20, ro_182_21, ro_182_22, ro_182_23, ro_182_24, ro_182_26, ro_182_27, ro_182_28, lo_3, lo_5, lo_7, lo_9, lo_11, lo_13, lo_15, lo_17, lo_19, lo_21, lo_24, lo_26, lo_28, lo_30, lo_32, lo_34, lo_36, lo_38, lo_40, lo_42, lo_44, lo_47, lo_49, lo_51, lo_54, lo_56, lo_58, lo_60, lo_63, lo_65, lo_67, lo_69, lo_72, lo_74, lo_76, lo_78, lo_80, lo_82, lo_84, lo_86, lo_88, lo_90, lo_93, lo_95, lo_97, lo_99, lo_101, lo_103, lo_105, lo_107, lo_109, lo_111, lo_114, lo_116, lo_118, lo_120, lo_122, lo_124, lo_126, lo_128, lo_130, lo_132, lo_135, lo_137, lo_139, lo_141, lo_143, lo_145, lo_147, lo_149, lo_151, lo_153, lo_156, lo_159, lo_161, lo_163, lo_165, lo_167, lo_169, lo_171, lo_173, lo_175, lo_177, lo_179, lo_181, lo_183, lo_184, lo_185, lo_186, lo_187, lo_188, lo_189, lo_190, lo_191, lo_192, lo_193, lo_194, lo_195, lo_196, lo_197, lo_198, lo_199, lo_200, lo_201, lo_202, lo_203, jp_nn, jp_eq, jp_e1, Classical.not_not, ji0, ji1, ji2, cs47_228, kk_228, cs47_301, kk_301b, jl_0, jl_1, jl_2, jl_3, jl_4, jl_5, jl_6, jl_7, jl_8, jl_9, jl_10, jl_11, jl_12, jl_13, jl_14, jl_15, jl_16, jl_17, jl_18, jl_19, jl_20, jl_21, jl_22, jl_23, jl_24, jl_25, jl_26, jl_27, jl_28, jl_29, jl_30, jl_31, jl_32, jl_33, jl_34, jl_35, jl_36, jl_37, jl_38, jl_39, jl_40, jl_95, jl_96, jl_97, jl_98, jl_99, jl_100, jl_101, jl_102, jl_103, jl_104, jl_105, jl_106, jl_107, jl_108, jl_109, jl_110, jl_111, jl_112, jl_113, jl_114, jl_186, jl_1100, jr, ju, jpT, jpF, tnc, Nat.reduceEqDiff, reduceIte, and_false, false_and, not_true_eq_false, not_false_eq_true, or_false, gt_iff_lt, ge_iff_le, Int.lt_irrefl, Int.le_refl, e3_w, z, z', ek]
      refine ⟨by omega, by omega, fun k r h2 b2 r2 _ => ?_⟩
      have bb := BKq.tr b1 b2
      have rr := r2.trans r1_w
      exact ⟨fun _ => ⟨fun _ => ⟨_, _, m + 1, _, rfl, by omega, bb, rr⟩, fun _ => ⟨_, _, m + 1, _, rfl, by omega, bb, rr⟩⟩, fun _ => ⟨fun _ => ⟨_, _, m + 1, _, rfl, by omega, bb, rr⟩, fun _ => ⟨_, _, m + 1, _, rfl, by omega, bb, rr⟩⟩⟩
    · have z' : h 188 3 ≤ (m : Int) := by omega
      simp only [qe_1, qe_3, qe_4, qe_5, qe_7, qe_72, qe_10, qe_102, qe_13, qe_14, qe_15, qe_16, qe_17, qe_18, qe_20, qe_22, qe_23, qe_21, qe_24, qe_25, qe_26, qe_27, qe_28, qe_30, qe_31, qe_32, qc_20, qc_22, qc_23, qc_21, qc_24, qc_25, qc_26, qc_27, qc_1, qc_3, qc_4, qc_7, qc_13, qc_28, qc_32, qs_1, qs_2, qs_3, qs_4, qs_5, qs_6, qs_9, qs_10, qs_11, qs_14, qs_15, qs_16, qs_27, qs_17, qs_18, qs_19, qs_20, qs_22, qs_23, qs_28, qs_25, qs_26, qs_7, qs_8, kc_1, kn_1, kc_2, kn_2, kc_3, kn_3, kc_4, kn_4, kc_5, kn_5, kc_6, kn_6, kc_7, kn_7, kc_8, kn_8, kc_9, kn_9, kc_10, kn_10, kc_11, kn_11, kc_12, kn_12, kc_13, kn_13, kc_14, kn_14, kc_15, kn_15, kc_16, kc_17, kc_18, kc_19, kc_20, kc_21, kc_22, kc_23, kc_30, kc_32, kc_40, kc_43, kc_45, kc_48, kc_52, kc_56, kc_57, kc_59, kc_60, kc_61, kc_63, kc_64, kc_72, kc_78, kc_97, kc_99, kc_122, kc_126, kc_128, kc_192, kc_200, kc_255, kc_999, kc_1000, kc_9999, kn_9999, kc_10000, kc_12345, kc_65536, kc_252645135, kc_858993459, kc_1103515245, kc_1431655765, kc_2147483647, kc_0, kc_24, kc_28, kc_37, kc_41, kc_42, kc_73, kc_91, kc_95, kc_96, kc_98, kc_100, kc_112, kc_125, kc_150, kc_162, kc_163, kc_168, kc_186, kc_190, kc_250, kc_355, kc_356, kc_404, kc_405, kc_429, kc_573, kc_1002, kc_1100, kc_1891, kc_2200, kc_4719, kc_4869, kc_4881, kc_5148, kc_19741, kc_25433, kc_320403, kc_628412, kc_629093, kc_660401, kc_679843, kc_918640, kc_979410, kc_1178088, kc_6232410, kc_24644941, kc_36238189, kc_38270444, kc_392531318, kc_425693491, kc_1342154595, kc_2147483648, kc_42328242873, kc_891704255789, kc_1722105685577, kc_1858726030364, ct_0, ct_1, ct_2, ct_3, ct_4, ct_5, cf_0, cf_1, cf_2, cf_3, cf_4, cf_5, w_ty6, w_ty7, m_sv, m_z0, m_hd, m_g0, m_gs, m_s0, m_ss, m_ap, m_an, forall_const, true_and, and_true, ne_eq, not_true_eq_false, not_false_eq_true, false_implies, true_implies, implies_true, eq_self, reduceCtorEq, Nat.reduceDiv, Nat.reduceMod, Int.reduceToNat, or_true, true_or, or_false, false_or, or_self, m_it, m_if, m_c1, m_01, m_02, m_03, m_04, m_10, m_12, m_13, m_14, m_20, m_21, m_23, m_24, m_30, m_31, m_32, m_34, m_40, m_41, m_42, m_43, Int.reduceLE, Int.reduceLT, Int.reduceGE, Int.reduceGT, Int.reduceNeg, Int.reduceAdd, Int.reduceSub, Int.reduceMul, Int.reduceEq, Int.reduceNe, Nat.reduceAdd, jun2, ro_0_0, ro_0_1, ro_0_2, ro_0_3, ro_0_4, ro_0_5, ro_0_6, ro_0_7, ro_0_8, ro_0_9, ro_0_10, ro_0_11, ro_0_12, ro_1_0, ro_1_1, ro_2_0, ro_4_0, ro_6_0, ro_6_1, ro_6_2, ro_6_3, ro_6_4, ro_6_5, ro_6_6, ro_6_7, ro_6_8, ro_8_0, ro_10_0, ro_12_0, ro_14_0, ro_16_0, ro_18_0, ro_20_0, ro_22_0, ro_22_1, ro_22_2, ro_23_0, ro_25_0, ro_27_0, ro_29_0, ro_29_1, ro_29_2, ro_29_3, ro_29_4, ro_29_5, ro_29_6, ro_29_7, ro_29_8, ro_31_0, ro_33_0, ro_35_0, ro_37_0, ro_39_0, ro_41_0, ro_43_0, ro_45_0, ro_45_1, ro_45_2, ro_46_0, ro_48_0, ro_50_0, ro_52_0, ro_52_1, ro_52_2, ro_52_3, ro_53_0, ro_55_0, ro_57_0, ro_59_0, ro_61_0, ro_61_1, ro_61_2, ro_61_3, ro_62_0, ro_64_0, ro_66_0, ro_68_0, ro_70_0, ro_70_1, ro_70_2, ro_70_3, ro_70_4, ro_70_5, ro_70_6, ro_70_7, ro_70_8, ro_70_9, ro_71_0, ro_73_0, ro_75_0, ro_77_0, ro_79_0, ro_81_0, ro_83_0, ro_85_0, ro_87_0, ro_89_0, ro_91_0, ro_91_1, ro_91_2, ro_91_3, ro_91_4, ro_91_5, ro_91_6, ro_91_7, ro_91_8, ro_91_9, ro_92_0, ro_94_0, ro_96_0, ro_98_0, ro_100_0, ro_102_0, ro_104_0, ro_106_0, ro_108_0, ro_110_0, ro_112_0, ro_112_1, ro_112_2, ro_112_3, ro_112_4, ro_112_5, ro_112_6, ro_112_7, ro_112_8, ro_112_9, ro_113_0, ro_115_0, ro_117_0, ro_119_0, ro_121_0, ro_123_0, ro_125_0, ro_127_0, ro_129_0, ro_131_0, ro_133_0, ro_133_1, ro_133_2, ro_133_3, ro_133_4, ro_133_5, ro_133_6, ro_133_7, ro_133_8, ro_133_9, ro_134_0, ro_136_0, ro_138_0, ro_140_0, ro_142_0, ro_144_0, ro_146_0, ro_148_0, ro_150_0, ro_152_0, ro_154_0, ro_155_0, ro_157_0, ro_157_1, ro_157_2, ro_157_3, ro_157_4, ro_157_5, ro_157_6, ro_157_7, ro_157_8, ro_157_9, ro_158_0, ro_160_0, ro_162_0, ro_164_0, ro_166_0, ro_168_0, ro_170_0, ro_172_0, ro_174_0, ro_176_0, ro_178_0, ro_180_0, ro_182_1, ro_182_4, ro_182_5, ro_182_6, ro_182_9, ro_182_10, ro_182_11, ro_182_13, ro_182_14, ro_182_15, ro_182_16, ro_182_17, ro_182_20, ro_182_21, ro_182_22, ro_182_23, ro_182_24, ro_182_26, ro_182_27, ro_182_28, lo_3, lo_5, lo_7, lo_9, lo_11, lo_13, lo_15, lo_17, lo_19, lo_21, lo_24, lo_26, lo_28, lo_30, lo_32, lo_34, lo_36, lo_38, lo_40, lo_42, lo_44, lo_47, lo_49, lo_51, lo_54, lo_56, lo_58, lo_60, lo_63, lo_65, lo_67, lo_69, lo_72, lo_74, lo_76, lo_78, lo_80, lo_82, lo_84, lo_86, lo_88, lo_90, lo_93, lo_95, lo_97, lo_99, lo_101, lo_103, lo_105, lo_107, lo_109, lo_111, lo_114, lo_116, lo_118, lo_120, lo_122, lo_124, lo_126, lo_128, lo_130, lo_132, lo_135, lo_137, lo_139, lo_141, lo_143, lo_145, lo_147, lo_149, lo_151, lo_153, lo_156, lo_159, lo_161, lo_163, lo_165, lo_167, lo_169, lo_171, lo_173, lo_175, lo_177, lo_179, lo_181, lo_183, lo_184, lo_185, lo_186, lo_187, lo_188, lo_189, lo_190, lo_191, lo_192, lo_193, lo_194, lo_195, lo_196, lo_197, lo_198, lo_199, lo_200, lo_201, lo_202, lo_203, jp_nn, jp_eq, jp_e1, Classical.not_not, ji0, ji1, ji2, cs47_228, kk_228, cs47_301, kk_301b, jl_0, jl_1, jl_2, jl_3, jl_4, jl_5, jl_6, jl_7, jl_8, jl_9, jl_10, jl_11, jl_12, jl_13, jl_14, jl_15, jl_16, jl_17, jl_18, jl_19, jl_20, jl_21, jl_22, jl_23, jl_24, jl_25, jl_26, jl_27, jl_28, jl_29, jl_30, jl_31, jl_32, jl_33, jl_34, jl_35, jl_36, jl_37, jl_38, jl_39, jl_40, jl_95, jl_96, jl_97, jl_98, jl_99, jl_100, jl_101, jl_102, jl_103, jl_104, jl_105, jl_106, jl_107, jl_108, jl_109, jl_110, jl_111, jl_112, jl_113, jl_114, jl_186, jl_1100, jr, ju, jpT, jpF, tnc, Nat.reduceEqDiff, reduceIte, and_false, false_and, not_true_eq_false, not_false_eq_true, or_false, gt_iff_lt, ge_iff_le, Int.lt_irrefl, Int.le_refl, e3_w, z, z']
      exact hQ _ _ _ b1
  · exact hQ.elim
theorem snd_47 {xs : Nat → Int} {L K : Nat} : ∀ n, SndC CS47 (evF xs L g_ck K g_cW g_M n) := snd_all snd_46 (fun f av h Q hQ => by
  unfold CS47 at hQ
  split at hQ
  · exact Or.inr m_302b
  · exact Or.inr m_303b
  · exact Or.inl hQ)
end
section
/-! ===== questions keep_w what lasts, the state_w told_w in both_w ===== -/
def r_n5 (r : Nat) : Bool := r_n4 r && !(m_W r).1.contains 18 && !(m_W r).2.contains 195
theorem u2_plan : ∀ o k : Nat, 6 ≤ o → o ≤ 24 → aW u2_W o k = false := aW_out (by decide) (by decide)
theorem u2_l70 : ∀ o k : Nat, 70 ≤ o → o ≤ 90 → aW u2_W o k = false := aW_out (by decide) (by decide)
theorem u2_l112 : ∀ o k : Nat, 112 ≤ o → o ≤ 156 → aW u2_W o k = false := aW_out (by decide) (by decide)
theorem u2_ref : ∀ o k : Nat, 182 ≤ o → o ≤ 100000 → aW u2_W o k = false := aW_out (by decide) (by decide)
/-- what is_w asked_w of the reference's call: no block_w but the tried one is_w changed -/
def BKp (xs : Nat → Int) (L K n : Nat) (r : Nat) (ws_w : List Int) : Prop := ∀ (c d : Nat) (h h' : XH) (v : List Int) (D : DD), RF D h → h 191 0 ≤ 30 → LNB h → evF xs L g_ck K g_cW g_M n r (182 :: ws_w) ((a_g3, c, d), h) = some (1, v, ((a_g3, c, d), h')) → BKq h h'
section INV6
variable {xs : Nat → Int} {L K n : Nat} {c d : Nat} {h h' hX h1 h2 : XH} {D : DD}
theorem cls_u2 {f : Nat} {p : List AVs × Option AVs} (ep : u2_T f = some p) {vs r : List Int} (la : LsA p.1 vs) {cd : Nat × Nat} {k : Nat} {g' : XS × Nat × Nat} (e : evF xs L g_ck K g_cW g_M n f vs ((a_g3, cd), h) = some (k, r, (g', h'))) : FrW u2_W h h' :=
  (snd_u2 n cd f vs h (fun _ _ x => FrW u2_W h x) ⟨p, ep, la, fun _ _ a _ => a, fun _ _ a => a⟩ k r g' h' e).2
theorem lnb_of (lq : LQ h) : h 191 0 ≤ 30 ∧ LNB h := by
  obtain ⟨P, hQ, -⟩ := lq
  have k3 := q_cell hQ (q := 188) (r := 3) (x := (3, 4, (7, 0, 0))) (by decide) rfl rfl (i := 3) (by decide) (by decide)
  have k1_w := q_cell hQ (q := 191) (r := 0) (x := (0, 1, (1, 0, 30))) (by decide) rfl rfl (i := 0) (by decide) (by decide)
  have p6_w : P.1 ≤ 6 := by
    have := k3.1
    have := k3.2.2
    omega
  refine ⟨k1_w.2.1, fun n z => ?_⟩
  obtain ⟨a, b, c⟩ := hQ.2.2.2.2.2 n z
  refine ⟨fun y => ?_, fun y => ?_, fun y => ?_⟩
  · have := a y
    omega
  · have := b y
    omega
  · have := c y
    omega
theorem bk_fr {r : Nat} {ws_w : List Int} (hf : m_in r = true) (z : (m_W r).2.contains 194 = false) : BKp xs L K n r ws_w := fun c d h h' v D _ _ _ e => by
  obtain ⟨-, fr⟩ := fr_all n r (182 :: ws_w) _ _ _ _ _ _ hf rfl (Or.inr rfl) e
  exact fun q _ => fr 194 q (fun y => absurd y (by decide)) z
theorem bk_273 {w : Int} : BKp xs L K n 273 [w] := fun c d h h' v D rf l30 ln e => by
  obtain ⟨y0, -, y3, D0, D12, m6_w⟩ := sz_rf rf
  have c : CS47 273 [182, w] h (fun k _ h' => BKq h h') := by
    rw [cs47_273, kk_273b]
    exact ⟨nM D, D.1.toNat, y3, m6_w, by omega, by omega, l30, ln, fun k r h' b => b⟩
  exact (snd_47 n _ _ _ _ _ c _ _ _ _ e).2
theorem bk_299 {a b e f : Int} : BKp xs L K n 299 [a, b, e, f] := fun c d h h' v D rf _ _ ev_w => by
  have c : CS47 299 [182, a, b, e, f] h (fun k _ h' => BKq h h') := by
    rw [cs47_299, kk_299b]
    exact ⟨D, rf, fun k r h' b => b⟩
  exact (snd_47 n _ _ _ _ _ c _ _ _ _ ev_w).2
theorem bk_300 {a b : Int} : BKp xs L K n 300 [a, b] := fun c d h h' v D rf _ _ ev_w => by
  obtain ⟨y0, -, y3, D0, D12, m6_w⟩ := sz_rf rf
  have c : CS47 300 [182, a, b] h (fun k _ h' => BKq h h') := by
    rw [cs47_300, kk_300b]
    exact ⟨by omega, fun k r h' b => b⟩
  exact (snd_47 n _ _ _ _ _ c _ _ _ _ ev_w).2
theorem bk_302 {a : Int} : BKp xs L K n 302 [a] := fun c d h h' v D rf _ _ ev_w => by
  obtain ⟨y0, -, y3, D0, D12, m6_w⟩ := sz_rf rf
  have c : CS47 302 [182, a] h (fun k _ h' => BKq h h') := by
    rw [cs47_302, kk_302b]
    exact ⟨by omega, fun k r h' b => b⟩
  exact (snd_47 n _ _ _ _ _ c _ _ _ _ ev_w).2
theorem bk_303 : BKp xs L K n 303 [] := fun c d h h' v D rf _ _ ev_w => by
  obtain ⟨y0, -, y3, D0, D12, m6_w⟩ := sz_rf rf
  have c : CS47 303 [182] h (fun k _ h' => BKq h h') := by
    rw [cs47_303, kk_303b]
    exact ⟨by omega, fun k r h' b => b⟩
  exact (snd_47 n _ _ _ _ _ c _ _ _ _ ev_w).2
theorem bk_310 {a b e : Int} : BKp xs L K n 310 [a, b, e] := fun c d h h' v D rf _ _ ev_w => by
  obtain ⟨y0, -, y3, D0, D12, m6_w⟩ := sz_rf rf
  have c : CS47 310 [182, a, b, e] h (fun k _ h' => BKq h h') := by
    rw [cs47_310, kk_310b]
    exact ⟨by omega, by omega, fun k r h' b => b⟩
  exact (snd_47 n _ _ _ _ _ c _ _ _ _ ev_w).2
/-- a question_w on_w both_w sides: what is_w told_w and the state_w are as_w they were -/
theorem J5.q {r : Nat} {ws_w v : List Int} (j : J5 h) (lq : LQ h) (w : FrW u2_W h hX) (w2_w : ∀ o k : Nat, o ≠ 203 → h1 o k = hX o k) (hf : r_n5 r = true) (hb_w : BKp xs L K n r ws_w) (e : evF xs L g_ck K g_cW g_M n r (182 :: ws_w) ((a_g3, c, d), h1) = some (1, v, ((a_g3, c, d), h2))) : J5 h2 := by
  obtain ⟨D, cd, rf, sm_w⟩ := j
  simp only [r_n5, Bool.and_eq_true, Bool.not_eq_true'] at hf
  obtain ⟨⟨f4_w, f18⟩, f195⟩ := hf
  have f4' := f4_w
  simp only [r_n4, r_n3, r_nf, Bool.and_eq_true, Bool.not_eq_true'] at f4'
  have fin_w : m_in r = true := f4'.1.1.1.1.1.1.1.1.1.1
  obtain ⟨-, fr⟩ := fr_all n r (182 :: ws_w) _ _ _ _ _ _ fin_w rfl (Or.inr rfl) e
  obtain ⟨-, -, b5, b6, b7⟩ := ref_4 (g := (a_g3, c, d)) f4_w rfl e
  have u : ∀ o, 182 ≤ o → o ≤ 202 → h1 o = h o := fun o a b => funext fun k => (w2_w o k (by omega)).trans (w o k (u2_ref o k a (by omega)))
  have e8 := u 188 (by decide) (by decide)
  have e9_w := u 189 (by decide) (by decide)
  have e0 := u 190 (by decide) (by decide)
  have e1_w := u 191 (by decide) (by decide)
  have e4_w := u 194 (by decide) (by decide)
  have e5_w := u 195 (by decide) (by decide)
  obtain ⟨l30, ln⟩ := lnb_of lq
  have rf1 : RF D h1 := rf.fr e8 e9_w e0
  have bk : BKq h1 h2 := hb_w c d h1 h2 v D rf1 (by rw [e1_w]; exact l30) (fun n z => by rw [e1_w] at z ⊢; exact ln n z) e
  have lo_w : ∀ o k : Nat, o < 182 → h2 o k = hX o k := fun o k z => (fr o k (fun y => by omega) (fr_lo fin_w (by omega))).trans (w2_w o k (by omega))
  have cl1 : ∀ o k : Nat, 70 ≤ o → o ≤ 90 ∨ (112 ≤ o ∧ o ≤ 156) → o ≤ 156 → h2 o k = h o k := fun o k a b z => (lo_w o k (by omega)).trans (w o k (by
    rcases b with b | b
    · exact u2_l70 o k a b
    · exact u2_l112 o k b.1 b.2))
  refine ⟨D, cd.fr (fun o k a b => (lo_w o k (by omega)).trans (w o k (u2_plan o k a b))), rf1.fr b5 b6 b7, sm_w.fr ⟨(lo_w 0 13 (by decide)).trans (w 0 13 (by decide)), (lo_w 0 14 (by decide)).trans (w 0 14 (by decide))⟩ cl1 (fun k z => (bk k z).trans (by rw [e4_w])) ?_ ⟨?_, ?_⟩⟩
  · rw [fr 182 18 (fun _ => f18) (fr_lo fin_w (by decide)), u 182 (by decide) (by decide)]
  · rw [fr 195 0 (fun y => absurd y (by decide)) f195, e5_w]
  · rw [fr 195 1 (fun y => absurd y (by decide)) f195, e5_w]
theorem pair_i5 (hK2 : 20000000000 ≤ K) (hn : n < 99999) {f r : Nat} {p : List AVs × Option AVs} (ep : u2_T f = some p) (hd_w : g_dp f < n) (ht : g_THR f = false) (hr : r_dp r < n) (hf : r_n5 r = true) {vs ws_w : List Int} (la : LsA p.1 vs) (ha_w : VL (fun _ => 0) a_g3 ((g_T 0).2.1 f) vs) (hv : ∀ P, IL P (qP (r_T 0) r) (182 :: ws_w)) (hb_w : BKp xs L K n r ws_w) (hI : Inv5 h) : ∃ (v1_w v2 : List Int) (h1 h2 : XH), evF xs L g_ck K g_cW g_M n f vs ((a_g3, c, d), h) = some (1, v1_w, ((a_g3, c, d), h1)) ∧ evF xs L g_ck K g_cW g_M n r (182 :: ws_w) ((a_g3, c, d), h1) = some (1, v2, ((a_g3, c, d), h2)) ∧ Inv5 h2 := by
  have f3_w : r_n3 r = true := by
    simp only [r_n5, r_n4, Bool.and_eq_true] at hf
    exact hf.1.1.1.1.1
  obtain ⟨v1_w, v2, h1, h2, e1_w, e2_w, e3_w⟩ := pair_i3 (xs := xs) (L := L) (c := c) (d := d) hK2 hn hd_w ht hr f3_w ha_w hv hI.1
  exact ⟨v1_w, v2, h1, h2, e1_w, e2_w, e3_w, hI.2.q hI.1.1.2 (cls_u2 ep la e1_w) (fun _ _ _ => rfl) hf hb_w e2_w⟩
/-- one of the seven_w that change the state_w -/
theorem deed_i5 (hK2 : 20000000000 ≤ K) (hn : n < 99999) {f r : Nat} (hd_w : g_dp f < n) (ht : g_THR f = false) (hr : r_dp r < n) (hf : r_n3 r = true) {vs ws_w : List Int} (ha_w : VL (fun _ => 0) a_g3 ((g_T 0).2.1 f) vs) (hv : ∀ P, IL P (qP (r_T 0) r) (182 :: ws_w)) (hq : ∀ (h1 h2 : XH) (D : DD) (r1_w r2 : List Int), CDw 6 D h → RF D h → SM D h → LQ h → evF xs L g_ck K g_cW g_M n f vs ((a_g3, c, d), h) = some (1, r1_w, ((a_g3, c, d), h1)) → evF xs L g_ck K g_cW g_M n r (182 :: ws_w) ((a_g3, c, d), h1) = some (1, r2, ((a_g3, c, d), h2)) → r1_w = r2 ∧ CDw 6 D h2 ∧ RF D h2 ∧ SM D h2) (hI : Inv5 h) : ∃ (v : List Int) (h1 h2 : XH), evF xs L g_ck K g_cW g_M n f vs ((a_g3, c, d), h) = some (1, v, ((a_g3, c, d), h1)) ∧ evF xs L g_ck K g_cW g_M n r (182 :: ws_w) ((a_g3, c, d), h1) = some (1, v, ((a_g3, c, d), h2)) ∧ Inv5 h2 := by
  obtain ⟨v1_w, v2, h1, h2, e1_w, e2_w, e3_w⟩ := pair_i3 (xs := xs) (L := L) (c := c) (d := d) hK2 hn hd_w ht hr hf ha_w hv hI.1
  obtain ⟨D, cd, rf, sm_w⟩ := hI.2
  obtain ⟨rfl, cd2, rf2, sm2⟩ := hq h1 h2 D v1_w v2 cd rf sm_w hI.1.1.2 e1_w e2_w
  exact ⟨v1_w, h1, h2, e1_w, e2_w, e3_w, D, cd2, rf2, sm2⟩
theorem try_i5 {q f r o ml_w : Nat} {pk_w rk : List Nat} {A : SX} {vs ws_w en : List Int} {p : List AVs × Option AVs} (ep : u2_T f = some p) (la : LsA p.1 vs) (hK2 : 20000000000 ≤ K) (hn : n + 41 < 99999) (hm_w : g_M q = (0, ml_w, pk_w, rk, sx 2 (sx 24 (sx 3 (sv o) z0 z0) A (sv f)) (sx 16 (sx 1 z0 (sv 1) z0) z0 z0) z0)) (hen : j_pad 0 ml_w (j_lay pk_w (vs ++ [203])) = en) (ho : en.getD o 0 = 203) (hA : ∀ st, evE xs L g_ck (evF xs L g_ck K g_cW g_M (n + 40)) g_cW A en st = some (vs, st)) (hd_w : g_dp f ≤ 30) (hR : (g_T 0).2.2.1 f = [1]) (ha_w : VL (fun _ => 0) a_g3 ((g_T 0).2.1 f) vs) (hr : r_dp r ≤ 30) (hf : r_n5 r = true) (hv : ∀ P, IL P (qP (r_T 0) r) (182 :: ws_w)) (hb_w : BKp xs L K (n + 41) r ws_w) :
    ∀ (c d : Nat) (h : XH), Inv5 h → ∃ (v1_w v2 : List Int) (c' d' : Nat) (h1 h2 : XH), evF xs L g_ck K g_cW g_M (n + 41) q (vs ++ [203]) ((a_g3, c, d), h) = some (1, v1_w, ((a_g3, c', d'), h1)) ∧ evF xs L g_ck K g_cW g_M (n + 41) r (182 :: ws_w) ((a_g3, c', d'), h1) = some (1, v2, ((a_g3, c', d'), h2)) ∧ Inv5 h2 ∧ c' ≤ c + 1 ∧ d' ≤ d + 6 := fun c d h hI => by
  have f3_w : r_n3 r = true := by
    simp only [r_n5, r_n4, Bool.and_eq_true] at hf
    exact hf.1.1.1.1.1
  have f1_w : r_nf r = true := by
    simp only [r_n3, Bool.and_eq_true] at f3_w
    exact f3_w.1.1.1
  obtain ⟨v1_w, c', d', h1, e1_w, e2_w, e3_w, e4_w, e5_w⟩ := catch_g (xs := xs) (L := L) (K := K) (n := n + 40) (c := c) (d := d) (by omega) hm_w hen ho hA (by omega) (by omega) hR ha_w hI.1
  obtain ⟨v2, h2, g1, g2, -⟩ := ref_inv (xs := xs) (L := L) (c := c') (d := d') hK2 hn (by omega) f1_w hv e2_w.1
  obtain ⟨-, b1, b2, b3, b4⟩ := ref_3 (g := (a_g3, c', d')) f3_w rfl g1
  have w : ∃ hX, FrW u2_W h hX ∧ ∀ o k : Nat, o ≠ 203 → h1 o k = hX o k := by
    rcases e5_w with ⟨-, -, -, w, hX, -, q1_w, q2_w⟩ | ⟨-, r1_w, g3_w, hX, q1_w, q2_w⟩
    · exact ⟨hX, cls_u2 ep la q1_w, fun o k z => by rw [q2_w]; exact up_ne (fun y => z y.1)⟩
    · exact ⟨hX, cls_u2 ep la q1_w, fun o k z => by rw [q2_w]⟩
  obtain ⟨hX, w1_w, w2_w⟩ := w
  exact ⟨[v1_w], v2, c', d', h1, h2, e1_w, g1, ⟨e2_w.kp g2 b1 b2 b3 b4, hI.2.q hI.1.1.2 w1_w w2_w hf hb_w g1⟩, e3_w, e4_w⟩
end INV6
end
section
/-! ===== meter, with, says_w answer_w alike_w; steps_w that compare_w ===== -/
section ASK5
variable {xs : Nat → Int} {L K n : Nat} {c d : Nat} {h h' h1 h2 : XH} {D : DD}
theorem runs_eq (sm_w : SM D h) : h 70 10 = h 194 162 := by
  have e := sm_w.2.2.1 162 (Or.inr (Or.inr (Or.inr rfl)))
  rw [cl_ru (by omega)] at e
  have e' : h 70 10 = h 194 (0 + 162) := e
  rw [e', Nat.zero_add]
theorem runs_b (sm_w : SM D h) (lq : LQ h) : 0 ≤ h 70 10 ∧ h 70 10 ≤ 4 := by
  obtain ⟨P, hQ, -⟩ := lq
  obtain ⟨r, r4, er⟩ := iv03 (s_cell hQ (r := 3) (x := (162, 163, (1, 0, 4))) rfl (i := 162) (j := 0) (by decide) (by decide) (by decide))
  have e0 : (429 * 0 + 162 : Nat) = 162 := rfl
  rw [e0] at er
  rw [runs_eq sm_w, er]
  omega
/-- a reading_w in both_w -/
theorem rd_eq (sm_w : SM D h) {q : Nat} (hq : q < 13 * nM D) : h 72 q = h 194 q := by
  have e := sm_w.2.2.1 q (Or.inl hq)
  have := sm_w.1
  rw [cl_lo (by omega)] at e
  have e' : h 72 q = h 194 (0 + q) := e
  rw [e', Nat.zero_add]
theorem rd_b (lq : LQ h) {q : Nat} (hq : q < 78) : -1 ≤ h 194 q ∧ h 194 q ≤ 9999 := by
  obtain ⟨P, hQ, -⟩ := lq
  have k := s_cell hQ (r := 0) (x := (0, 78, (1, (-1), 9999))) rfl (i := q) (j := 0) (Nat.zero_le _) hq (by decide)
  rw [Nat.mul_zero, Nat.zero_add] at k
  exact ⟨k.1, k.2.1⟩
theorem cnRP {f g : Nat → Int} : ∀ k, (∀ q, q < k → f q = g q ∧ -1 ≤ g q) → cnR f k = cnP g k
  | 0, _ => rfl
  | k + 1, z => by
    obtain ⟨e, b⟩ := z k (Nat.lt_succ_self k)
    rw [cnR, cnP, cnRP k (fun q y => z q (by omega)), e]
    by_cases y : g k = -1
    · rw [if_pos y, if_neg (by omega)]
    · rw [if_neg y, if_pos (by omega)]
theorem mt_eq (cd : CDw 6 D h) (rf : RF D h1) (hc_w : ∀ o k : Nat, o = 188 ∨ o = 194 → h1 o k = h o k) (sm_w : SM D h) (lq : LQ h) {m w : Int} : mtA h m w = mtR D h1 m w := by
  obtain ⟨z9, z11, z12⟩ := sz_cd cd
  have m6_w := sm_w.1
  unfold mtA mtR
  rw [z12]
  show _ = if 0 ≤ m ∧ m < ((nM D : Nat) : Int) ∧ 0 ≤ w ∧ w ≤ 2 then _ else _
  by_cases y : 0 ≤ m ∧ m < (nM D : Int)
  · rw [if_pos y]
    have hm_w : m.toNat < D.2.2.2.2.1.length := by
      have : nM D = D.2.2.2.2.1.length := rfl
      omega
    have ex_w : D.2.2.2.2.1[m.toNat]? = some (D.2.2.2.2.1[m.toNat]) := List.getElem?_eq_getElem hm_w
    have k1_w := cd.2.2.2.2.1.1 _ _ ex_w
    have k2 := rf.ix.2.2.2.2.2.2 _ _ ex_w
    by_cases y0 : w = 0
    · rw [if_pos y0, if_pos (by omega), if_pos y0]
      unfold mkd
      rw [ex_w]
      exact k1_w.1
    · rw [if_neg y0]
      by_cases y1 : w = 1
      · rw [if_pos y1, if_pos (by omega), if_neg y0, if_pos y1, k2.2.1]
        exact k1_w.2.1
      · rw [if_neg y1]
        by_cases y2 : w = 2
        · rw [if_pos y2, if_pos (by omega), if_neg y0, if_neg y1, cnRP 13 (fun q z => ?_)]
          rw [rd_eq sm_w (by omega), hc_w 194 _ (Or.inr rfl)]
          exact ⟨rfl, (rd_b lq (by omega)).1⟩
        · rw [if_neg y2, if_neg (by omega)]
  · rw [if_neg y, if_neg (by omega)]
theorem meter_k {m w : Int} {r1_w r2 : List Int} (cd : CDw 6 D h) (rf : RF D h) (sm_w : SM D h) (lq : LQ h) (e1_w : evF xs L g_ck K g_cW g_M n 5 [0, m, w] ((a_g3, c, d), h) = some (1, r1_w, ((a_g3, c, d), h1))) (e2_w : evF xs L g_ck K g_cW g_M n 261 [182, m, w] ((a_g3, c, d), h1) = some (1, r2, ((a_g3, c, d), h2))) : r1_w = r2 := by
  obtain ⟨z9, z11, z12⟩ := sz_cd cd
  have m6_w := sm_w.1
  have c5 : CS43 5 [0, m, w] h (fun k r h' => k = 1 → r = [mtA h m w] ∧ h' = h) := by
    rw [cs43_5, kk_5]
    exact ⟨by omega, fun _ => ⟨rfl, rfl⟩⟩
  obtain ⟨a1_w, a2⟩ := (snd_43 n _ _ _ _ _ c5 _ _ _ _ e1_w).2 rfl
  subst a2
  have c261 : CS43 261 [182, m, w] h1 (fun k r h' => k = 1 → r = [mtR D h1 m w]) := by
    rw [cs43_261, kk_261]
    exact ⟨D, rf, fun _ => rfl⟩
  rw [a1_w, (snd_43 n _ _ _ _ _ c261 _ _ _ _ e2_w).2 rfl, mt_eq cd rf (fun _ _ _ => rfl) sm_w lq]
theorem with_k {m s : Int} {r1_w r2 : List Int} (cd : CDw 6 D h) (rf : RF D h) (sm_w : SM D h) (lq : LQ h) (e1_w : evF xs L g_ck K g_cW g_M n 6 [0, m, s] ((a_g3, c, d), h) = some (1, r1_w, ((a_g3, c, d), h1))) (e2_w : evF xs L g_ck K g_cW g_M n 262 [182, m, s] ((a_g3, c, d), h1) = some (1, r2, ((a_g3, c, d), h2))) : r1_w = r2 := by
  obtain ⟨z9, z11, z12⟩ := sz_cd cd
  obtain ⟨y0, y2, y3, D0, D12, m6_w⟩ := sz_rf rf
  have c6 : CS43 6 [0, m, s] h (fun k r h' => k = 1 → r = [if 0 ≤ m ∧ m < h 6 12 ∧ 0 ≤ s ∧ s < h 6 9 then h 74 (12 * m.toNat + s.toNat) else -1] ∧ h' = h) := by
    rw [cs43_6, kk_6]
    exact ⟨by omega, by omega, fun _ => ⟨rfl, rfl⟩⟩
  obtain ⟨a1_w, a2⟩ := (snd_43 n _ _ _ _ _ c6 _ _ _ _ e1_w).2 rfl
  subst a2
  have c262 : CS43 262 [182, m, s] h1 (fun k r h' => k = 1 → r = [if 0 ≤ m ∧ m < h1 188 3 ∧ 0 ≤ s ∧ s < h1 188 0 then h1 194 (78 + (12 * m.toNat + s.toNat)) else -1]) := by
    rw [cs43_262, kk_262]
    exact ⟨by omega, by omega, fun _ => rfl⟩
  rw [a1_w, (snd_43 n _ _ _ _ _ c262 _ _ _ _ e2_w).2 rfl, z9, z12, y0, y3]
  by_cases y : 0 ≤ m ∧ m < (nM D : Int) ∧ 0 ≤ s ∧ s < D.1
  · rw [if_pos y, if_pos y]
    have e := sm_w.2.2.1 (78 + (12 * m.toNat + s.toNat)) (Or.inr (Or.inl (by omega)))
    rw [cl_su (by omega) (by omega)] at e
    have e' : h1 74 (78 + (12 * m.toNat + s.toNat) - 78) = h1 194 (0 + (78 + (12 * m.toNat + s.toNat))) := e
    rw [Nat.add_sub_cancel_left, Nat.zero_add] at e'
    rw [e']
  · rw [if_neg y, if_neg y]
theorem says_k {m p : Int} {r1_w r2 : List Int} (cd : CDw 6 D h) (rf : RF D h) (sm_w : SM D h) (lq : LQ h) (e1_w : evF xs L g_ck K g_cW g_M n 7 [0, m, p] ((a_g3, c, d), h) = some (1, r1_w, ((a_g3, c, d), h1))) (e2_w : evF xs L g_ck K g_cW g_M n 263 [182, m, p] ((a_g3, c, d), h1) = some (1, r2, ((a_g3, c, d), h2))) : r1_w = r2 := by
  have c7 : CS43 7 [0, m, p] h (fun k r h' => k = 1 → r = [if 0 ≤ m ∧ m < (D.2.2.2.2.1.length : Int) ∧ 0 ≤ p ∧ p ≤ lastP D m then h 72 (13 * m.toNat + p.toNat) else -1] ∧ h' = h) := by
    rw [cs43_7, kk_7]
    exact ⟨D, cd, fun _ => ⟨rfl, rfl⟩⟩
  obtain ⟨a1_w, a2⟩ := (snd_43 n _ _ _ _ _ c7 _ _ _ _ e1_w).2 rfl
  subst a2
  have c263 : CS43 263 [182, m, p] h1 (fun k r h' => k = 1 → r = [if 0 ≤ m ∧ m < (D.2.2.2.2.1.length : Int) ∧ 0 ≤ p ∧ p ≤ lastP D m then h1 194 (13 * m.toNat + p.toNat) else -1]) := by
    rw [cs43_263, kk_263]
    exact ⟨D, rf, fun _ => rfl⟩
  rw [a1_w, (snd_43 n _ _ _ _ _ c263 _ _ _ _ e2_w).2 rfl]
  by_cases y : 0 ≤ m ∧ m < (D.2.2.2.2.1.length : Int) ∧ 0 ≤ p ∧ p ≤ lastP D m
  · rw [if_pos y, if_pos y]
    have l12 := lp_le cd (m := m)
    rw [rd_eq sm_w (show 13 * m.toNat + p.toNat < 13 * D.2.2.2.2.1.length by omega)]
  · rw [if_neg y, if_neg y]
theorem undo_k5 {r1_w r2 : List Int} (cd : CDw 6 D h) (rf : RF D h) (sm_w : SM D h) (lq : LQ h) (e1_w : evF xs L g_ck K g_cW g_M n 12 [0] ((a_g3, c, d), h) = some (1, r1_w, ((a_g3, c, d), h1))) (e2_w : evF xs L g_ck K g_cW g_M n 272 [182] ((a_g3, c, d), h1) = some (1, r2, ((a_g3, c, d), h2))) : r1_w = r2 ∧ CDw 6 D h2 ∧ RF D h2 ∧ SM D h2 := undo_k cd rf sm_w (by have := runs_b sm_w lq; omega) e1_w e2_w
/-- a question_w on_w both_w sides that is_w answered alike_w -/
theorem ask_i5 (hK2 : 20000000000 ≤ K) (hn : n < 99999) {f r : Nat} {p : List AVs × Option AVs} (ep : u2_T f = some p) (hd_w : g_dp f < n) (ht : g_THR f = false) (hr : r_dp r < n) (hf : r_n5 r = true) {vs ws_w : List Int} (la : LsA p.1 vs) (ha_w : VL (fun _ => 0) a_g3 ((g_T 0).2.1 f) vs) (hv : ∀ P, IL P (qP (r_T 0) r) (182 :: ws_w)) (hb_w : BKp xs L K n r ws_w) (hq : ∀ (h1 h2 : XH) (D : DD) (r1_w r2 : List Int), CDw 6 D h → RF D h → SM D h → LQ h → evF xs L g_ck K g_cW g_M n f vs ((a_g3, c, d), h) = some (1, r1_w, ((a_g3, c, d), h1)) → evF xs L g_ck K g_cW g_M n r (182 :: ws_w) ((a_g3, c, d), h1) = some (1, r2, ((a_g3, c, d), h2)) → r1_w = r2) (hI : Inv5 h) : ∃ (v : List Int) (h1 h2 : XH), evF xs L g_ck K g_cW g_M n f vs ((a_g3, c, d), h) = some (1, v, ((a_g3, c, d), h1)) ∧ evF xs L g_ck K g_cW g_M n r (182 :: ws_w) ((a_g3, c, d), h1) = some (1, v, ((a_g3, c, d), h2)) ∧ Inv5 h2 := by
  obtain ⟨v1_w, v2, h1, h2, e1_w, e2_w, e3_w⟩ := pair_i5 (xs := xs) (L := L) (c := c) (d := d) hK2 hn ep hd_w ht hr hf la ha_w hv hb_w hI
  obtain ⟨D, cd, rf, sm_w⟩ := hI.2
  obtain rfl := hq h1 h2 D v1_w v2 cd rf sm_w hI.1.1.2 e1_w e2_w
  exact ⟨v1_w, h1, h2, e1_w, e2_w, e3_w⟩
theorem two_of {P : List Int → XH → Prop} {R : List Int → XH → XH → Prop} {I : XH → Prop} (z : ∃ (v : List Int) (h1 h2 : XH), P v h1 ∧ R v h1 h2 ∧ I h2) : ∃ (v1_w v2 : List Int) (h1 h2 : XH), P v1_w h1 ∧ R v2 h1 h2 ∧ I h2 := by
  obtain ⟨v, h1, h2, a, b, c⟩ := z
  exact ⟨v, v, h1, h2, a, b, c⟩
end ASK5
section STEPS5
variable {xs : Nat → Int} {L K n : Nat} {F : XP} {I : XH → Prop} {i : Int}
/-- a call of both_w, their answers_w compared: they are the same -/
theorem step_d {A B : SX} {f r : Nat} {vs ws_w : List Int} (hA : ArgE xs L F A i vs) (hB_w : ArgE xs L F B i ws_w) (hP : ∀ (c d : Nat) (h : XH), I h → ∃ (v : List Int) (h1 h2 : XH), F f vs ((a_g3, c, d), h) = some (1, v, ((a_g3, c, d), h1)) ∧ F r ws_w ((a_g3, c, d), h1) = some (1, v, ((a_g3, c, d), h2)) ∧ I h2) :
    StepOK xs L K F I (sx 28 (sx 20 (sx 32 A (sv f) z0) (sx 32 B (sv r) z0) (sv 1)) (sx 27 (sx 1 z0 (sv 1) z0) z0 z0) z0) i := by
  intro s t c d h hI
  obtain ⟨v, h1, h2, e1_w, e2_w, e3_w⟩ := hP c d h hI
  refine ⟨s, t, c, d, h2, ?_, e3_w, by omega, by omega⟩
  have a1_w := hA s t ((a_g3, c, d), h)
  have a2 := hB_w s t ((a_g3, c, d), h1)
  rw [es_28]
  unfold s_if
  rw [ee_20]
  unfold n_cmp
  rw [ee_32, ee_32]
  unfold n_call
  simp only [a1_w, a2, Option.bind_some, n_sv, e1_w, e2_w, if_true]
  have z : j_cmp 1 (j_hd v) (j_hd v) = false := by simp [j_cmp]
  rw [z]
  exact if_pos rfl
theorem feed_s5 (hK2 : 20000000000 ≤ K) (a b e : Int) : ∀ (c d : Nat) (h : XH), Inv5 h → ∃ (v1_w v2 : List Int) (h1 h2 : XH), evF xs L g_ck K g_cW g_M (n + 41) 1 [0, a, b, e] ((a_g3, c, d), h) = some (1, v1_w, ((a_g3, c, d), h1)) ∧ evF xs L g_ck K g_cW g_M (n + 41) 183 [182, a, b, e] ((a_g3, c, d), h1) = some (1, v2, ((a_g3, c, d), h2)) ∧ Inv5 h2 := fun c d h hI => by
  obtain ⟨v, h1, h2, e1_w, e2_w, e3_w⟩ := feed_i5 (xs := xs) (L := L) (K := K) (n := n + 39) (c := c) (d := d) (a := a) (b := b) (e := e) (by omega) hI
  exact ⟨[v], [v], h1, h2, e1_w, e2_w, e3_w⟩
theorem grid_w5 (hK2 : 20000000000 ≤ K) (hn : n + 41 < 99999) {c d : Nat} {h : XH} (hI : Inv5 h) : ∃ (v1_w v2 : List Int) (h1 h2 : XH), evF xs L g_ck K g_cW g_M (n + 41) 2 [0] ((a_g3, c, d), h) = some (1, v1_w, ((a_g3, c, d), h1)) ∧ evF xs L g_ck K g_cW g_M (n + 41) 206 [182] ((a_g3, c, d), h1) = some (1, v2, ((a_g3, c, d), h2)) ∧ Inv5 h2 := by
  obtain ⟨v, h1, h2, e1_w, e2_w, e3_w⟩ := grid_i5 (xs := xs) (L := L) (K := K) (n := n) (c := c) (d := d) hK2 hn hI
  exact ⟨[v], [v], h1, h2, e1_w, e2_w, e3_w⟩
theorem work_w5 (hK2 : 20000000000 ≤ K) (hn : n + 41 < 99999) {c d : Nat} {h : XH} (hI : Inv5 h) : ∃ (v1_w v2 : List Int) (h1 h2 : XH), evF xs L g_ck K g_cW g_M (n + 41) 4 [0] ((a_g3, c, d), h) = some (1, v1_w, ((a_g3, c, d), h1)) ∧ evF xs L g_ck K g_cW g_M (n + 41) 214 [182] ((a_g3, c, d), h1) = some (1, v2, ((a_g3, c, d), h2)) ∧ Inv5 h2 := by
  obtain ⟨v, h1, h2, e1_w, e2_w, e3_w⟩ := work_i5 (xs := xs) (L := L) (K := K) (n := n) (c := c) (d := d) hK2 hn hI
  exact ⟨[v], [v], h1, h2, e1_w, e2_w, e3_w⟩
end STEPS5
end
section
/-! ===== what a settlement is_w (pure) ===== -/
def sumN (f : Nat → Int) : Nat → Int
  | 0 => 0
  | k + 1 => sumN f k + f k
/-- the last_w of the first places_w that is_w read; none: -1 -/
def lastR (r : Nat → Int) : Nat → Int
  | 0 => -1
  | k + 1 => if r k = -1 then lastR r k else (k : Int)
/-- the first of so many_w places_w from one on_w that is_w read; none: -1 -/
def nextR (r : Nat → Int) : Nat → Nat → Int
  | 0, _ => -1
  | n + 1, p => if r p = -1 then nextR r n (p + 1) else (p : Int)
def lssD (D : DD) (c : Nat) : Int := ((D.2.2.1[c]?).map (·.2.1)).getD 0
def prfD (D : DD) (c : Nat) : List Int := ((D.2.2.1[c]?).map (·.2.2)).getD []
def kndD (D : DD) (m : Nat) : Int := ((D.2.2.2.2.1[m]?).map (fun x : Int × Int × Int × Int => x.2.1)).getD 0
def grpD (D : DD) (m : Nat) : Nat := (((D.2.2.2.2.1[m]?).map (fun x : Int × Int × Int × Int => x.2.2.1)).getD 0).toNat
def nC (D : DD) : Nat := D.2.2.1.length
def nU (D : DD) : Nat := D.2.2.2.1.length
def advS (a b : Int) : Int := if b - a < 0 then b - a + 10000 else b - a
/-- of what a register advanced from i to j, what lies ahead_w of k -/
def cutS (f : List Int) (r : Nat → Int) (i j k : Nat) : Int := if upT f j - upT f i = 0 then advS (r i) (r j) * ((k : Int) - (i : Int)) / ((j : Int) - (i : Int)) else advS (r i) (r j) * (upT f k - upT f i) / (upT f j - upT f i)
/-- what a meter used_w in a slot_w, by what it said_w -/
def useS (D : DD) (r : Nat → Int) (m s : Nat) : Int := if lastR r (s + 1) = -1 then 0 else if kndD D m ≠ 1 then (if kndD D m = 3 then -(r (lastR r (s + 1)).toNat) else r (lastR r (s + 1)).toNat) else if nextR r (nS D - s) (s + 1) = -1 then 0 else cutS (prfD D (grpD D m)) r (lastR r (s + 1)).toNat (nextR r (nS D - s) (s + 1)).toNat (s + 1) - cutS (prfD D (grpD D m)) r (lastR r (s + 1)).toNat (nextR r (nS D - s) (s + 1)).toNat s
def groS (D : DD) (r : Nat → Int) (m s : Nat) : Int := (useS D r m s * (1000 + lssD D (grpD D m))).tdiv 1000
/-- a number_w shared out by weights -/
def bstS (c : Nat → Int) : Nat → Nat
  | 0 => 0
  | k + 1 => if c (bstS c k) < c (k + 1) then k + 1 else bstS c k
def updF (f : Nat → Int) (k : Nat) (v : Int) : Nat → Int := fun q => if q = k then v else f q
def gvS (n : Nat) : Nat → (Nat → Int) → (Nat → Int) → (Nat → Int)
  | 0, p, _ => p
  | t + 1, p, c => gvS n t (updF p (bstS c (n - 1)) (p (bstS c (n - 1)) + 1)) (updF c (bstS c (n - 1)) (-1))
def absS (x : Int) : Int := if x < 0 then -x else x
def ptS (x W w : Int) : Int := if W ≤ 0 then 0 else absS x * w / W
def rmS (x W w : Int) : Int := if W ≤ 0 then 0 else absS x * w % W
def lftS (x : Int) (n : Nat) (w : Nat → Int) : Int := if sumN w n ≤ 0 then 0 else absS x - sumN (fun k => ptS x (sumN w n) (w k)) n
def prtS (x : Int) (n : Nat) (w : Nat → Int) : Nat → Int := gvS n (lftS x n w).toNat (fun k => ptS x (sumN w n) (w k)) (fun k => rmS x (sumN w n) (w k))
def outS (x : Int) (n : Nat) (w : Nat → Int) (k : Nat) : Int := if x < 0 then -(prtS x n w k) else prtS x n w k
/-- a law's codes_w over four facts_w -/
def opW (c a b : Int) : Int := if c = 4 then j32 (a + b) else if c = 5 then j32 (a - b) else if c = 6 then j32 (a * b) else if c = 7 then (if a < b then 1 else 0) else if c = 8 then (if a = b then 1 else 0) else if c = 9 then (if a ≠ 0 ∧ b ≠ 0 then 1 else 0) else (if a ≠ 0 ∨ b ≠ 0 then 1 else 0)
def stW (fc_w : Nat → Int) (x : Int) (σ : List Int) : List Int := if x % 16 = 1 then x / 16 :: σ else if x % 16 = 2 then fc_w (x / 16).toNat :: σ else match σ with
  | [] => []
  | a :: τ => if x = 3 then (if a = 0 then 1 else 0) :: τ else match τ with
    | [] => []
    | b :: ρ => opW x b a :: ρ
def evW (fc_w : Nat → Int) : List Int → List Int → List Int
  | [], σ => σ
  | x :: l, σ => evW fc_w l (stW fc_w x σ)
def fcS (ld ls sl mb : Int) (k : Nat) : Int := if k = 0 then ld else if k = 1 then ls else if k = 2 then sl else mb
def lawV (D : DD) (ld ls sl mb : Int) : Int := (evW (fcS ld ls sl mb) (D.2.2.2.2.2.getD [2]) []).getD 0 0
def clpS (v : Int) : Int := if v < 0 then 0 else if 9999 < v then 9999 else v
/-- weights of meters in a class, of classes; what is_w smeared; what a meter has_w then -/
def mw0S (D : DD) (g : Nat → Int) (c m : Nat) : Int := if grpD D m = c then absS (g m) else 0
def mwS (D : DD) (g : Nat → Int) (c m : Nat) : Int := if sumN (mw0S D g c) (nM D) = 0 then (if grpD D m = c then 1 else 0) else mw0S D g c m
def wgS (D : DD) (ld : Nat → Int) (s : Nat) (c : Nat) : Int := if mbs D.2.2.2.2.1 (c : Int) = 0 then 0 else clpS (lawV D (ld c) (lssD D c) (s : Int) (mbs D.2.2.2.2.1 (c : Int)))
def smS (D : DD) (ld : Nat → Int) (rs : Int) (s : Nat) (c : Nat) : Int := outS rs (nC D) (wgS D ld s) c
def ntS (D : DD) (g ld : Nat → Int) (rs : Int) (s m : Nat) : Int := g m + sumN (fun c => outS (smS D ld rs s c) (nM D) (mwS D g c) m) (nC D)
section SETT
variable (D : DD) (a : Nat → Int) (s : Nat)
def rdA (m : Nat) : Nat → Int := fun p => a (13 * m + p)
def gA (m : Nat) : Int := groS D (rdA a m) m s
def lodA (c : Nat) : Int := sumN (fun m => if grpD D m = c then gA D a s m else 0) (nM D)
def resA : Int := a (150 + s) - sumN (gA D a s) (nM D)
def smrA (c : Nat) : Int := smS D (lodA D a s) (resA D a s) s c
def netA (m : Nat) : Int := ntS D (gA D a s) (lodA D a s) (resA D a s) s m
def shrA (u : Nat) : Int := sumN (fun m => if a (78 + (12 * m + s)) = (u : Int) then netA D a s m else 0) (nM D)
end SETT
/-- what a grid that was told_w can_w be -/
def gdX (x : Int) : Prop := x % 16 = 1 ∨ x = 2 ∨ x = 18 ∨ x = 34 ∨ x = 50 ∨ (3 ≤ x ∧ x ≤ 10)
def WFD (D : DD) : Prop := (0 ≤ D.1 ∧ D.1 ≤ 12 ∧ D.2.2.1.length ≤ 4 ∧ D.2.2.2.1.length ≤ 4 ∧ D.2.2.2.2.1.length ≤ 6) ∧ (∀ x ∈ D.2.2.1, 0 ≤ x.2.1 ∧ x.2.1 ≤ 999 ∧ 1 ≤ x.2.2.length ∧ x.2.2.length ≤ 12 ∧ ∀ v ∈ x.2.2, 0 ≤ v ∧ v ≤ 99) ∧ (∀ x ∈ D.2.2.2.2.1, (0 ≤ x.2.2.1 ∧ x.2.2.1 < (D.2.2.1.length : Int)) ∧ (0 ≤ x.2.2.2 ∧ x.2.2.2 < (D.2.2.2.1.length : Int)) ∧ 0 ≤ x.2.1 ∧ x.2.1 ≤ 3) ∧ ∀ l, D.2.2.2.2.2 = some l → ∀ x ∈ l, gdX x
section SUMS
variable {f g : Nat → Int} {n k : Nat} {B : Int}
theorem sumN_b : ∀ n, (∀ i, i < n → -B ≤ f i ∧ f i ≤ B) → -(B * n) ≤ sumN f n ∧ sumN f n ≤ B * n
  | 0, _ => by
    show -(B * ((0 : Nat) : Int)) ≤ 0 ∧ (0 : Int) ≤ B * ((0 : Nat) : Int)
    rw [show ((0 : Nat) : Int) = 0 from rfl, Int.mul_zero]
    omega
  | n + 1, z => by
    obtain ⟨a, b⟩ := sumN_b n (fun i y => z i (by omega))
    obtain ⟨c, d⟩ := z n (Nat.lt_succ_self n)
    have e : B * ((n + 1 : Nat) : Int) = B * (n : Int) + B := by
      rw [show ((n + 1 : Nat) : Int) = (n : Int) + 1 from rfl, Int.mul_add, Int.mul_one]
    rw [e, sumN]
    omega
theorem sumN_cg : ∀ n, (∀ i, i < n → f i = g i) → sumN f n = sumN g n
  | 0, _ => rfl
  | n + 1, z => by rw [sumN, sumN, sumN_cg n (fun i y => z i (by omega)), z n (Nat.lt_succ_self n)]
theorem sumN_add : ∀ n, sumN (fun i => f i + g i) n = sumN f n + sumN g n
  | 0 => rfl
  | n + 1 => by
    rw [sumN, sumN, sumN, sumN_add n]
    omega
theorem sumN_mul {c : Int} : ∀ n, sumN (fun i => c * f i) n = c * sumN f n
  | 0 => by
    show (0 : Int) = c * 0
    rw [Int.mul_zero]
  | n + 1 => by rw [sumN, sumN, sumN_mul n, Int.mul_add]
theorem sumN_le : ∀ n, (∀ i, i < n → f i ≤ g i) → sumN f n ≤ sumN g n
  | 0, _ => Int.le_refl 0
  | n + 1, z => by
    have := sumN_le n (fun i y => z i (by omega))
    have := z n (Nat.lt_succ_self n)
    rw [sumN, sumN]
    omega
theorem sumN_nn : ∀ n, (∀ i, i < n → 0 ≤ f i) → 0 ≤ sumN f n
  | 0, _ => Int.le_refl 0
  | n + 1, z => by
    have := sumN_nn n (fun i y => z i (by omega))
    have := z n (Nat.lt_succ_self n)
    rw [sumN]
    omega
/-- one of some that are not below_w 0 is_w no more_w than all_w together -/
theorem sumN_one : ∀ n, (∀ i, i < n → 0 ≤ f i) → ∀ i, i < n → f i ≤ sumN f n
  | 0, _, _, h => absurd h (Nat.not_lt_zero _)
  | n + 1, z, i, h => by
    have e0 := sumN_nn n (fun i y => z i (by omega))
    have e1_w := z n (Nat.lt_succ_self n)
    rw [sumN]
    by_cases y : i = n
    · rw [y]
      omega
    · have := sumN_one n (fun i y => z i (by omega)) i (by omega)
      omega
theorem sumN_zero : ∀ n, (∀ i, i < n → 0 ≤ f i) → sumN f n = 0 → ∀ i, i < n → f i = 0 := fun n z e i h => by
  have := sumN_one n z i h
  have := z i h
  omega
theorem lastR_b {r : Nat → Int} : ∀ k, lastR r k = -1 ∨ (0 ≤ lastR r k ∧ lastR r k < (k : Int) ∧ r (lastR r k).toNat ≠ -1)
  | 0 => Or.inl rfl
  | k + 1 => by
    by_cases y : r k = -1
    · rw [lastR, if_pos y]
      rcases lastR_b (r := r) k with e | ⟨e1_w, e2_w, e3_w⟩
      · exact Or.inl e
      · exact Or.inr ⟨e1_w, by omega, e3_w⟩
    · rw [lastR, if_neg y]
      exact Or.inr ⟨by omega, by omega, y⟩
theorem nextR_b {r : Nat → Int} : ∀ n p, nextR r n p = -1 ∨ ((p : Int) ≤ nextR r n p ∧ nextR r n p < ((p + n : Nat) : Int) ∧ r (nextR r n p).toNat ≠ -1)
  | 0, _ => Or.inl rfl
  | n + 1, p => by
    by_cases y : r p = -1
    · rw [nextR, if_pos y]
      rcases nextR_b (r := r) n (p + 1) with e | ⟨e1_w, e2_w, e3_w⟩
      · exact Or.inl e
      · exact Or.inr ⟨by omega, by omega, e3_w⟩
    · rw [nextR, if_neg y]
      exact Or.inr ⟨by omega, by omega, y⟩
theorem lastR_cg {r q : Nat → Int} : ∀ k, (∀ i, i < k → r i = q i) → lastR r k = lastR q k
  | 0, _ => rfl
  | k + 1, z => by rw [lastR, lastR, lastR_cg k (fun i y => z i (by omega)), z k (Nat.lt_succ_self k)]
theorem nextR_cg {r q : Nat → Int} : ∀ n p, (∀ i, p ≤ i → i < p + n → r i = q i) → nextR r n p = nextR q n p
  | 0, _, _ => rfl
  | n + 1, p, z => by rw [nextR, nextR, nextR_cg n (p + 1) (fun i y w => z i (by omega) (by omega)), z p (Nat.le_refl p) (by omega)]
end SUMS
section CUTS
variable {f : List Int} {r : Nat → Int} {i j k : Nat}
theorem upT_st (hf : ∀ v ∈ f, 0 ≤ v ∧ v ≤ 99) (q : Nat) : 0 ≤ f.getD (q % f.length) 0 ∧ f.getD (q % f.length) 0 ≤ 99 := by
  rw [List.getD_eq_getElem?_getD]
  cases e : f[q % f.length]? with
  | none => exact ⟨by decide, by decide⟩
  | some v => exact hf v (List.mem_of_getElem? e)
theorem upT_mo (hf : ∀ v ∈ f, 0 ≤ v ∧ v ≤ 99) : ∀ d i, upT f i ≤ upT f (i + d) ∧ upT f (i + d) ≤ upT f i + 99 * (d : Int)
  | 0, i => by
    rw [Nat.add_zero]
    omega
  | d + 1, i => by
    obtain ⟨a, b⟩ := upT_mo hf d i
    obtain ⟨c, e⟩ := upT_st hf (i + d)
    rw [show i + (d + 1) = (i + d) + 1 from rfl, upT]
    omega
theorem upT_nn (hf : ∀ v ∈ f, 0 ≤ v ∧ v ≤ 99) (q : Nat) : 0 ≤ upT f q ∧ upT f q ≤ 99 * (q : Int) := by
  have := upT_mo hf q 0
  rw [Nat.zero_add] at this
  have e : upT f 0 = 0 := rfl
  omega
theorem advS_b {a b : Int} (ha_w : 0 ≤ a ∧ a ≤ 9999) (hb_w : 0 ≤ b ∧ b ≤ 9999) : 0 ≤ advS a b ∧ advS a b ≤ 9999 := by
  unfold advS
  split <;> omega
/-- a part of a whole_w of what isn't below_w 0 -/
theorem part_b {x p w : Int} (hx : 0 ≤ x) (hp : 0 ≤ p) (hw : p ≤ w) (w0_w : 0 < w) : 0 ≤ x * p / w ∧ x * p / w ≤ x := by
  refine ⟨Int.ediv_nonneg (Int.mul_nonneg hx hp) (by omega), ?_⟩
  have e : x * p ≤ x * w := Int.mul_le_mul_of_nonneg_left hw hx
  have := Int.ediv_le_ediv w0_w e
  rw [Int.mul_ediv_cancel x (by omega)] at this
  exact this
theorem cutS_b (hf : ∀ v ∈ f, 0 ≤ v ∧ v ≤ 99) (hi_w : 0 ≤ r i ∧ r i ≤ 9999) (hj : 0 ≤ r j ∧ r j ≤ 9999) (h1 : i ≤ k) (h2 : k ≤ j) (h3 : i < j) : 0 ≤ cutS f r i j k ∧ cutS f r i j k ≤ 9999 := by
  obtain ⟨a0_w, a1_w⟩ := advS_b hi_w hj
  obtain ⟨u0, -⟩ := upT_mo hf (k - i) i
  obtain ⟨u1, -⟩ := upT_mo hf (j - k) k
  rw [show i + (k - i) = k by omega] at u0
  rw [show k + (j - k) = j by omega] at u1
  unfold cutS
  split
  · have := part_b a0_w (p := (k : Int) - (i : Int)) (w := (j : Int) - (i : Int)) (by omega) (by omega) (by omega)
    omega
  · have := part_b a0_w (p := upT f k - upT f i) (w := upT f j - upT f i) (by omega) (by omega) (by omega)
    omega
end CUTS
end
section
/-! ===== what a told_w grid is_w (pure) ===== -/
theorem eB_ok2 {α β : Type} {x : XZ α} {f : α → XZ β} {b : β} (e : eB x f = .ok b) : ∃ a, x = .ok a ∧ f a = .ok b := eB_ok e
section WFS
variable {S P V W : Nat → Int} {D : DD} {i : Nat}
theorem sNum_b {lo_w hi_w : Int} {a : Int × Nat} (e : sNum S P V lo_w hi_w i = .ok a) : lo_w ≤ a.1 ∧ a.1 ≤ hi_w := by
  unfold sNum at e
  split at e
  · cases e
  · split at e
    · cases e
    · rename_i z
      cases e
      show lo_w ≤ V i ∧ V i ≤ hi_w
      omega
theorem sTold_b {l : List Int} {a : Int × Nat} (e : sTold S P V W l i = .ok a) : 0 ≤ a.1 ∧ a.1 < (l.length : Int) := by
  unfold sTold at e
  split at e
  · cases e
  · split at e
    · cases e
    · rename_i z
      cases e
      show 0 ≤ nmAt l (V i) ∧ nmAt l (V i) < (l.length : Int)
      have h1 : nmAt l (V i) < (l.length : Int) := lst_lt l.length
      omega
theorem sOne_b {a n : Nat} {x : Int × Nat} (e : sOne S P V W a n i = .ok x) : 0 ≤ x.1 ∧ x.1 < (n : Int) := by
  unfold sOne at e
  split at e
  · cases e
  · rename_i z
    cases e
    show 0 ≤ wHere S V W a n i ∧ wHere S V W a n i < (n : Int)
    have h1 : wHere S V W a n i < (n : Int) := lst_lt n
    omega
theorem wH_lt {a n : Nat} : wHere S V W a n i < (n : Int) := lst_lt n
theorem sRow_b {hi_w : Int} : ∀ (k : Nat) (l : List Int) (i : Nat) (r : List Int × Nat), sRow S P V hi_w k l i = .ok r → (∀ v ∈ l, 0 ≤ v ∧ v ≤ hi_w) → l.length ≤ 12 → (∀ v ∈ r.1, 0 ≤ v ∧ v ≤ hi_w) ∧ r.1.length ≤ 12 ∧ (l ≠ [] ∨ 0 < k → 1 ≤ r.1.length)
  | 0, l, i, r, e, h1, h2 => by
    unfold sRow at e
    cases e
    refine ⟨h1, h2, fun y => ?_⟩
    rcases y with y | y
    · exact List.length_pos_iff.mpr y
    · exact absurd y (Nat.lt_irrefl 0)
  | k + 1, l, i, r, e, h1, h2 => by
    unfold sRow at e
    split at e
    · split at e
      · cases e
      · rename_i y
        cases e
        exact ⟨h1, h2, fun _ => List.length_pos_iff.mpr y⟩
    · split at e
      · cases e
      · rename_i y
        split at e
        · cases e
        · rename_i z
          have hl : (l ++ [V i]).length = l.length + 1 := by rw [List.length_append]; rfl
          obtain ⟨a, b, c⟩ := sRow_b k (l ++ [V i]) (i + 1) r e (fun v hv => by
            rcases List.mem_append.mp hv with hv | hv
            · exact h1 v hv
            · rw [List.mem_singleton.mp hv]
              omega) (by omega)
          exact ⟨a, b, fun _ => c (Or.inl (fun w => by rw [w] at hl; exact absurd hl (by simp)))⟩
/-- a law's codes_w -/
def pG (x : XZ (List Int × Nat)) : Prop := ∀ r, x = .ok r → ∀ v ∈ r.1, gdX v
theorem pG_er {e : Int} : pG (.error e) := fun r h => by cases h
theorem app_g {l l' : List Int} (a : ∀ v ∈ l, gdX v) (b : ∀ v ∈ l', gdX v) : ∀ v ∈ l ++ l', gdX v := fun v h => (List.mem_append.mp h).elim (a v) (b v)
theorem one_g {o : Int} (a : gdX o) : ∀ v ∈ [o], gdX v := fun v h => by
  rw [List.mem_singleton.mp h]
  exact a
theorem sLoop_g {sub : Nat → XZ (List Int × Nat)} {op_w : Nat → Option Int} (hs : ∀ i, pG (sub i)) (ho : ∀ i o, op_w i = some o → gdX o) : ∀ (k : Nat) (c : List Int) (i : Nat), (∀ v ∈ c, gdX v) → pG (sLoop sub op_w k c i)
  | 0, c, i, hc_w => fun r e => by
    unfold sLoop at e
    cases e
    exact hc_w
  | k + 1, c, i, hc_w => fun r e => by
    unfold sLoop at e
    split at e
    · cases e
      exact hc_w
    · rename_i o eo
      obtain ⟨q, e1_w, e2_w⟩ := eB_ok2 e
      exact sLoop_g hs ho k _ _ (app_g hc_w (app_g (hs _ q e1_w) (one_g (ho _ _ eo)))) r e2_w
theorem opT_g : ∀ i o, opT S V i = some o → gdX o := fun i o e => by
  unfold opT at e
  split at e
  · cases e
    exact Or.inr (Or.inr (Or.inr (Or.inr (Or.inr ⟨by decide, by decide⟩))))
  · cases e
theorem opA_g : ∀ i o, opA S V i = some o → gdX o := fun i o e => by
  unfold opA at e
  split at e
  · cases e
    exact Or.inr (Or.inr (Or.inr (Or.inr (Or.inr ⟨by decide, by decide⟩))))
  · split at e
    · cases e
      exact Or.inr (Or.inr (Or.inr (Or.inr (Or.inr ⟨by decide, by decide⟩))))
    · cases e
theorem opC_g : ∀ i o, opC S V i = some o → gdX o := fun i o e => by
  unfold opC at e
  split at e
  · cases e
    exact Or.inr (Or.inr (Or.inr (Or.inr (Or.inr ⟨by decide, by decide⟩))))
  · split at e
    · cases e
      exact Or.inr (Or.inr (Or.inr (Or.inr (Or.inr ⟨by decide, by decide⟩))))
    · cases e
theorem opL_g : ∀ i o, opL S V W i = some o → gdX o := fun i o e => by
  unfold opL at e
  split at e
  · cases e
    exact Or.inr (Or.inr (Or.inr (Or.inr (Or.inr ⟨by decide, by decide⟩))))
  · split at e
    · cases e
      exact Or.inr (Or.inr (Or.inr (Or.inr (Or.inr ⟨by decide, by decide⟩))))
    · cases e
theorem sProd_g {part : Nat → XZ (List Int × Nat)} (hp : ∀ i, pG (part i)) : ∀ i, pG (sProd S V part i) := fun i r e => by
  obtain ⟨q, e1_w, e2_w⟩ := eB_ok2 e
  exact sLoop_g hp opT_g _ _ _ (hp _ q e1_w) r e2_w
theorem sSums_g {part : Nat → XZ (List Int × Nat)} (hp : ∀ i, pG (part i)) : ∀ i, pG (sSums S V part i) := fun i r e => by
  obtain ⟨q, e1_w, e2_w⟩ := eB_ok2 e
  exact sLoop_g (sProd_g hp) opA_g _ _ _ (sProd_g hp _ q e1_w) r e2_w
theorem sTest_g {part : Nat → XZ (List Int × Nat)} (hp : ∀ i, pG (part i)) : ∀ i, pG (sTest S V part i) := fun i r e => by
  obtain ⟨q, e1_w, e2_w⟩ := eB_ok2 e
  have h1 := sSums_g (S := S) (V := V) hp _ q e1_w
  split at e2_w
  · cases e2_w
    exact h1
  · rename_i o eo
    obtain ⟨q2_w, e3_w, e4_w⟩ := eB_ok2 e2_w
    cases e4_w
    exact app_g h1 (app_g (sSums_g (S := S) (V := V) hp _ q2_w e3_w) (one_g (opC_g _ _ eo)))
theorem sAll_g {part : Nat → XZ (List Int × Nat)} (hp : ∀ i, pG (part i)) : ∀ i, pG (sAll S V W part i) := fun i r e => by
  obtain ⟨q, e1_w, e2_w⟩ := eB_ok2 e
  exact sLoop_g (sTest_g hp) opL_g _ _ _ (sTest_g hp _ q e1_w) r e2_w
theorem sPart_g {allN partN : Nat → XZ (List Int × Nat)} (ha_w : ∀ i, pG (allN i)) (hp : ∀ i, pG (partN i)) : ∀ i, pG (sPart S P V W allN partN i) := fun i r e => by
  unfold sPart at e
  split at e
  · cases e
  · rename_i y
    split at e
    · obtain ⟨q, e1_w, e2_w⟩ := eB_ok2 e
      cases e2_w
      exact app_g (hp _ q e1_w) (one_g (Or.inr (Or.inr (Or.inr (Or.inr (Or.inr ⟨by decide, by decide⟩))))))
    · rename_i y1
      split at e
      · obtain ⟨q, e1_w, e2_w⟩ := eB_ok2 e
        obtain ⟨j, e3_w, e4_w⟩ := eB_ok2 e2_w
        cases e4_w
        exact ha_w _ q e1_w
      · rename_i y2
        cases e
        refine one_g ?_
        split
        · refine Or.inl ?_
          omega
        · rename_i y3
          have f4_w : fct S V W i < ((4 : Nat) : Int) := wH_lt (a := 20) (n := 4)
          have f0_w : 0 ≤ fct S V W i := by
            rcases Classical.not_not.mp y with z | z | z | z
            · exact absurd z y3
            · exact z
            · exact absurd z y2
            · exact absurd z y1
          unfold gdX
          omega
theorem sPart0_g : ∀ i, pG (sPart0 S P V W i) := fun i => by
  unfold sPart0
  split
  · exact pG_er
  · exact pG_er
theorem sD_g : ∀ k, (∀ i, pG ((sD S P V W k).1 i)) ∧ ∀ i, pG ((sD S P V W k).2 i)
  | 0 => ⟨sAll_g sPart0_g, sPart0_g⟩
  | k + 1 => by
    obtain ⟨a, b⟩ := sD_g k
    exact ⟨sAll_g (sPart_g a b), sPart_g a b⟩
theorem wfd_0 : WFD DD0 := ⟨⟨by decide, by decide, by decide, by decide, by decide⟩, fun x h => (by cases h), fun x h => (by cases h), fun l h => (by cases h)⟩
theorem sLine_w {r : DD × Nat} (w : WFD D) (e : sLine S P V W D i = .ok r) : WFD r.1 := by
  obtain ⟨⟨w1_w, w2_w, w3_w, w4_w, w5⟩, wc, wm, wl⟩ := w
  unfold sLine at e
  split at e
  · unfold sClass at e
    split at e
    · cases e
    · rename_i y
      obtain ⟨a, -, e⟩ := eB_ok2 e
      obtain ⟨j, -, e⟩ := eB_ok2 e
      obtain ⟨b, eb, e⟩ := eB_ok2 e
      obtain ⟨j2_w, -, e⟩ := eB_ok2 e
      obtain ⟨q, eq, e⟩ := eB_ok2 e
      cases e
      obtain ⟨b0, b1⟩ := sNum_b eb
      obtain ⟨q0, q1_w, q2_w⟩ := sRow_b _ _ _ _ eq (fun v h => (by cases h)) (Nat.zero_le _)
      have hl : (D.2.2.1 ++ [(a.1, b.1, q.1)]).length = D.2.2.1.length + 1 := by rw [List.length_append]; rfl
      refine ⟨⟨w1_w, w2_w, by show (D.2.2.1 ++ [(a.1, b.1, q.1)]).length ≤ 4; omega, w4_w, w5⟩, fun x h => ?_, fun x h => ?_, wl⟩
      · rcases List.mem_append.mp h with h | h
        · exact wc x h
        · rw [List.mem_singleton.mp h]
          exact ⟨b0, b1, q2_w (Or.inr (by decide)), q1_w, q0⟩
      · obtain ⟨z1, z2, z3⟩ := wm x h
        refine ⟨⟨z1.1, ?_⟩, z2, z3⟩
        show x.2.2.1 < ((D.2.2.1 ++ [(a.1, b.1, q.1)]).length : Int)
        have := z1.2
        omega
  · split at e
    · unfold sSup at e
      split at e
      · cases e
      · rename_i y
        obtain ⟨a, -, e⟩ := eB_ok2 e
        cases e
        have hl : (D.2.2.2.1 ++ [a.1]).length = D.2.2.2.1.length + 1 := by rw [List.length_append]; rfl
        refine ⟨⟨w1_w, w2_w, w3_w, by show (D.2.2.2.1 ++ [a.1]).length ≤ 4; omega, w5⟩, wc, fun x h => ?_, wl⟩
        obtain ⟨z1, z2, z3⟩ := wm x h
        refine ⟨z1, ⟨z2.1, ?_⟩, z3⟩
        show x.2.2.2 < ((D.2.2.2.1 ++ [a.1]).length : Int)
        have := z2.2
        omega
    · split at e
      · unfold sMeter at e
        split at e
        · cases e
        · rename_i y
          obtain ⟨a, -, e⟩ := eB_ok2 e
          obtain ⟨k, ek, e⟩ := eB_ok2 e
          obtain ⟨j, -, e⟩ := eB_ok2 e
          obtain ⟨c, ec, e⟩ := eB_ok2 e
          obtain ⟨j2_w, -, e⟩ := eB_ok2 e
          obtain ⟨s, es, e⟩ := eB_ok2 e
          cases e
          obtain ⟨k0_w, k1_w⟩ := sOne_b ek
          obtain ⟨c0, c1_w⟩ := sTold_b ec
          obtain ⟨s0, s1_w⟩ := sTold_b es
          rw [List.length_map] at c1_w
          have hl : (D.2.2.2.2.1 ++ [(a.1, k.1, c.1, s.1)]).length = D.2.2.2.2.1.length + 1 := by rw [List.length_append]; rfl
          refine ⟨⟨w1_w, w2_w, w3_w, w4_w, by show (D.2.2.2.2.1 ++ [(a.1, k.1, c.1, s.1)]).length ≤ 6; omega⟩, wc, fun x h => ?_, wl⟩
          rcases List.mem_append.mp h with h | h
          · exact wm x h
          · rw [List.mem_singleton.mp h]
            exact ⟨⟨c0, c1_w⟩, ⟨s0, s1_w⟩, k0_w, by show k.1 ≤ 3; omega⟩
      · split at e
        · unfold sSlots at e
          split at e
          · cases e
          · obtain ⟨a, ea, e⟩ := eB_ok2 e
            cases e
            obtain ⟨a0_w, a1_w⟩ := sNum_b ea
            exact ⟨⟨by show 0 ≤ a.1; omega, a1_w, w3_w, w4_w, w5⟩, wc, wm, wl⟩
        · split at e
          · unfold sFeed at e
            split at e
            · cases e
            · obtain ⟨q, -, e⟩ := eB_ok2 e
              cases e
              exact ⟨⟨w1_w, w2_w, w3_w, w4_w, w5⟩, wc, wm, wl⟩
          · split at e
            · unfold sLaw at e
              split at e
              · cases e
              · obtain ⟨q, eq, e⟩ := eB_ok2 e
                cases e
                exact ⟨⟨w1_w, w2_w, w3_w, w4_w, w5⟩, wc, wm, fun l h => by
                  cases h
                  exact (sD_g 5).1 _ q eq⟩
            · cases e
theorem sGrid_w : ∀ (n : Nat) (D : DD) (i : Nat) (D' : DD), WFD D → sGrid S P V W n D i = .ok D' → WFD D'
  | 0, D, i, D', w, e => by
    unfold sGrid at e
    cases e
    exact w
  | n + 1, D, i, D', w, e => by
    unfold sGrid at e
    split at e
    · cases e
      exact w
    · obtain ⟨q, e1_w, e2_w⟩ := eB_ok2 e
      obtain ⟨j, -, e3_w⟩ := eB_ok2 e2_w
      exact sGrid_w n q.1 j D' (sLine_w w e1_w) e3_w
end WFS
theorem RF.w {D : DD} {h : XH} (r : RF D h) : WFD D := by
  rcases r.1 with e | ⟨S, P, V, W, n, i, e⟩
  · rw [e]
    exact wfd_0
  · exact sGrid_w n DD0 i D wfd_0 e
end
section
/-! ===== contracts: the class: last_w and next reading_w (written_w by wip/new_w/gen_h2.py) ===== -/
def k150 : KT := fun av h Q => match av with
  | [o, m, p] => ∃ b mn_w pn : Nat, isLb b ∧ o = (b : Int) ∧ m = (mn_w : Int) ∧ mn_w < 6 ∧ p = (pn : Int) ∧ pn < 13 ∧ Q 1 [lastR (fun k => h (b + 2) (13 * mn_w + k)) (pn + 1)] h
  | _ => False
def k151 : KT := fun av h Q => match av with
  | [o, m, p, l] => ∃ b mn_w pn ln : Nat, isLb b ∧ o = (b : Int) ∧ m = (mn_w : Int) ∧ mn_w < 6 ∧ p = (pn : Int) ∧ l = (ln : Int) ∧ pn ≤ ln ∧ ln < 13 ∧ Q 1 [nextR (fun k => h (b + 2) (13 * mn_w + k)) (ln - pn) (pn + 1)] h
  | _ => False
section KKH2
variable {h : XH} {Q : Nat → List Int → XH → Prop} {o m p l : Int}
theorem kk_150 : k150 [o, m, p] h Q = ∃ b mn_w pn : Nat, isLb b ∧ o = (b : Int) ∧ m = (mn_w : Int) ∧ mn_w < 6 ∧ p = (pn : Int) ∧ pn < 13 ∧ Q 1 [lastR (fun k => h (b + 2) (13 * mn_w + k)) (pn + 1)] h := id rfl
theorem kk_151 : k151 [o, m, p, l] h Q = ∃ b mn_w pn ln : Nat, isLb b ∧ o = (b : Int) ∧ m = (mn_w : Int) ∧ mn_w < 6 ∧ p = (pn : Int) ∧ l = (ln : Int) ∧ pn ≤ ln ∧ ln < 13 ∧ Q 1 [nextR (fun k => h (b + 2) (13 * mn_w + k)) (ln - pn) (pn + 1)] h := id rfl
end KKH2
def CS48 : CSt := fun f => match f with
  | 150 => k150
  | 151 => k151
  | _ => CS47 f
theorem cs48_54 {av : List Int} {h : XH} {Q : Nat → List Int → XH → Prop} : CS48 54 av h Q = k54 av h Q := id rfl
theorem cs48_55 {av : List Int} {h : XH} {Q : Nat → List Int → XH → Prop} : CS48 55 av h Q = k55 av h Q := id rfl
theorem cs48_68 {av : List Int} {h : XH} {Q : Nat → List Int → XH → Prop} : CS48 68 av h Q = k68 av h Q := id rfl
theorem cs48_69 {av : List Int} {h : XH} {Q : Nat → List Int → XH → Prop} : CS48 69 av h Q = k69 av h Q := id rfl
theorem cs48_70 {av : List Int} {h : XH} {Q : Nat → List Int → XH → Prop} : CS48 70 av h Q = k70 av h Q := id rfl
theorem cs48_71 {av : List Int} {h : XH} {Q : Nat → List Int → XH → Prop} : CS48 71 av h Q = k71 av h Q := id rfl
theorem cs48_72 {av : List Int} {h : XH} {Q : Nat → List Int → XH → Prop} : CS48 72 av h Q = k72 av h Q := id rfl
theorem cs48_73 {av : List Int} {h : XH} {Q : Nat → List Int → XH → Prop} : CS48 73 av h Q = k73 av h Q := id rfl
theorem cs48_74 {av : List Int} {h : XH} {Q : Nat → List Int → XH → Prop} : CS48 74 av h Q = k74 av h Q := id rfl
theorem cs48_75 {av : List Int} {h : XH} {Q : Nat → List Int → XH → Prop} : CS48 75 av h Q = k75 av h Q := id rfl
theorem cs48_186 {av : List Int} {h : XH} {Q : Nat → List Int → XH → Prop} : CS48 186 av h Q = k186 av h Q := id rfl
theorem cs48_187 {av : List Int} {h : XH} {Q : Nat → List Int → XH → Prop} : CS48 187 av h Q = k187 av h Q := id rfl
theorem cs48_188 {av : List Int} {h : XH} {Q : Nat → List Int → XH → Prop} : CS48 188 av h Q = k188 av h Q := id rfl
theorem cs48_189 {av : List Int} {h : XH} {Q : Nat → List Int → XH → Prop} : CS48 189 av h Q = k189 av h Q := id rfl
theorem cs48_191 {av : List Int} {h : XH} {Q : Nat → List Int → XH → Prop} : CS48 191 av h Q = k191 av h Q := id rfl
theorem cs48_192 {av : List Int} {h : XH} {Q : Nat → List Int → XH → Prop} : CS48 192 av h Q = k192 av h Q := id rfl
theorem cs48_193 {av : List Int} {h : XH} {Q : Nat → List Int → XH → Prop} : CS48 193 av h Q = k193 av h Q := id rfl
theorem cs48_198 {av : List Int} {h : XH} {Q : Nat → List Int → XH → Prop} : CS48 198 av h Q = k198 av h Q := id rfl
theorem cs48_207 {av : List Int} {h : XH} {Q : Nat → List Int → XH → Prop} : CS48 207 av h Q = k207 av h Q := id rfl
theorem cs48_195 {av : List Int} {h : XH} {Q : Nat → List Int → XH → Prop} : CS48 195 av h Q = k195 av h Q := id rfl
theorem cs48_196 {av : List Int} {h : XH} {Q : Nat → List Int → XH → Prop} : CS48 196 av h Q = k196 av h Q := id rfl
theorem cs48_201 {av : List Int} {h : XH} {Q : Nat → List Int → XH → Prop} : CS48 201 av h Q = k201 av h Q := id rfl
theorem cs48_203 {av : List Int} {h : XH} {Q : Nat → List Int → XH → Prop} : CS48 203 av h Q = k203 av h Q := id rfl
theorem cs48_204 {av : List Int} {h : XH} {Q : Nat → List Int → XH → Prop} : CS48 204 av h Q = k204 av h Q := id rfl
theorem cs48_194 {av : List Int} {h : XH} {Q : Nat → List Int → XH → Prop} : CS48 194 av h Q = k194 av h Q := id rfl
theorem cs48_197 {av : List Int} {h : XH} {Q : Nat → List Int → XH → Prop} : CS48 197 av h Q = k197 av h Q := id rfl
theorem cs48_200 {av : List Int} {h : XH} {Q : Nat → List Int → XH → Prop} : CS48 200 av h Q = k200 av h Q := id rfl
theorem cs48_202 {av : List Int} {h : XH} {Q : Nat → List Int → XH → Prop} : CS48 202 av h Q = k202 av h Q := id rfl
theorem cs48_205 {av : List Int} {h : XH} {Q : Nat → List Int → XH → Prop} : CS48 205 av h Q = k205 av h Q := id rfl
theorem cs48_208 {av : List Int} {h : XH} {Q : Nat → List Int → XH → Prop} : CS48 208 av h Q = k208 av h Q := id rfl
theorem cs48_209 {av : List Int} {h : XH} {Q : Nat → List Int → XH → Prop} : CS48 209 av h Q = k209 av h Q := id rfl
theorem cs48_211 {av : List Int} {h : XH} {Q : Nat → List Int → XH → Prop} : CS48 211 av h Q = k211 av h Q := id rfl
theorem cs48_216 {av : List Int} {h : XH} {Q : Nat → List Int → XH → Prop} : CS48 216 av h Q = k216 av h Q := id rfl
theorem cs48_217 {av : List Int} {h : XH} {Q : Nat → List Int → XH → Prop} : CS48 217 av h Q = k217 av h Q := id rfl
theorem cs48_218 {av : List Int} {h : XH} {Q : Nat → List Int → XH → Prop} : CS48 218 av h Q = k218 av h Q := id rfl
theorem cs48_219 {av : List Int} {h : XH} {Q : Nat → List Int → XH → Prop} : CS48 219 av h Q = k219 av h Q := id rfl
theorem cs48_220 {av : List Int} {h : XH} {Q : Nat → List Int → XH → Prop} : CS48 220 av h Q = k220 av h Q := id rfl
theorem cs48_221 {av : List Int} {h : XH} {Q : Nat → List Int → XH → Prop} : CS48 221 av h Q = k221 av h Q := id rfl
theorem cs48_210 {av : List Int} {h : XH} {Q : Nat → List Int → XH → Prop} : CS48 210 av h Q = k210 av h Q := id rfl
theorem cs48_212 {av : List Int} {h : XH} {Q : Nat → List Int → XH → Prop} : CS48 212 av h Q = k212 av h Q := id rfl
theorem cs48_213 {av : List Int} {h : XH} {Q : Nat → List Int → XH → Prop} : CS48 213 av h Q = k213 av h Q := id rfl
theorem cs48_190 {av : List Int} {h : XH} {Q : Nat → List Int → XH → Prop} : CS48 190 av h Q = k190 av h Q := id rfl
theorem cs48_199 {av : List Int} {h : XH} {Q : Nat → List Int → XH → Prop} : CS48 199 av h Q = k199 av h Q := id rfl
theorem cs48_225 {av : List Int} {h : XH} {Q : Nat → List Int → XH → Prop} : CS48 225 av h Q = k225 av h Q := id rfl
theorem cs48_226 {av : List Int} {h : XH} {Q : Nat → List Int → XH → Prop} : CS48 226 av h Q = k226 av h Q := id rfl
theorem cs48_227 {av : List Int} {h : XH} {Q : Nat → List Int → XH → Prop} : CS48 227 av h Q = k227 av h Q := id rfl
theorem cs48_228 {av : List Int} {h : XH} {Q : Nat → List Int → XH → Prop} : CS48 228 av h Q = k228 av h Q := id rfl
theorem cs48_333 {av : List Int} {h : XH} {Q : Nat → List Int → XH → Prop} : CS48 333 av h Q = k333 av h Q := id rfl
theorem cs48_67 {av : List Int} {h : XH} {Q : Nat → List Int → XH → Prop} : CS48 67 av h Q = k67 av h Q := id rfl
theorem cs48_65 {av : List Int} {h : XH} {Q : Nat → List Int → XH → Prop} : CS48 65 av h Q = k65 av h Q := id rfl
theorem cs48_66 {av : List Int} {h : XH} {Q : Nat → List Int → XH → Prop} : CS48 66 av h Q = k66 av h Q := id rfl
theorem cs48_64 {av : List Int} {h : XH} {Q : Nat → List Int → XH → Prop} : CS48 64 av h Q = k64 av h Q := id rfl
theorem cs48_63 {av : List Int} {h : XH} {Q : Nat → List Int → XH → Prop} : CS48 63 av h Q = k63 av h Q := id rfl
theorem cs48_77 {av : List Int} {h : XH} {Q : Nat → List Int → XH → Prop} : CS48 77 av h Q = k77 av h Q := id rfl
theorem cs48_76 {av : List Int} {h : XH} {Q : Nat → List Int → XH → Prop} : CS48 76 av h Q = k76 av h Q := id rfl
theorem cs48_133 {av : List Int} {h : XH} {Q : Nat → List Int → XH → Prop} : CS48 133 av h Q = k133 av h Q := id rfl
theorem cs48_134 {av : List Int} {h : XH} {Q : Nat → List Int → XH → Prop} : CS48 134 av h Q = k134 av h Q := id rfl
theorem cs48_135 {av : List Int} {h : XH} {Q : Nat → List Int → XH → Prop} : CS48 135 av h Q = k135 av h Q := id rfl
theorem cs48_136 {av : List Int} {h : XH} {Q : Nat → List Int → XH → Prop} : CS48 136 av h Q = k136 av h Q := id rfl
theorem cs48_138 {av : List Int} {h : XH} {Q : Nat → List Int → XH → Prop} : CS48 138 av h Q = k138 av h Q := id rfl
theorem cs48_139 {av : List Int} {h : XH} {Q : Nat → List Int → XH → Prop} : CS48 139 av h Q = k139 av h Q := id rfl
theorem cs48_105 {av : List Int} {h : XH} {Q : Nat → List Int → XH → Prop} : CS48 105 av h Q = k105 av h Q := id rfl
theorem cs48_102 {av : List Int} {h : XH} {Q : Nat → List Int → XH → Prop} : CS48 102 av h Q = k102 av h Q := id rfl
theorem cs48_103 {av : List Int} {h : XH} {Q : Nat → List Int → XH → Prop} : CS48 103 av h Q = k103 av h Q := id rfl
theorem cs48_104 {av : List Int} {h : XH} {Q : Nat → List Int → XH → Prop} : CS48 104 av h Q = k104 av h Q := id rfl
theorem cs48_106 {av : List Int} {h : XH} {Q : Nat → List Int → XH → Prop} : CS48 106 av h Q = k106 av h Q := id rfl
theorem cs48_140 {av : List Int} {h : XH} {Q : Nat → List Int → XH → Prop} : CS48 140 av h Q = k140 av h Q := id rfl
theorem cs48_137 {av : List Int} {h : XH} {Q : Nat → List Int → XH → Prop} : CS48 137 av h Q = k137 av h Q := id rfl
theorem cs48_127 {av : List Int} {h : XH} {Q : Nat → List Int → XH → Prop} : CS48 127 av h Q = k127 av h Q := id rfl
theorem cs48_56 {av : List Int} {h : XH} {Q : Nat → List Int → XH → Prop} : CS48 56 av h Q = k56 av h Q := id rfl
theorem cs48_57 {av : List Int} {h : XH} {Q : Nat → List Int → XH → Prop} : CS48 57 av h Q = k57 av h Q := id rfl
theorem cs48_79 {av : List Int} {h : XH} {Q : Nat → List Int → XH → Prop} : CS48 79 av h Q = k79 av h Q := id rfl
theorem cs48_101 {av : List Int} {h : XH} {Q : Nat → List Int → XH → Prop} : CS48 101 av h Q = k101 av h Q := id rfl
theorem cs48_96 {av : List Int} {h : XH} {Q : Nat → List Int → XH → Prop} : CS48 96 av h Q = k96 av h Q := id rfl
theorem cs48_99 {av : List Int} {h : XH} {Q : Nat → List Int → XH → Prop} : CS48 99 av h Q = k99c av h Q := id rfl
theorem cs48_100 {av : List Int} {h : XH} {Q : Nat → List Int → XH → Prop} : CS48 100 av h Q = k100 av h Q := id rfl
theorem cs48_98 {av : List Int} {h : XH} {Q : Nat → List Int → XH → Prop} : CS48 98 av h Q = k98 av h Q := id rfl
theorem cs48_122 {av : List Int} {h : XH} {Q : Nat → List Int → XH → Prop} : CS48 122 av h Q = k122 av h Q := id rfl
theorem cs48_123 {av : List Int} {h : XH} {Q : Nat → List Int → XH → Prop} : CS48 123 av h Q = k123 av h Q := id rfl
theorem cs48_124 {av : List Int} {h : XH} {Q : Nat → List Int → XH → Prop} : CS48 124 av h Q = k124 av h Q := id rfl
theorem cs48_125 {av : List Int} {h : XH} {Q : Nat → List Int → XH → Prop} : CS48 125 av h Q = k125 av h Q := id rfl
theorem cs48_126 {av : List Int} {h : XH} {Q : Nat → List Int → XH → Prop} : CS48 126 av h Q = k126 av h Q := id rfl
theorem cs48_84 {av : List Int} {h : XH} {Q : Nat → List Int → XH → Prop} : CS48 84 av h Q = k84 av h Q := id rfl
theorem cs48_82 {av : List Int} {h : XH} {Q : Nat → List Int → XH → Prop} : CS48 82 av h Q = k82 av h Q := id rfl
theorem cs48_83 {av : List Int} {h : XH} {Q : Nat → List Int → XH → Prop} : CS48 83 av h Q = k83 av h Q := id rfl
theorem cs48_85 {av : List Int} {h : XH} {Q : Nat → List Int → XH → Prop} : CS48 85 av h Q = k85 av h Q := id rfl
theorem cs48_89 {av : List Int} {h : XH} {Q : Nat → List Int → XH → Prop} : CS48 89 av h Q = k89 av h Q := id rfl
theorem cs48_90 {av : List Int} {h : XH} {Q : Nat → List Int → XH → Prop} : CS48 90 av h Q = k90 av h Q := id rfl
theorem cs48_91 {av : List Int} {h : XH} {Q : Nat → List Int → XH → Prop} : CS48 91 av h Q = k91 av h Q := id rfl
theorem cs48_88 {av : List Int} {h : XH} {Q : Nat → List Int → XH → Prop} : CS48 88 av h Q = k88 av h Q := id rfl
theorem cs48_86 {av : List Int} {h : XH} {Q : Nat → List Int → XH → Prop} : CS48 86 av h Q = k86 av h Q := id rfl
theorem cs48_87 {av : List Int} {h : XH} {Q : Nat → List Int → XH → Prop} : CS48 87 av h Q = k87 av h Q := id rfl
theorem cs48_81 {av : List Int} {h : XH} {Q : Nat → List Int → XH → Prop} : CS48 81 av h Q = k81 av h Q := id rfl
theorem cs48_128 {av : List Int} {h : XH} {Q : Nat → List Int → XH → Prop} : CS48 128 av h Q = k128 av h Q := id rfl
theorem cs48_119 {av : List Int} {h : XH} {Q : Nat → List Int → XH → Prop} : CS48 119 av h Q = k119 av h Q := id rfl
theorem cs48_58 {av : List Int} {h : XH} {Q : Nat → List Int → XH → Prop} : CS48 58 av h Q = k58 av h Q := id rfl
theorem cs48_80 {av : List Int} {h : XH} {Q : Nat → List Int → XH → Prop} : CS48 80 av h Q = k80 av h Q := id rfl
theorem cs48_97 {av : List Int} {h : XH} {Q : Nat → List Int → XH → Prop} : CS48 97 av h Q = k97s av h Q := id rfl
theorem cs48_156 {av : List Int} {h : XH} {Q : Nat → List Int → XH → Prop} : CS48 156 av h Q = k156 av h Q := id rfl
theorem cs48_142 {av : List Int} {h : XH} {Q : Nat → List Int → XH → Prop} : CS48 142 av h Q = k142 av h Q := id rfl
theorem cs48_3 {av : List Int} {h : XH} {Q : Nat → List Int → XH → Prop} : CS48 3 av h Q = k3s av h Q := id rfl
theorem cs48_61 {av : List Int} {h : XH} {Q : Nat → List Int → XH → Prop} : CS48 61 av h Q = k61z av h Q := id rfl
theorem cs48_2 {av : List Int} {h : XH} {Q : Nat → List Int → XH → Prop} : CS48 2 av h Q = k2s av h Q := id rfl
theorem cs48_240 {av : List Int} {h : XH} {Q : Nat → List Int → XH → Prop} : CS48 240 av h Q = k240s av h Q := id rfl
theorem cs48_241 {av : List Int} {h : XH} {Q : Nat → List Int → XH → Prop} : CS48 241 av h Q = k241s av h Q := id rfl
theorem cs48_206 {av : List Int} {h : XH} {Q : Nat → List Int → XH → Prop} : CS48 206 av h Q = k206s av h Q := id rfl
theorem cs48_113 {av : List Int} {h : XH} {Q : Nat → List Int → XH → Prop} : CS48 113 av h Q = k113 av h Q := id rfl
theorem cs48_114 {av : List Int} {h : XH} {Q : Nat → List Int → XH → Prop} : CS48 114 av h Q = k114 av h Q := id rfl
theorem cs48_116 {av : List Int} {h : XH} {Q : Nat → List Int → XH → Prop} : CS48 116 av h Q = k116 av h Q := id rfl
theorem cs48_117 {av : List Int} {h : XH} {Q : Nat → List Int → XH → Prop} : CS48 117 av h Q = k117 av h Q := id rfl
theorem cs48_121 {av : List Int} {h : XH} {Q : Nat → List Int → XH → Prop} : CS48 121 av h Q = k121 av h Q := id rfl
theorem cs48_129 {av : List Int} {h : XH} {Q : Nat → List Int → XH → Prop} : CS48 129 av h Q = k129 av h Q := id rfl
theorem cs48_130 {av : List Int} {h : XH} {Q : Nat → List Int → XH → Prop} : CS48 130 av h Q = k130 av h Q := id rfl
theorem cs48_131 {av : List Int} {h : XH} {Q : Nat → List Int → XH → Prop} : CS48 131 av h Q = k131 av h Q := id rfl
theorem cs48_132 {av : List Int} {h : XH} {Q : Nat → List Int → XH → Prop} : CS48 132 av h Q = k132 av h Q := id rfl
theorem cs48_120 {av : List Int} {h : XH} {Q : Nat → List Int → XH → Prop} : CS48 120 av h Q = k120 av h Q := id rfl
theorem cs48_4 {av : List Int} {h : XH} {Q : Nat → List Int → XH → Prop} : CS48 4 av h Q = k4 av h Q := id rfl
theorem cs48_229 {av : List Int} {h : XH} {Q : Nat → List Int → XH → Prop} : CS48 229 av h Q = k229 av h Q := id rfl
theorem cs48_233 {av : List Int} {h : XH} {Q : Nat → List Int → XH → Prop} : CS48 233 av h Q = k233 av h Q := id rfl
theorem cs48_234 {av : List Int} {h : XH} {Q : Nat → List Int → XH → Prop} : CS48 234 av h Q = k234 av h Q := id rfl
theorem cs48_215 {av : List Int} {h : XH} {Q : Nat → List Int → XH → Prop} : CS48 215 av h Q = k215 av h Q := id rfl
theorem cs48_214 {av : List Int} {h : XH} {Q : Nat → List Int → XH → Prop} : CS48 214 av h Q = k214 av h Q := id rfl
theorem cs48_146 {av : List Int} {h : XH} {Q : Nat → List Int → XH → Prop} : CS48 146 av h Q = k146 av h Q := id rfl
theorem cs48_147 {av : List Int} {h : XH} {Q : Nat → List Int → XH → Prop} : CS48 147 av h Q = k147 av h Q := id rfl
theorem cs48_149 {av : List Int} {h : XH} {Q : Nat → List Int → XH → Prop} : CS48 149 av h Q = k149 av h Q := id rfl
theorem cs48_155 {av : List Int} {h : XH} {Q : Nat → List Int → XH → Prop} : CS48 155 av h Q = k155 av h Q := id rfl
theorem cs48_157 {av : List Int} {h : XH} {Q : Nat → List Int → XH → Prop} : CS48 157 av h Q = k157 av h Q := id rfl
theorem cs48_165 {av : List Int} {h : XH} {Q : Nat → List Int → XH → Prop} : CS48 165 av h Q = k165 av h Q := id rfl
theorem cs48_59 {av : List Int} {h : XH} {Q : Nat → List Int → XH → Prop} : CS48 59 av h Q = k59 av h Q := id rfl
theorem cs48_107 {av : List Int} {h : XH} {Q : Nat → List Int → XH → Prop} : CS48 107 av h Q = k107 av h Q := id rfl
theorem cs48_108 {av : List Int} {h : XH} {Q : Nat → List Int → XH → Prop} : CS48 108 av h Q = k108 av h Q := id rfl
theorem cs48_109 {av : List Int} {h : XH} {Q : Nat → List Int → XH → Prop} : CS48 109 av h Q = k109 av h Q := id rfl
theorem cs48_110 {av : List Int} {h : XH} {Q : Nat → List Int → XH → Prop} : CS48 110 av h Q = k110 av h Q := id rfl
theorem cs48_111 {av : List Int} {h : XH} {Q : Nat → List Int → XH → Prop} : CS48 111 av h Q = k111 av h Q := id rfl
theorem cs48_112 {av : List Int} {h : XH} {Q : Nat → List Int → XH → Prop} : CS48 112 av h Q = k112 av h Q := id rfl
theorem cs48_143 {av : List Int} {h : XH} {Q : Nat → List Int → XH → Prop} : CS48 143 av h Q = k143 av h Q := id rfl
theorem cs48_170 {av : List Int} {h : XH} {Q : Nat → List Int → XH → Prop} : CS48 170 av h Q = k170 av h Q := id rfl
theorem cs48_168 {av : List Int} {h : XH} {Q : Nat → List Int → XH → Prop} : CS48 168 av h Q = k168 av h Q := id rfl
theorem cs48_169 {av : List Int} {h : XH} {Q : Nat → List Int → XH → Prop} : CS48 169 av h Q = k169 av h Q := id rfl
theorem cs48_181 {av : List Int} {h : XH} {Q : Nat → List Int → XH → Prop} : CS48 181 av h Q = k181 av h Q := id rfl
theorem cs48_5 {av : List Int} {h : XH} {Q : Nat → List Int → XH → Prop} : CS48 5 av h Q = k5 av h Q := id rfl
theorem cs48_6 {av : List Int} {h : XH} {Q : Nat → List Int → XH → Prop} : CS48 6 av h Q = k6 av h Q := id rfl
theorem cs48_7 {av : List Int} {h : XH} {Q : Nat → List Int → XH → Prop} : CS48 7 av h Q = k7 av h Q := id rfl
theorem cs48_8 {av : List Int} {h : XH} {Q : Nat → List Int → XH → Prop} : CS48 8 av h Q = k8 av h Q := id rfl
theorem cs48_9 {av : List Int} {h : XH} {Q : Nat → List Int → XH → Prop} : CS48 9 av h Q = k9 av h Q := id rfl
theorem cs48_10 {av : List Int} {h : XH} {Q : Nat → List Int → XH → Prop} : CS48 10 av h Q = k10s av h Q := id rfl
theorem cs48_11 {av : List Int} {h : XH} {Q : Nat → List Int → XH → Prop} : CS48 11 av h Q = k11 av h Q := id rfl
theorem cs48_12 {av : List Int} {h : XH} {Q : Nat → List Int → XH → Prop} : CS48 12 av h Q = k12s av h Q := id rfl
theorem cs48_40 {av : List Int} {h : XH} {Q : Nat → List Int → XH → Prop} : CS48 40 av h Q = k40s av h Q := id rfl
theorem cs48_49 {av : List Int} {h : XH} {Q : Nat → List Int → XH → Prop} : CS48 49 av h Q = k49 av h Q := id rfl
theorem cs48_50 {av : List Int} {h : XH} {Q : Nat → List Int → XH → Prop} : CS48 50 av h Q = k50 av h Q := id rfl
theorem cs48_48 {av : List Int} {h : XH} {Q : Nat → List Int → XH → Prop} : CS48 48 av h Q = k48 av h Q := id rfl
theorem cs48_224 {av : List Int} {h : XH} {Q : Nat → List Int → XH → Prop} : CS48 224 av h Q = k224s av h Q := id rfl
theorem cs48_230 {av : List Int} {h : XH} {Q : Nat → List Int → XH → Prop} : CS48 230 av h Q = k230 av h Q := id rfl
theorem cs48_235 {av : List Int} {h : XH} {Q : Nat → List Int → XH → Prop} : CS48 235 av h Q = k235 av h Q := id rfl
theorem cs48_236 {av : List Int} {h : XH} {Q : Nat → List Int → XH → Prop} : CS48 236 av h Q = k236 av h Q := id rfl
theorem cs48_237 {av : List Int} {h : XH} {Q : Nat → List Int → XH → Prop} : CS48 237 av h Q = k237 av h Q := id rfl
theorem cs48_238 {av : List Int} {h : XH} {Q : Nat → List Int → XH → Prop} : CS48 238 av h Q = k238 av h Q := id rfl
theorem cs48_243 {av : List Int} {h : XH} {Q : Nat → List Int → XH → Prop} : CS48 243 av h Q = k243 av h Q := id rfl
theorem cs48_256 {av : List Int} {h : XH} {Q : Nat → List Int → XH → Prop} : CS48 256 av h Q = k256 av h Q := id rfl
theorem cs48_264 {av : List Int} {h : XH} {Q : Nat → List Int → XH → Prop} : CS48 264 av h Q = k264 av h Q := id rfl
theorem cs48_266 {av : List Int} {h : XH} {Q : Nat → List Int → XH → Prop} : CS48 266 av h Q = k266 av h Q := id rfl
theorem cs48_239 {av : List Int} {h : XH} {Q : Nat → List Int → XH → Prop} : CS48 239 av h Q = k239 av h Q := id rfl
theorem cs48_242 {av : List Int} {h : XH} {Q : Nat → List Int → XH → Prop} : CS48 242 av h Q = k242s av h Q := id rfl
theorem cs48_260 {av : List Int} {h : XH} {Q : Nat → List Int → XH → Prop} : CS48 260 av h Q = k260 av h Q := id rfl
theorem cs48_261 {av : List Int} {h : XH} {Q : Nat → List Int → XH → Prop} : CS48 261 av h Q = k261 av h Q := id rfl
theorem cs48_262 {av : List Int} {h : XH} {Q : Nat → List Int → XH → Prop} : CS48 262 av h Q = k262 av h Q := id rfl
theorem cs48_263 {av : List Int} {h : XH} {Q : Nat → List Int → XH → Prop} : CS48 263 av h Q = k263 av h Q := id rfl
theorem cs48_265 {av : List Int} {h : XH} {Q : Nat → List Int → XH → Prop} : CS48 265 av h Q = k265 av h Q := id rfl
theorem cs48_267 {av : List Int} {h : XH} {Q : Nat → List Int → XH → Prop} : CS48 267 av h Q = k267 av h Q := id rfl
theorem cs48_268 {av : List Int} {h : XH} {Q : Nat → List Int → XH → Prop} : CS48 268 av h Q = k268 av h Q := id rfl
theorem cs48_272 {av : List Int} {h : XH} {Q : Nat → List Int → XH → Prop} : CS48 272 av h Q = k272 av h Q := id rfl
theorem cs48_304 {av : List Int} {h : XH} {Q : Nat → List Int → XH → Prop} : CS48 304 av h Q = k304 av h Q := id rfl
theorem cs48_311 {av : List Int} {h : XH} {Q : Nat → List Int → XH → Prop} : CS48 311 av h Q = k311 av h Q := id rfl
theorem cs48_254 {av : List Int} {h : XH} {Q : Nat → List Int → XH → Prop} : CS48 254 av h Q = k254f av h Q := id rfl
theorem cs48_257 {av : List Int} {h : XH} {Q : Nat → List Int → XH → Prop} : CS48 257 av h Q = k257f av h Q := id rfl
theorem cs48_269 {av : List Int} {h : XH} {Q : Nat → List Int → XH → Prop} : CS48 269 av h Q = k269 av h Q := id rfl
theorem cs48_270 {av : List Int} {h : XH} {Q : Nat → List Int → XH → Prop} : CS48 270 av h Q = k270 av h Q := id rfl
theorem cs48_271 {av : List Int} {h : XH} {Q : Nat → List Int → XH → Prop} : CS48 271 av h Q = k271 av h Q := id rfl
theorem cs48_258 {av : List Int} {h : XH} {Q : Nat → List Int → XH → Prop} : CS48 258 av h Q = k258f av h Q := id rfl
theorem cs48_259 {av : List Int} {h : XH} {Q : Nat → List Int → XH → Prop} : CS48 259 av h Q = k259f av h Q := id rfl
theorem cs48_285 {av : List Int} {h : XH} {Q : Nat → List Int → XH → Prop} : CS48 285 av h Q = k285f av h Q := id rfl
theorem cs48_287 {av : List Int} {h : XH} {Q : Nat → List Int → XH → Prop} : CS48 287 av h Q = k287f av h Q := id rfl
theorem cs48_274 {av : List Int} {h : XH} {Q : Nat → List Int → XH → Prop} : CS48 274 av h Q = k274 av h Q := id rfl
theorem cs48_298 {av : List Int} {h : XH} {Q : Nat → List Int → XH → Prop} : CS48 298 av h Q = k298 av h Q := id rfl
theorem cs48_309 {av : List Int} {h : XH} {Q : Nat → List Int → XH → Prop} : CS48 309 av h Q = k309 av h Q := id rfl
theorem cs48_273 {av : List Int} {h : XH} {Q : Nat → List Int → XH → Prop} : CS48 273 av h Q = k273b av h Q := id rfl
theorem cs48_299 {av : List Int} {h : XH} {Q : Nat → List Int → XH → Prop} : CS48 299 av h Q = k299b av h Q := id rfl
theorem cs48_300 {av : List Int} {h : XH} {Q : Nat → List Int → XH → Prop} : CS48 300 av h Q = k300b av h Q := id rfl
theorem cs48_301 {av : List Int} {h : XH} {Q : Nat → List Int → XH → Prop} : CS48 301 av h Q = k301b av h Q := id rfl
theorem cs48_310 {av : List Int} {h : XH} {Q : Nat → List Int → XH → Prop} : CS48 310 av h Q = k310b av h Q := id rfl
theorem cs48_302 {av : List Int} {h : XH} {Q : Nat → List Int → XH → Prop} : CS48 302 av h Q = k302b av h Q := id rfl
theorem cs48_303 {av : List Int} {h : XH} {Q : Nat → List Int → XH → Prop} : CS48 303 av h Q = k303b av h Q := id rfl
theorem cs48_150 {av : List Int} {h : XH} {Q : Nat → List Int → XH → Prop} : CS48 150 av h Q = k150 av h Q := id rfl
theorem cs48_151 {av : List Int} {h : XH} {Q : Nat → List Int → XH → Prop} : CS48 151 av h Q = k151 av h Q := id rfl
theorem m_150 : BodyOK CS48 CS48 150 := fun av h Q hQ => by
  rw [cs48_150] at hQ
  unfold k150 at hQ
  split at hQ
  · rename_i o m p
    obtain ⟨b, mn_w, pn, hb_w, rfl, rfl, hm_w, rfl, hp, hQ⟩ := hQ
    have e1_w := m13 hm_w
    rcases hb_w with rfl | rfl
    · show pS CS48 bb_150 [70, (mn_w : Int), (pn : Int), 0] h _
      unfold bb_150
      have hQ : Q 1 [lastR (fun k => h 72 (13 * mn_w + k)) (pn + 1)] h := hQ
      simp only [qe_1, qe_3, qe_4, qe_5, qe_7, qe_72, qe_10, qe_102, qe_13, qe_14, qe_15, qe_16, qe_17, qe_18, qe_20, qe_22, qe_23, qe_21, qe_24, qe_25, qe_26, qe_27, qe_28, qe_30, qe_31, qe_32, qc_20, qc_22, qc_23, qc_21, qc_24, qc_25, qc_26, qc_27, qc_1, qc_3, qc_4, qc_7, qc_13, qc_28, qc_32, qs_1, qs_2, qs_3, qs_4, qs_5, qs_6, qs_9, qs_10, qs_11, qs_14, qs_15, qs_16, qs_27, qs_17, qs_18, qs_19, qs_20, qs_22, qs_23, qs_28, qs_25, qs_26, qs_7, qs_8, kc_1, kn_1, kc_2, kn_2, kc_3, kn_3, kc_4, kn_4, kc_5, kn_5, kc_6, kn_6, kc_7, kn_7, kc_8, kn_8, kc_9, kn_9, kc_10, kn_10, kc_11, kn_11, kc_12, kn_12, kc_13, kn_13, kc_14, kn_14, kc_15, kn_15, kc_16, kc_17, kc_18, kc_19, kc_20, kc_21, kc_22, kc_23, kc_30, kc_32, kc_40, kc_43, kc_45, kc_48, kc_52, kc_56, kc_57, kc_59, kc_60, kc_61, kc_63, kc_64, kc_72, kc_78, kc_97, kc_99, kc_122, kc_126, kc_128, kc_192, kc_200, kc_255, kc_999, kc_1000, kc_9999, kn_9999, kc_10000, kc_12345, kc_65536, kc_252645135, kc_858993459, kc_1103515245, kc_1431655765, kc_2147483647, kc_0, kc_24, kc_28, kc_37, kc_41, kc_42, kc_73, kc_91, kc_95, kc_96, kc_98, kc_100, kc_112, kc_125, kc_150, kc_162, kc_163, kc_168, kc_186, kc_190, kc_250, kc_355, kc_356, kc_404, kc_405, kc_429, kc_573, kc_1002, kc_1100, kc_1891, kc_2200, kc_4719, kc_4869, kc_4881, kc_5148, kc_19741, kc_25433, kc_320403, kc_628412, kc_629093, kc_660401, kc_679843, kc_918640, kc_979410, kc_1178088, kc_6232410, kc_24644941, kc_36238189, kc_38270444, kc_392531318, kc_425693491, kc_1342154595, kc_2147483648, kc_42328242873, kc_891704255789, kc_1722105685577, kc_1858726030364, ct_0, ct_1, ct_2, ct_3, ct_4, ct_5, cf_0, cf_1, cf_2, cf_3, cf_4, cf_5, w_ty6, w_ty7, m_sv, m_z0, m_hd, m_g0, m_gs, m_s0, m_ss, m_ap, m_an, forall_const, true_and, and_true, ne_eq, not_true_eq_false, not_false_eq_true, false_implies, true_implies, implies_true, eq_self, reduceCtorEq, Nat.reduceDiv, Nat.reduceMod, Int.reduceToNat, or_true, true_or, or_false, false_or, or_self, m_it, m_if, m_c1, m_01, m_02, m_03, m_04, m_10, m_12, m_13, m_14, m_20, m_21, m_23, m_24, m_30, m_31, m_32, m_34, m_40, m_41, m_42, m_43, Int.reduceLE, Int.reduceLT, Int.reduceGE, Int.reduceGT, Int.reduceNeg, Int.reduceAdd, Int.reduceSub, Int.reduceMul, Int.reduceEq, Int.reduceNe, Nat.reduceAdd, jun2, ro_0_0, ro_0_1, ro_0_2, ro_0_3, ro_0_4, ro_0_5, ro_0_6, ro_0_7, ro_0_8, ro_0_9, ro_0_10, ro_0_11, ro_0_12, ro_1_0, ro_1_1, ro_2_0, ro_4_0, ro_6_0, ro_6_1, ro_6_2, ro_6_3, ro_6_4, ro_6_5, ro_6_6, ro_6_7, ro_6_8, ro_8_0, ro_10_0, ro_12_0, ro_14_0, ro_16_0, ro_18_0, ro_20_0, ro_22_0, ro_22_1, ro_22_2, ro_23_0, ro_25_0, ro_27_0, ro_29_0, ro_29_1, ro_29_2, ro_29_3, ro_29_4, ro_29_5, ro_29_6, ro_29_7, ro_29_8, ro_31_0, ro_33_0, ro_35_0, ro_37_0, ro_39_0, ro_41_0, ro_43_0, ro_45_0, ro_45_1, ro_45_2, ro_46_0, ro_48_0, ro_50_0, ro_52_0, ro_52_1, ro_52_2, ro_52_3, ro_53_0, ro_55_0, ro_57_0, ro_59_0, ro_61_0, ro_61_1, ro_61_2, ro_61_3, ro_62_0, ro_64_0, ro_66_0, ro_68_0, ro_70_0, ro_70_1, ro_70_2, ro_70_3, ro_70_4, ro_70_5, ro_70_6, ro_70_7, ro_70_8, ro_70_9, ro_71_0, ro_73_0, ro_75_0, ro_77_0, ro_79_0, ro_81_0, ro_83_0, ro_85_0, ro_87_0, ro_89_0, ro_91_0, ro_91_1, ro_91_2, ro_91_3, ro_91_4, ro_91_5, ro_91_6, ro_91_7, ro_91_8, ro_91_9, ro_92_0, ro_94_0, ro_96_0, ro_98_0, ro_100_0, ro_102_0, ro_104_0, ro_106_0, ro_108_0, ro_110_0, ro_112_0, ro_112_1, ro_112_2, ro_112_3, ro_112_4, ro_112_5, ro_112_6, ro_112_7, ro_112_8, ro_112_9, ro_113_0, ro_115_0, ro_117_0, ro_119_0, ro_121_0, ro_123_0, ro_125_0, ro_127_0, ro_129_0, ro_131_0, ro_133_0, ro_133_1, ro_133_2, ro_133_3, ro_133_4, ro_133_5, ro_133_6, ro_133_7, ro_133_8, ro_133_9, ro_134_0, ro_136_0, ro_138_0, ro_140_0, ro_142_0, ro_144_0, ro_146_0, ro_148_0, ro_150_0, ro_152_0, ro_154_0, ro_155_0, ro_157_0, ro_157_1, ro_157_2, ro_157_3, ro_157_4, ro_157_5, ro_157_6, ro_157_7, ro_157_8, ro_157_9, ro_158_0, ro_160_0, ro_162_0, ro_164_0, ro_166_0, ro_168_0, ro_170_0, ro_172_0, ro_174_0, ro_176_0, ro_178_0, ro_180_0, ro_182_1, ro_182_4, ro_182_5, ro_182_6, ro_182_9, ro_182_10, ro_182_11, ro_182_13, ro_182_14, ro_182_15, ro_182_16, ro_182_17, ro_182_20, ro_182_21, ro_182_22, ro_182_23, ro_182_24, ro_182_26, ro_182_27, ro_182_28, lo_3, lo_5, lo_7, lo_9, lo_11, lo_13, lo_15, lo_17, lo_19, lo_21, lo_24, lo_26, lo_28, lo_30, lo_32, lo_34, lo_36, lo_38, lo_40, lo_42, lo_44, lo_47, lo_49, lo_51, lo_54, lo_56, lo_58, lo_60, lo_63, lo_65, lo_67, lo_69, lo_72, lo_74, lo_76, lo_78, lo_80, lo_82, lo_84, lo_86, lo_88, lo_90, lo_93, lo_95, lo_97, lo_99, lo_101, lo_103, lo_105, lo_107, lo_109, lo_111, lo_114, lo_116, lo_118, lo_120, lo_122, lo_124, lo_126, lo_128, lo_130, lo_132, lo_135, lo_137, lo_139, lo_141, lo_143, lo_145, lo_147, lo_149, lo_151, lo_153, lo_156, lo_159, lo_161, lo_163, lo_165, lo_167, lo_169, lo_171, lo_173, lo_175, lo_177, lo_179, lo_181, lo_183, lo_184, lo_185, lo_186, lo_187, lo_188, lo_189, lo_190, lo_191, lo_192, lo_193, lo_194, lo_195, lo_196, lo_197, lo_198, lo_199, lo_200, lo_201, lo_202, lo_203, jp_nn, jp_eq, jp_e1, Classical.not_not, ji0, ji1, ji2, cs48_54, kk_54, jl_0, jl_1, jl_2, jl_3, jl_4, jl_5, jl_6, jl_7, jl_8, jl_9, jl_10, jl_11, jl_12, jl_13, jl_14, jl_15, jl_16, jl_17, jl_18, jl_19, jl_20, jl_21, jl_22, jl_23, jl_24, jl_25, jl_26, jl_27, jl_28, jl_29, jl_30, jl_31, jl_32, jl_33, jl_34, jl_35, jl_36, jl_37, jl_38, jl_39, jl_40, jl_95, jl_96, jl_97, jl_98, jl_99, jl_100, jl_101, jl_102, jl_103, jl_104, jl_105, jl_106, jl_107, jl_108, jl_109, jl_110, jl_111, jl_112, jl_113, jl_114, jl_186, jl_1100, jr, ju, jpT, jpF, tnc, Nat.reduceEqDiff, reduceIte, and_false, false_and, not_true_eq_false, not_false_eq_true, or_false, gt_iff_lt, ge_iff_le, Int.lt_irrefl, Int.le_refl]
      refine qp_lp (fun en h' => ∃ k : Nat, en = [70, (mn_w : Int), (pn : Int), (k : Int) - 1] ∧ k ≤ pn + 1 ∧ h' = h ∧ lastR (fun k => h 72 (13 * mn_w + k)) (pn + 1) = lastR (fun k => h 72 (13 * mn_w + k)) k) ⟨pn + 1, by rw [show ((pn + 1 : Nat) : Int) - 1 = (pn : Int) by omega], Nat.le_refl _, rfl, rfl⟩ ?_
      intro en h1 ⟨k, e5_w, z1, z2, z3⟩
      subst e5_w
      subst z2
      cases k with
      | zero =>
        have e0 : ((0 : Nat) : Int) - 1 = -1 := rfl
        have y1 : ¬ (0 : Int) ≤ -1 := by decide
        have y2 : (-1 : Int) < 0 := by decide
        rw [e0]
        rw [z3] at hQ
        simp only [qe_1, qe_3, qe_4, qe_5, qe_7, qe_72, qe_10, qe_102, qe_13, qe_14, qe_15, qe_16, qe_17, qe_18, qe_20, qe_22, qe_23, qe_21, qe_24, qe_25, qe_26, qe_27, qe_28, qe_30, qe_31, qe_32, qc_20, qc_22, qc_23, qc_21, qc_24, qc_25, qc_26, qc_27, qc_1, qc_3, qc_4, qc_7, qc_13, qc_28, qc_32, qs_1, qs_2, qs_3, qs_4, qs_5, qs_6, qs_9, qs_10, qs_11, qs_14, qs_15, qs_16, qs_27, qs_17, qs_18, qs_19, qs_20, qs_22, qs_23, qs_28, qs_25, qs_26, qs_7, qs_8, kc_1, kn_1, kc_2, kn_2, kc_3, kn_3, kc_4, kn_4, kc_5, kn_5, kc_6, kn_6, kc_7, kn_7, kc_8, kn_8, kc_9, kn_9, kc_10, kn_10, kc_11, kn_11, kc_12, kn_12, kc_13, kn_13, kc_14, kn_14, kc_15, kn_15, kc_16, kc_17, kc_18, kc_19, kc_20, kc_21, kc_22, kc_23, kc_30, kc_32, kc_40, kc_43, kc_45, kc_48, kc_52, kc_56, kc_57, kc_59, kc_60, kc_61, kc_63, kc_64, kc_72, kc_78, kc_97, kc_99, kc_122, kc_126, kc_128, kc_192, kc_200, kc_255, kc_999, kc_1000, kc_9999, kn_9999, kc_10000, kc_12345, kc_65536, kc_252645135, kc_858993459, kc_1103515245, kc_1431655765, kc_2147483647, kc_0, kc_24, kc_28, kc_37, kc_41, kc_42, kc_73, kc_91, kc_95, kc_96, kc_98, kc_100, kc_112, kc_125, kc_150, kc_162, kc_163, kc_168, kc_186, kc_190, kc_250, kc_355, kc_356, kc_404, kc_405, kc_429, kc_573, kc_1002, kc_1100, kc_1891, kc_2200, kc_4719, kc_4869, kc_4881, kc_5148, kc_19741, kc_25433, kc_320403, kc_628412, kc_629093, kc_660401, kc_679843, kc_918640, kc_979410, kc_1178088, kc_6232410, kc_24644941, kc_36238189, kc_38270444, kc_392531318, kc_425693491, kc_1342154595, kc_2147483648, kc_42328242873, kc_891704255789, kc_1722105685577, kc_1858726030364, ct_0, ct_1, ct_2, ct_3, ct_4, ct_5, cf_0, cf_1, cf_2, cf_3, cf_4, cf_5, w_ty6, w_ty7, m_sv, m_z0, m_hd, m_g0, m_gs, m_s0, m_ss, m_ap, m_an, forall_const, true_and, and_true, ne_eq, not_true_eq_false, not_false_eq_true, false_implies, true_implies, implies_true, eq_self, reduceCtorEq, Nat.reduceDiv, Nat.reduceMod, Int.reduceToNat, or_true, true_or, or_false, false_or, or_self, m_it, m_if, m_c1, m_01, m_02, m_03, m_04, m_10, m_12, m_13, m_14, m_20, m_21, m_23, m_24, m_30, m_31, m_32, m_34, m_40, m_41, m_42, m_43, Int.reduceLE, Int.reduceLT, Int.reduceGE, Int.reduceGT, Int.reduceNeg, Int.reduceAdd, Int.reduceSub, Int.reduceMul, Int.reduceEq, Int.reduceNe, Nat.reduceAdd, jun2, ro_0_0, ro_0_1, ro_0_2, ro_0_3, ro_0_4, ro_0_5, ro_0_6, ro_0_7, ro_0_8, ro_0_9, ro_0_10, ro_0_11, ro_0_12, ro_1_0, ro_1_1, ro_2_0, ro_4_0, ro_6_0, ro_6_1, ro_6_2, ro_6_3, ro_6_4, ro_6_5, ro_6_6, ro_6_7, ro_6_8, ro_8_0, ro_10_0, ro_12_0, ro_14_0, ro_16_0, ro_18_0, ro_20_0, ro_22_0, ro_22_1, ro_22_2, ro_23_0, ro_25_0, ro_27_0, ro_29_0, ro_29_1, ro_29_2, ro_29_3, ro_29_4, ro_29_5, ro_29_6, ro_29_7, ro_29_8, ro_31_0, ro_33_0, ro_35_0, ro_37_0, ro_39_0, ro_41_0, ro_43_0, ro_45_0, ro_45_1, ro_45_2, ro_46_0, ro_48_0, ro_50_0, ro_52_0, ro_52_1, ro_52_2, ro_52_3, ro_53_0, ro_55_0, ro_57_0, ro_59_0, ro_61_0, ro_61_1, ro_61_2, ro_61_3, ro_62_0, ro_64_0, ro_66_0, ro_68_0, ro_70_0, ro_70_1, ro_70_2, ro_70_3, ro_70_4, ro_70_5, ro_70_6, ro_70_7, ro_70_8, ro_70_9, ro_71_0, ro_73_0, ro_75_0, ro_77_0, ro_79_0, ro_81_0, ro_83_0, ro_85_0, ro_87_0, ro_89_0, ro_91_0, ro_91_1, ro_91_2, ro_91_3, ro_91_4, ro_91_5, ro_91_6, ro_91_7, ro_91_8, ro_91_9, ro_92_0, ro_94_0, ro_96_0, ro_98_0, ro_100_0, ro_102_0, ro_104_0, ro_106_0, ro_108_0, ro_110_0, ro_112_0, ro_112_1, ro_112_2, ro_112_3, ro_112_4, ro_112_5, ro_112_6, ro_112_7, ro_112_8, ro_112_9, ro_113_0, ro_115_0, ro_117_0, ro_119_0, ro_121_0, ro_123_0, ro_125_0, ro_127_0, ro_129_0, ro_131_0, ro_133_0, ro_133_1, ro_133_2, ro_133_3, ro_133_4, ro_133_5, ro_133_6, ro_133_7, ro_133_8, ro_133_9, ro_134_0, ro_136_0, ro_138_0, ro_140_0, ro_142_0, ro_144_0, ro_146_0, ro_148_0, ro_150_0, ro_152_0, ro_154_0, ro_155_0, ro_157_0, ro_157_1, ro_157_2, ro_157_3, ro_157_4, ro_157_5, ro_157_6, ro_157_7, ro_157_8, ro_157_9, ro_158_0, ro_160_0, ro_162_0, ro_164_0, ro_166_0, ro_168_0, ro_170_0, ro_172_0, ro_174_0, ro_176_0, ro_178_0, ro_180_0, ro_182_1, ro_182_4, ro_182_5, ro_182_6, ro_182_9, ro_182_10, ro_182_11, ro_182_13, ro_182_14, ro_182_15, ro_182_16, ro_182_17, ro_182_20, ro_182_21, ro_182_22, ro_182_23, ro_182_24, ro_182_26, ro_182_27, ro_182_28, lo_3, lo_5, lo_7, lo_9, lo_11, lo_13, lo_15, lo_17, lo_19, lo_21, lo_24, lo_26, lo_28, lo_30, lo_32, lo_34, lo_36, lo_38, lo_40, lo_42, lo_44, lo_47, lo_49, lo_51, lo_54, lo_56, lo_58, lo_60, lo_63, lo_65, lo_67, lo_69, lo_72, lo_74, lo_76, lo_78, lo_80, lo_82, lo_84, lo_86, lo_88, lo_90, lo_93, lo_95, lo_97, lo_99, lo_101, lo_103, lo_105, lo_107, lo_109, lo_111, lo_114, lo_116, lo_118, lo_120, lo_122, lo_124, lo_126, lo_128, lo_130, lo_132, lo_135, lo_137, lo_139, lo_141, lo_143, lo_145, lo_147, lo_149, lo_151, lo_153, lo_156, lo_159, lo_161, lo_163, lo_165, lo_167, lo_169, lo_171, lo_173, lo_175, lo_177, lo_179, lo_181, lo_183, lo_184, lo_185, lo_186, lo_187, lo_188, lo_189, lo_190, lo_191, lo_192, lo_193, lo_194, lo_195, lo_196, lo_197, lo_198, lo_199, lo_200, lo_201, lo_202, lo_203, jp_nn, jp_eq, jp_e1, Classical.not_not, ji0, ji1, ji2, cs48_54, kk_54, jl_0, jl_1, jl_2, jl_3, jl_4, jl_5, jl_6, jl_7, jl_8, jl_9, jl_10, jl_11, jl_12, jl_13, jl_14, jl_15, jl_16, jl_17, jl_18, jl_19, jl_20, jl_21, jl_22, jl_23, jl_24, jl_25, jl_26, jl_27, jl_28, jl_29, jl_30, jl_31, jl_32, jl_33, jl_34, jl_35, jl_36, jl_37, jl_38, jl_39, jl_40, jl_95, jl_96, jl_97, jl_98, jl_99, jl_100, jl_101, jl_102, jl_103, jl_104, jl_105, jl_106, jl_107, jl_108, jl_109, jl_110, jl_111, jl_112, jl_113, jl_114, jl_186, jl_1100, jr, ju, jpT, jpF, tnc, Nat.reduceEqDiff, reduceIte, and_false, false_and, not_true_eq_false, not_false_eq_true, or_false, gt_iff_lt, ge_iff_le, Int.lt_irrefl, Int.le_refl, y1, y2]
        exact hQ
      | succ j =>
        have e0 : ((j + 1 : Nat) : Int) - 1 = (j : Int) := by omega
        have y1 : (0 : Int) ≤ (j : Int) := by omega
        have y2 : ¬ (j : Int) < 0 := by omega
        have e2_w : j32 (((13 * mn_w : Nat) : Int) + (j : Int)) = ((13 * mn_w + j : Nat) : Int) := jcn (by omega) (by omega)
        have e3_w : rg h1 71 ((13 * mn_w + j : Nat) : Int) = h1 72 (13 * mn_w + j) := rg_in (o := 71) (c := 72) (n := 78) ro_71_0 lo_72 (by omega)
        have e4_w : j32 ((j : Int) + -1) = (j : Int) - 1 := j32_id (by omega) (by omega)
        have e6_w : j32 ((j : Int) - 1) = (j : Int) - 1 := j32_id (by omega) (by omega)
        rw [e0]
        by_cases y3 : h1 72 (13 * mn_w + j) = -1
        · simp only [qe_1, qe_3, qe_4, qe_5, qe_7, qe_72, qe_10, qe_102, qe_13, qe_14, qe_15, qe_16, qe_17, qe_18, qe_20, qe_22, qe_23, qe_21, qe_24, qe_25, qe_26, qe_27, qe_28, qe_30, qe_31, qe_32, qc_20, qc_22, qc_23, qc_21, qc_24, qc_25, qc_26, qc_27, qc_1, qc_3, qc_4, qc_7, qc_13, qc_28, qc_32, qs_1, qs_2, qs_3, qs_4, qs_5, qs_6, qs_9, qs_10, qs_11, qs_14, qs_15, qs_16, qs_27, qs_17, qs_18, qs_19, qs_20, qs_22, qs_23, qs_28, qs_25, qs_26, qs_7, qs_8, kc_1, kn_1, kc_2, kn_2, kc_3, kn_3, kc_4, kn_4, kc_5, kn_5, kc_6, kn_6, kc_7, kn_7, kc_8, kn_8, kc_9, kn_9, kc_10, kn_10, kc_11, kn_11, kc_12, kn_12, kc_13, kn_13, kc_14, kn_14, kc_15, kn_15, kc_16, kc_17, kc_18, kc_19, kc_20, kc_21, kc_22, kc_23, kc_30, kc_32, kc_40, kc_43, kc_45, kc_48, kc_52, kc_56, kc_57, kc_59, kc_60, kc_61, kc_63, kc_64, kc_72, kc_78, kc_97, kc_99, kc_122, kc_126, kc_128, kc_192, kc_200, kc_255, kc_999, kc_1000, kc_9999, kn_9999, kc_10000, kc_12345, kc_65536, kc_252645135, kc_858993459, kc_1103515245, kc_1431655765, kc_2147483647, kc_0, kc_24, kc_28, kc_37, kc_41, kc_42, kc_73, kc_91, kc_95, kc_96, kc_98, kc_100, kc_112, kc_125, kc_150, kc_162, kc_163, kc_168, kc_186, kc_190, kc_250, kc_355, kc_356, kc_404, kc_405, kc_429, kc_573, kc_1002, kc_1100, kc_1891, kc_2200, kc_4719, kc_4869, kc_4881, kc_5148, kc_19741, kc_25433, kc_320403, kc_628412, kc_629093, kc_660401, kc_679843, kc_918640, kc_979410, kc_1178088, kc_6232410, kc_24644941, kc_36238189, kc_38270444, kc_392531318, kc_425693491, kc_1342154595, kc_2147483648, kc_42328242873, kc_891704255789, kc_1722105685577, kc_1858726030364, ct_0, ct_1, ct_2, ct_3, ct_4, ct_5, cf_0, cf_1, cf_2, cf_3, cf_4, cf_5, w_ty6, w_ty7, m_sv, m_z0, m_hd, m_g0, m_gs, m_s0, m_ss, m_ap, m_an, forall_const, true_and, and_true, ne_eq, not_true_eq_false, not_false_eq_true, false_implies, true_implies, implies_true, eq_self, reduceCtorEq, Nat.reduceDiv, Nat.reduceMod, Int.reduceToNat, or_true, true_or, or_false, false_or, or_self, m_it, m_if, m_c1, m_01, m_02, m_03, m_04, m_10, m_12, m_13, m_14, m_20, m_21, m_23, m_24, m_30, m_31, m_32, m_34, m_40, m_41, m_42, m_43, Int.reduceLE, Int.reduceLT, Int.reduceGE, Int.reduceGT, Int.reduceNeg, Int.reduceAdd, Int.reduceSub, Int.reduceMul, Int.reduceEq, Int.reduceNe, Nat.reduceAdd, jun2, ro_0_0, ro_0_1, ro_0_2, ro_0_3, ro_0_4, ro_0_5, ro_0_6, ro_0_7, ro_0_8, ro_0_9, ro_0_10, ro_0_11, ro_0_12, ro_1_0, ro_1_1, ro_2_0, ro_4_0, ro_6_0, ro_6_1, ro_6_2, ro_6_3, ro_6_4, ro_6_5, ro_6_6, ro_6_7, ro_6_8, ro_8_0, ro_10_0, ro_12_0, ro_14_0, ro_16_0, ro_18_0, ro_20_0, ro_22_0, ro_22_1, ro_22_2, ro_23_0, ro_25_0, ro_27_0, ro_29_0, ro_29_1, ro_29_2, ro_29_3, ro_29_4, ro_29_5, ro_29_6, ro_29_7, ro_29_8, ro_31_0, ro_33_0, ro_35_0, ro_37_0, ro_39_0, ro_41_0, ro_43_0, ro_45_0, ro_45_1, ro_45_2, ro_46_0, ro_48_0, ro_50_0, ro_52_0, ro_52_1, ro_52_2, ro_52_3, ro_53_0, ro_55_0, ro_57_0, ro_59_0, ro_61_0, ro_61_1, ro_61_2, ro_61_3, ro_62_0, ro_64_0, ro_66_0, ro_68_0, ro_70_0, ro_70_1, ro_70_2, ro_70_3, ro_70_4, ro_70_5, ro_70_6, ro_70_7, ro_70_8, ro_70_9, ro_71_0, ro_73_0, ro_75_0, ro_77_0, ro_79_0, ro_81_0, ro_83_0, ro_85_0, ro_87_0, ro_89_0, ro_91_0, ro_91_1, ro_91_2, ro_91_3, ro_91_4, ro_91_5, ro_91_6, ro_91_7, ro_91_8, ro_91_9, ro_92_0, ro_94_0, ro_96_0, ro_98_0, ro_100_0, ro_102_0, ro_104_0, ro_106_0, ro_108_0, ro_110_0, ro_112_0, ro_112_1, ro_112_2, ro_112_3, ro_112_4, ro_112_5, ro_112_6, ro_112_7, ro_112_8, ro_112_9, ro_113_0, ro_115_0, ro_117_0, ro_119_0, ro_121_0, ro_123_0, ro_125_0, ro_127_0, ro_129_0, ro_131_0, ro_133_0, ro_133_1, ro_133_2, ro_133_3, ro_133_4, ro_133_5, ro_133_6, ro_133_7, ro_133_8, ro_133_9, ro_134_0, ro_136_0, ro_138_0, ro_140_0, ro_142_0, ro_144_0, ro_146_0, ro_148_0, ro_150_0, ro_152_0, ro_154_0, ro_155_0, ro_157_0, ro_157_1, ro_157_2, ro_157_3, ro_157_4, ro_157_5, ro_157_6, ro_157_7, ro_157_8, ro_157_9, ro_158_0, ro_160_0, ro_162_0, ro_164_0, ro_166_0, ro_168_0, ro_170_0, ro_172_0, ro_174_0, ro_176_0, ro_178_0, ro_180_0, ro_182_1, ro_182_4, ro_182_5, ro_182_6, ro_182_9, ro_182_10, ro_182_11, ro_182_13, ro_182_14, ro_182_15, ro_182_16, ro_182_17, ro_182_20, ro_182_21, ro_182_22, ro_182_23, ro_182_24, ro_182_26, ro_182_27, ro_182_28, lo_3, lo_5, lo_7, lo_9, lo_11, lo_13, lo_15, lo_17, lo_19, lo_21, lo_24, lo_26, lo_28, lo_30, lo_32, lo_34, lo_36, lo_38, lo_40, lo_42, lo_44, lo_47, lo_49, lo_51, lo_54, lo_56, lo_58, lo_60, lo_63, lo_65, lo_67, lo_69, lo_72, lo_74, lo_76, lo_78, lo_80, lo_82, lo_84, lo_86, lo_88, lo_90, lo_93, lo_95, lo_97, lo_99, lo_101, lo_103, lo_105, lo_107, lo_109, lo_111, lo_114, lo_116, lo_118, lo_120, lo_122, lo_124, lo_126, lo_128, lo_130, lo_132, lo_135, lo_137, lo_139, lo_141, lo_143, lo_145, lo_147, lo_149, lo_151, lo_153, lo_156, lo_159, lo_161, lo_163, lo_165, lo_167, lo_169, lo_171, lo_173, lo_175, lo_177, lo_179, lo_181, lo_183, lo_184, lo_185, lo_186, lo_187, lo_188, lo_189, lo_190, lo_191, lo_192, lo_193, lo_194, lo_195, lo_196, lo_197, lo_198, lo_199, lo_200, lo_201, lo_202, lo_203, jp_nn, jp_eq, jp_e1, Classical.not_not, ji0, ji1, ji2, cs48_54, kk_54, jl_0, jl_1, jl_2, jl_3, jl_4, jl_5, jl_6, jl_7, jl_8, jl_9, jl_10, jl_11, jl_12, jl_13, jl_14, jl_15, jl_16, jl_17, jl_18, jl_19, jl_20, jl_21, jl_22, jl_23, jl_24, jl_25, jl_26, jl_27, jl_28, jl_29, jl_30, jl_31, jl_32, jl_33, jl_34, jl_35, jl_36, jl_37, jl_38, jl_39, jl_40, jl_95, jl_96, jl_97, jl_98, jl_99, jl_100, jl_101, jl_102, jl_103, jl_104, jl_105, jl_106, jl_107, jl_108, jl_109, jl_110, jl_111, jl_112, jl_113, jl_114, jl_186, jl_1100, jr, ju, jpT, jpF, tnc, Nat.reduceEqDiff, reduceIte, and_false, false_and, not_true_eq_false, not_false_eq_true, or_false, gt_iff_lt, ge_iff_le, Int.lt_irrefl, Int.le_refl, y1, y2, e1_w, e2_w, e3_w, y3, e4_w, e6_w]
          exact ⟨j, rfl, by omega, z3.trans (if_pos y3)⟩
        · simp only [qe_1, qe_3, qe_4, qe_5, qe_7, qe_72, qe_10, qe_102, qe_13, qe_14, qe_15, qe_16, qe_17, qe_18, qe_20, qe_22, qe_23, qe_21, qe_24, qe_25, qe_26, qe_27, qe_28, qe_30, qe_31, qe_32, qc_20, qc_22, qc_23, qc_21, qc_24, qc_25, qc_26, qc_27, qc_1, qc_3, qc_4, qc_7, qc_13, qc_28, qc_32, qs_1, qs_2, qs_3, qs_4, qs_5, qs_6, qs_9, qs_10, qs_11, qs_14, qs_15, qs_16, qs_27, qs_17, qs_18, qs_19, qs_20, qs_22, qs_23, qs_28, qs_25, qs_26, qs_7, qs_8, kc_1, kn_1, kc_2, kn_2, kc_3, kn_3, kc_4, kn_4, kc_5, kn_5, kc_6, kn_6, kc_7, kn_7, kc_8, kn_8, kc_9, kn_9, kc_10, kn_10, kc_11, kn_11, kc_12, kn_12, kc_13, kn_13, kc_14, kn_14, kc_15, kn_15, kc_16, kc_17, kc_18, kc_19, kc_20, kc_21, kc_22, kc_23, kc_30, kc_32, kc_40, kc_43, kc_45, kc_48, kc_52, kc_56, kc_57, kc_59, kc_60, kc_61, kc_63, kc_64, kc_72, kc_78, kc_97, kc_99, kc_122, kc_126, kc_128, kc_192, kc_200, kc_255, kc_999, kc_1000, kc_9999, kn_9999, kc_10000, kc_12345, kc_65536, kc_252645135, kc_858993459, kc_1103515245, kc_1431655765, kc_2147483647, kc_0, kc_24, kc_28, kc_37, kc_41, kc_42, kc_73, kc_91, kc_95, kc_96, kc_98, kc_100, kc_112, kc_125, kc_150, kc_162, kc_163, kc_168, kc_186, kc_190, kc_250, kc_355, kc_356, kc_404, kc_405, kc_429, kc_573, kc_1002, kc_1100, kc_1891, kc_2200, kc_4719, kc_4869, kc_4881, kc_5148, kc_19741, kc_25433, kc_320403, kc_628412, kc_629093, kc_660401, kc_679843, kc_918640, kc_979410, kc_1178088, kc_6232410, kc_24644941, kc_36238189, kc_38270444, kc_392531318, kc_425693491, kc_1342154595, kc_2147483648, kc_42328242873, kc_891704255789, kc_1722105685577, kc_1858726030364, ct_0, ct_1, ct_2, ct_3, ct_4, ct_5, cf_0, cf_1, cf_2, cf_3, cf_4, cf_5, w_ty6, w_ty7, m_sv, m_z0, m_hd, m_g0, m_gs, m_s0, m_ss, m_ap, m_an, forall_const, true_and, and_true, ne_eq, not_true_eq_false, not_false_eq_true, false_implies, true_implies, implies_true, eq_self, reduceCtorEq, Nat.reduceDiv, Nat.reduceMod, Int.reduceToNat, or_true, true_or, or_false, false_or, or_self, m_it, m_if, m_c1, m_01, m_02, m_03, m_04, m_10, m_12, m_13, m_14, m_20, m_21, m_23, m_24, m_30, m_31, m_32, m_34, m_40, m_41, m_42, m_43, Int.reduceLE, Int.reduceLT, Int.reduceGE, Int.reduceGT, Int.reduceNeg, Int.reduceAdd, Int.reduceSub, Int.reduceMul, Int.reduceEq, Int.reduceNe, Nat.reduceAdd, jun2, ro_0_0, ro_0_1, ro_0_2, ro_0_3, ro_0_4, ro_0_5, ro_0_6, ro_0_7, ro_0_8, ro_0_9, ro_0_10, ro_0_11, ro_0_12, ro_1_0, ro_1_1, ro_2_0, ro_4_0, ro_6_0, ro_6_1, ro_6_2, ro_6_3, ro_6_4, ro_6_5, ro_6_6, ro_6_7, ro_6_8, ro_8_0, ro_10_0, ro_12_0, ro_14_0, ro_16_0, ro_18_0, ro_20_0, ro_22_0, ro_22_1, ro_22_2, ro_23_0, ro_25_0, ro_27_0, ro_29_0, ro_29_1, ro_29_2, ro_29_3, ro_29_4, ro_29_5, ro_29_6, ro_29_7, ro_29_8, ro_31_0, ro_33_0, ro_35_0, ro_37_0, ro_39_0, ro_41_0, ro_43_0, ro_45_0, ro_45_1, ro_45_2, ro_46_0, ro_48_0, ro_50_0, ro_52_0, ro_52_1, ro_52_2, ro_52_3, ro_53_0, ro_55_0, ro_57_0, ro_59_0, ro_61_0, ro_61_1, ro_61_2, ro_61_3, ro_62_0, ro_64_0, ro_66_0, ro_68_0, ro_70_0, ro_70_1, ro_70_2, ro_70_3, ro_70_4, ro_70_5, ro_70_6, ro_70_7, ro_70_8, ro_70_9, ro_71_0, ro_73_0, ro_75_0, ro_77_0, ro_79_0, ro_81_0, ro_83_0, ro_85_0, ro_87_0, ro_89_0, ro_91_0, ro_91_1, ro_91_2, ro_91_3, ro_91_4, ro_91_5, ro_91_6, ro_91_7, ro_91_8, ro_91_9, ro_92_0, ro_94_0, ro_96_0, ro_98_0, ro_100_0, ro_102_0, ro_104_0, ro_106_0, ro_108_0, ro_110_0, ro_112_0, ro_112_1, ro_112_2, ro_112_3, ro_112_4, ro_112_5, ro_112_6, ro_112_7, ro_112_8, ro_112_9, ro_113_0, ro_115_0, ro_117_0, ro_119_0, ro_121_0, ro_123_0, ro_125_0, ro_127_0, ro_129_0, ro_131_0, ro_133_0, ro_133_1, ro_133_2, ro_133_3, ro_133_4, ro_133_5, ro_133_6, ro_133_7, ro_133_8, ro_133_9, ro_134_0, ro_136_0, ro_138_0, ro_140_0, ro_142_0, ro_144_0, ro_146_0, ro_148_0, ro_150_0, ro_152_0, ro_154_0, ro_155_0, ro_157_0, ro_157_1, ro_157_2, ro_157_3, ro_157_4, ro_157_5, ro_157_6, ro_157_7, ro_157_8, ro_157_9, ro_158_0, ro_160_0, ro_162_0, ro_164_0, ro_166_0, ro_168_0, ro_170_0, ro_172_0, ro_174_0, ro_176_0, ro_178_0, ro_180_0, ro_182_1, ro_182_4, ro_182_5, ro_182_6, ro_182_9, ro_182_10, ro_182_11, ro_182_13, ro_182_14, ro_182_15, ro_182_16, ro_182_17, ro_182_20, ro_182_21, ro_182_22, ro_182_23, ro_182_24, ro_182_26, ro_182_27, ro_182_28, lo_3, lo_5, lo_7, lo_9, lo_11, lo_13, lo_15, lo_17, lo_19, lo_21, lo_24, lo_26, lo_28, lo_30, lo_32, lo_34, lo_36, lo_38, lo_40, lo_42, lo_44, lo_47, lo_49, lo_51, lo_54, lo_56, lo_58, lo_60, lo_63, lo_65, lo_67, lo_69, lo_72, lo_74, lo_76, lo_78, lo_80, lo_82, lo_84, lo_86, lo_88, lo_90, lo_93, lo_95, lo_97, lo_99, lo_101, lo_103, lo_105, lo_107, lo_109, lo_111, lo_114, lo_116, lo_118, lo_120, lo_122, lo_124, lo_126, lo_128, lo_130, lo_132, lo_135, lo_137, lo_139, lo_141, lo_143, lo_145, lo_147, lo_149, lo_151, lo_153, lo_156, lo_159, lo_161, lo_163, lo_165, lo_167, lo_169, lo_171, lo_173, lo_175, lo_177, lo_179, lo_181, lo_183, lo_184, lo_185, lo_186, lo_187, lo_188, lo_189, lo_190, lo_191, lo_192, lo_193, lo_194, lo_195, lo_196, lo_197, lo_198, lo_199, lo_200, lo_201, lo_202, lo_203, jp_nn, jp_eq, jp_e1, Classical.not_not, ji0, ji1, ji2, cs48_54, kk_54, jl_0, jl_1, jl_2, jl_3, jl_4, jl_5, jl_6, jl_7, jl_8, jl_9, jl_10, jl_11, jl_12, jl_13, jl_14, jl_15, jl_16, jl_17, jl_18, jl_19, jl_20, jl_21, jl_22, jl_23, jl_24, jl_25, jl_26, jl_27, jl_28, jl_29, jl_30, jl_31, jl_32, jl_33, jl_34, jl_35, jl_36, jl_37, jl_38, jl_39, jl_40, jl_95, jl_96, jl_97, jl_98, jl_99, jl_100, jl_101, jl_102, jl_103, jl_104, jl_105, jl_106, jl_107, jl_108, jl_109, jl_110, jl_111, jl_112, jl_113, jl_114, jl_186, jl_1100, jr, ju, jpT, jpF, tnc, Nat.reduceEqDiff, reduceIte, and_false, false_and, not_true_eq_false, not_false_eq_true, or_false, gt_iff_lt, ge_iff_le, Int.lt_irrefl, Int.le_refl, y1, y2, e1_w, e2_w, e3_w, y3]
          rw [z3, lastR, if_neg y3] at hQ
          exact hQ
    · show pS CS48 bb_150 [91, (mn_w : Int), (pn : Int), 0] h _
      unfold bb_150
      have hQ : Q 1 [lastR (fun k => h 93 (13 * mn_w + k)) (pn + 1)] h := hQ
      simp only [qe_1, qe_3, qe_4, qe_5, qe_7, qe_72, qe_10, qe_102, qe_13, qe_14, qe_15, qe_16, qe_17, qe_18, qe_20, qe_22, qe_23, qe_21, qe_24, qe_25, qe_26, qe_27, qe_28, qe_30, qe_31, qe_32, qc_20, qc_22, qc_23, qc_21, qc_24, qc_25, qc_26, qc_27, qc_1, qc_3, qc_4, qc_7, qc_13, qc_28, qc_32, qs_1, qs_2, qs_3, qs_4, qs_5, qs_6, qs_9, qs_10, qs_11, qs_14, qs_15, qs_16, qs_27, qs_17, qs_18, qs_19, qs_20, qs_22, qs_23, qs_28, qs_25, qs_26, qs_7, qs_8, kc_1, kn_1, kc_2, kn_2, kc_3, kn_3, kc_4, kn_4, kc_5, kn_5, kc_6, kn_6, kc_7, kn_7, kc_8, kn_8, kc_9, kn_9, kc_10, kn_10, kc_11, kn_11, kc_12, kn_12, kc_13, kn_13, kc_14, kn_14, kc_15, kn_15, kc_16, kc_17, kc_18, kc_19, kc_20, kc_21, kc_22, kc_23, kc_30, kc_32, kc_40, kc_43, kc_45, kc_48, kc_52, kc_56, kc_57, kc_59, kc_60, kc_61, kc_63, kc_64, kc_72, kc_78, kc_97, kc_99, kc_122, kc_126, kc_128, kc_192, kc_200, kc_255, kc_999, kc_1000, kc_9999, kn_9999, kc_10000, kc_12345, kc_65536, kc_252645135, kc_858993459, kc_1103515245, kc_1431655765, kc_2147483647, kc_0, kc_24, kc_28, kc_37, kc_41, kc_42, kc_73, kc_91, kc_95, kc_96, kc_98, kc_100, kc_112, kc_125, kc_150, kc_162, kc_163, kc_168, kc_186, kc_190, kc_250, kc_355, kc_356, kc_404, kc_405, kc_429, kc_573, kc_1002, kc_1100, kc_1891, kc_2200, kc_4719, kc_4869, kc_4881, kc_5148, kc_19741, kc_25433, kc_320403, kc_628412, kc_629093, kc_660401, kc_679843, kc_918640, kc_979410, kc_1178088, kc_6232410, kc_24644941, kc_36238189, kc_38270444, kc_392531318, kc_425693491, kc_1342154595, kc_2147483648, kc_42328242873, kc_891704255789, kc_1722105685577, kc_1858726030364, ct_0, ct_1, ct_2, ct_3, ct_4, ct_5, cf_0, cf_1, cf_2, cf_3, cf_4, cf_5, w_ty6, w_ty7, m_sv, m_z0, m_hd, m_g0, m_gs, m_s0, m_ss, m_ap, m_an, forall_const, true_and, and_true, ne_eq, not_true_eq_false, not_false_eq_true, false_implies, true_implies, implies_true, eq_self, reduceCtorEq, Nat.reduceDiv, Nat.reduceMod, Int.reduceToNat, or_true, true_or, or_false, false_or, or_self, m_it, m_if, m_c1, m_01, m_02, m_03, m_04, m_10, m_12, m_13, m_14, m_20, m_21, m_23, m_24, m_30, m_31, m_32, m_34, m_40, m_41, m_42, m_43, Int.reduceLE, Int.reduceLT, Int.reduceGE, Int.reduceGT, Int.reduceNeg, Int.reduceAdd, Int.reduceSub, Int.reduceMul, Int.reduceEq, Int.reduceNe, Nat.reduceAdd, jun2, ro_0_0, ro_0_1, ro_0_2, ro_0_3, ro_0_4, ro_0_5, ro_0_6, ro_0_7, ro_0_8, ro_0_9, ro_0_10, ro_0_11, ro_0_12, ro_1_0, ro_1_1, ro_2_0, ro_4_0, ro_6_0, ro_6_1, ro_6_2, ro_6_3, ro_6_4, ro_6_5, ro_6_6, ro_6_7, ro_6_8, ro_8_0, ro_10_0, ro_12_0, ro_14_0, ro_16_0, ro_18_0, ro_20_0, ro_22_0, ro_22_1, ro_22_2, ro_23_0, ro_25_0, ro_27_0, ro_29_0, ro_29_1, ro_29_2, ro_29_3, ro_29_4, ro_29_5, ro_29_6, ro_29_7, ro_29_8, ro_31_0, ro_33_0, ro_35_0, ro_37_0, ro_39_0, ro_41_0, ro_43_0, ro_45_0, ro_45_1, ro_45_2, ro_46_0, ro_48_0, ro_50_0, ro_52_0, ro_52_1, ro_52_2, ro_52_3, ro_53_0, ro_55_0, ro_57_0, ro_59_0, ro_61_0, ro_61_1, ro_61_2, ro_61_3, ro_62_0, ro_64_0, ro_66_0, ro_68_0, ro_70_0, ro_70_1, ro_70_2, ro_70_3, ro_70_4, ro_70_5, ro_70_6, ro_70_7, ro_70_8, ro_70_9, ro_71_0, ro_73_0, ro_75_0, ro_77_0, ro_79_0, ro_81_0, ro_83_0, ro_85_0, ro_87_0, ro_89_0, ro_91_0, ro_91_1, ro_91_2, ro_91_3, ro_91_4, ro_91_5, ro_91_6, ro_91_7, ro_91_8, ro_91_9, ro_92_0, ro_94_0, ro_96_0, ro_98_0, ro_100_0, ro_102_0, ro_104_0, ro_106_0, ro_108_0, ro_110_0, ro_112_0, ro_112_1, ro_112_2, ro_112_3, ro_112_4, ro_112_5, ro_112_6, ro_112_7, ro_112_8, ro_112_9, ro_113_0, ro_115_0, ro_117_0, ro_119_0, ro_121_0, ro_123_0, ro_125_0, ro_127_0, ro_129_0, ro_131_0, ro_133_0, ro_133_1, ro_133_2, ro_133_3, ro_133_4, ro_133_5, ro_133_6, ro_133_7, ro_133_8, ro_133_9, ro_134_0, ro_136_0, ro_138_0, ro_140_0, ro_142_0, ro_144_0, ro_146_0, ro_148_0, ro_150_0, ro_152_0, ro_154_0, ro_155_0, ro_157_0, ro_157_1, ro_157_2, ro_157_3, ro_157_4, ro_157_5, ro_157_6, ro_157_7, ro_157_8, ro_157_9, ro_158_0, ro_160_0, ro_162_0, ro_164_0, ro_166_0, ro_168_0, ro_170_0, ro_172_0, ro_174_0, ro_176_0, ro_178_0, ro_180_0, ro_182_1, ro_182_4, ro_182_5, ro_182_6, ro_182_9, ro_182_10, ro_182_11, ro_182_13, ro_182_14, ro_182_15, ro_182_16, ro_182_17, ro_182_20, ro_182_21, ro_182_22, ro_182_23, ro_182_24, ro_182_26, ro_182_27, ro_182_28, lo_3, lo_5, lo_7, lo_9, lo_11, lo_13, lo_15, lo_17, lo_19, lo_21, lo_24, lo_26, lo_28, lo_30, lo_32, lo_34, lo_36, lo_38, lo_40, lo_42, lo_44, lo_47, lo_49, lo_51, lo_54, lo_56, lo_58, lo_60, lo_63, lo_65, lo_67, lo_69, lo_72, lo_74, lo_76, lo_78, lo_80, lo_82, lo_84, lo_86, lo_88, lo_90, lo_93, lo_95, lo_97, lo_99, lo_101, lo_103, lo_105, lo_107, lo_109, lo_111, lo_114, lo_116, lo_118, lo_120, lo_122, lo_124, lo_126, lo_128, lo_130, lo_132, lo_135, lo_137, lo_139, lo_141, lo_143, lo_145, lo_147, lo_149, lo_151, lo_153, lo_156, lo_159, lo_161, lo_163, lo_165, lo_167, lo_169, lo_171, lo_173, lo_175, lo_177, lo_179, lo_181, lo_183, lo_184, lo_185, lo_186, lo_187, lo_188, lo_189, lo_190, lo_191, lo_192, lo_193, lo_194, lo_195, lo_196, lo_197, lo_198, lo_199, lo_200, lo_201, lo_202, lo_203, jp_nn, jp_eq, jp_e1, Classical.not_not, ji0, ji1, ji2, cs48_54, kk_54, jl_0, jl_1, jl_2, jl_3, jl_4, jl_5, jl_6, jl_7, jl_8, jl_9, jl_10, jl_11, jl_12, jl_13, jl_14, jl_15, jl_16, jl_17, jl_18, jl_19, jl_20, jl_21, jl_22, jl_23, jl_24, jl_25, jl_26, jl_27, jl_28, jl_29, jl_30, jl_31, jl_32, jl_33, jl_34, jl_35, jl_36, jl_37, jl_38, jl_39, jl_40, jl_95, jl_96, jl_97, jl_98, jl_99, jl_100, jl_101, jl_102, jl_103, jl_104, jl_105, jl_106, jl_107, jl_108, jl_109, jl_110, jl_111, jl_112, jl_113, jl_114, jl_186, jl_1100, jr, ju, jpT, jpF, tnc, Nat.reduceEqDiff, reduceIte, and_false, false_and, not_true_eq_false, not_false_eq_true, or_false, gt_iff_lt, ge_iff_le, Int.lt_irrefl, Int.le_refl]
      refine qp_lp (fun en h' => ∃ k : Nat, en = [91, (mn_w : Int), (pn : Int), (k : Int) - 1] ∧ k ≤ pn + 1 ∧ h' = h ∧ lastR (fun k => h 93 (13 * mn_w + k)) (pn + 1) = lastR (fun k => h 93 (13 * mn_w + k)) k) ⟨pn + 1, by rw [show ((pn + 1 : Nat) : Int) - 1 = (pn : Int) by omega], Nat.le_refl _, rfl, rfl⟩ ?_
      intro en h1 ⟨k, e5_w, z1, z2, z3⟩
      subst e5_w
      subst z2
      cases k with
      | zero =>
        have e0 : ((0 : Nat) : Int) - 1 = -1 := rfl
        have y1 : ¬ (0 : Int) ≤ -1 := by decide
        have y2 : (-1 : Int) < 0 := by decide
        rw [e0]
        rw [z3] at hQ
        simp only [qe_1, qe_3, qe_4, qe_5, qe_7, qe_72, qe_10, qe_102, qe_13, qe_14, qe_15, qe_16, qe_17, qe_18, qe_20, qe_22, qe_23, qe_21, qe_24, qe_25, qe_26, qe_27, qe_28, qe_30, qe_31, qe_32, qc_20, qc_22, qc_23, qc_21, qc_24, qc_25, qc_26, qc_27, qc_1, qc_3, qc_4, qc_7, qc_13, qc_28, qc_32, qs_1, qs_2, qs_3, qs_4, qs_5, qs_6, qs_9, qs_10, qs_11, qs_14, qs_15, qs_16, qs_27, qs_17, qs_18, qs_19, qs_20, qs_22, qs_23, qs_28, qs_25, qs_26, qs_7, qs_8, kc_1, kn_1, kc_2, kn_2, kc_3, kn_3, kc_4, kn_4, kc_5, kn_5, kc_6, kn_6, kc_7, kn_7, kc_8, kn_8, kc_9, kn_9, kc_10, kn_10, kc_11, kn_11, kc_12, kn_12, kc_13, kn_13, kc_14, kn_14, kc_15, kn_15, kc_16, kc_17, kc_18, kc_19, kc_20, kc_21, kc_22, kc_23, kc_30, kc_32, kc_40, kc_43, kc_45, kc_48, kc_52, kc_56, kc_57, kc_59, kc_60, kc_61, kc_63, kc_64, kc_72, kc_78, kc_97, kc_99, kc_122, kc_126, kc_128, kc_192, kc_200, kc_255, kc_999, kc_1000, kc_9999, kn_9999, kc_10000, kc_12345, kc_65536, kc_252645135, kc_858993459, kc_1103515245, kc_1431655765, kc_2147483647, kc_0, kc_24, kc_28, kc_37, kc_41, kc_42, kc_73, kc_91, kc_95, kc_96, kc_98, kc_100, kc_112, kc_125, kc_150, kc_162, kc_163, kc_168, kc_186, kc_190, kc_250, kc_355, kc_356, kc_404, kc_405, kc_429, kc_573, kc_1002, kc_1100, kc_1891, kc_2200, kc_4719, kc_4869, kc_4881, kc_5148, kc_19741, kc_25433, kc_320403, kc_628412, kc_629093, kc_660401, kc_679843, kc_918640, kc_979410, kc_1178088, kc_6232410, kc_24644941, kc_36238189, kc_38270444, kc_392531318, kc_425693491, kc_1342154595, kc_2147483648, kc_42328242873, kc_891704255789, kc_1722105685577, kc_1858726030364, ct_0, ct_1, ct_2, ct_3, ct_4, ct_5, cf_0, cf_1, cf_2, cf_3, cf_4, cf_5, w_ty6, w_ty7, m_sv, m_z0, m_hd, m_g0, m_gs, m_s0, m_ss, m_ap, m_an, forall_const, true_and, and_true, ne_eq, not_true_eq_false, not_false_eq_true, false_implies, true_implies, implies_true, eq_self, reduceCtorEq, Nat.reduceDiv, Nat.reduceMod, Int.reduceToNat, or_true, true_or, or_false, false_or, or_self, m_it, m_if, m_c1, m_01, m_02, m_03, m_04, m_10, m_12, m_13, m_14, m_20, m_21, m_23, m_24, m_30, m_31, m_32, m_34, m_40, m_41, m_42, m_43, Int.reduceLE, Int.reduceLT, Int.reduceGE, Int.reduceGT, Int.reduceNeg, Int.reduceAdd, Int.reduceSub, Int.reduceMul, Int.reduceEq, Int.reduceNe, Nat.reduceAdd, jun2, ro_0_0, ro_0_1, ro_0_2, ro_0_3, ro_0_4, ro_0_5, ro_0_6, ro_0_7, ro_0_8, ro_0_9, ro_0_10, ro_0_11, ro_0_12, ro_1_0, ro_1_1, ro_2_0, ro_4_0, ro_6_0, ro_6_1, ro_6_2, ro_6_3, ro_6_4, ro_6_5, ro_6_6, ro_6_7, ro_6_8, ro_8_0, ro_10_0, ro_12_0, ro_14_0, ro_16_0, ro_18_0, ro_20_0, ro_22_0, ro_22_1, ro_22_2, ro_23_0, ro_25_0, ro_27_0, ro_29_0, ro_29_1, ro_29_2, ro_29_3, ro_29_4, ro_29_5, ro_29_6, ro_29_7, ro_29_8, ro_31_0, ro_33_0, ro_35_0, ro_37_0, ro_39_0, ro_41_0, ro_43_0, ro_45_0, ro_45_1, ro_45_2, ro_46_0, ro_48_0, ro_50_0, ro_52_0, ro_52_1, ro_52_2, ro_52_3, ro_53_0, ro_55_0, ro_57_0, ro_59_0, ro_61_0, ro_61_1, ro_61_2, ro_61_3, ro_62_0, ro_64_0, ro_66_0, ro_68_0, ro_70_0, ro_70_1, ro_70_2, ro_70_3, ro_70_4, ro_70_5, ro_70_6, ro_70_7, ro_70_8, ro_70_9, ro_71_0, ro_73_0, ro_75_0, ro_77_0, ro_79_0, ro_81_0, ro_83_0, ro_85_0, ro_87_0, ro_89_0, ro_91_0, ro_91_1, ro_91_2, ro_91_3, ro_91_4, ro_91_5, ro_91_6, ro_91_7, ro_91_8, ro_91_9, ro_92_0, ro_94_0, ro_96_0, ro_98_0, ro_100_0, ro_102_0, ro_104_0, ro_106_0, ro_108_0, ro_110_0, ro_112_0, ro_112_1, ro_112_2, ro_112_3, ro_112_4, ro_112_5, ro_112_6, ro_112_7, ro_112_8, ro_112_9, ro_113_0, ro_115_0, ro_117_0, ro_119_0, ro_121_0, ro_123_0, ro_125_0, ro_127_0, ro_129_0, ro_131_0, ro_133_0, ro_133_1, ro_133_2, ro_133_3, ro_133_4, ro_133_5, ro_133_6, ro_133_7, ro_133_8, ro_133_9, ro_134_0, ro_136_0, ro_138_0, ro_140_0, ro_142_0, ro_144_0, ro_146_0, ro_148_0, ro_150_0, ro_152_0, ro_154_0, ro_155_0, ro_157_0, ro_157_1, ro_157_2, ro_157_3, ro_157_4, ro_157_5, ro_157_6, ro_157_7, ro_157_8, ro_157_9, ro_158_0, ro_160_0, ro_162_0, ro_164_0, ro_166_0, ro_168_0, ro_170_0, ro_172_0, ro_174_0, ro_176_0, ro_178_0, ro_180_0, ro_182_1, ro_182_4, ro_182_5, ro_182_6, ro_182_9, ro_182_10, ro_182_11, ro_182_13, ro_182_14, ro_182_15, ro_182_16, ro_182_17, ro_182_20, ro_182_21, ro_182_22, ro_182_23, ro_182_24, ro_182_26, ro_182_27, ro_182_28, lo_3, lo_5, lo_7, lo_9, lo_11, lo_13, lo_15, lo_17, lo_19, lo_21, lo_24, lo_26, lo_28, lo_30, lo_32, lo_34, lo_36, lo_38, lo_40, lo_42, lo_44, lo_47, lo_49, lo_51, lo_54, lo_56, lo_58, lo_60, lo_63, lo_65, lo_67, lo_69, lo_72, lo_74, lo_76, lo_78, lo_80, lo_82, lo_84, lo_86, lo_88, lo_90, lo_93, lo_95, lo_97, lo_99, lo_101, lo_103, lo_105, lo_107, lo_109, lo_111, lo_114, lo_116, lo_118, lo_120, lo_122, lo_124, lo_126, lo_128, lo_130, lo_132, lo_135, lo_137, lo_139, lo_141, lo_143, lo_145, lo_147, lo_149, lo_151, lo_153, lo_156, lo_159, lo_161, lo_163, lo_165, lo_167, lo_169, lo_171, lo_173, lo_175, lo_177, lo_179, lo_181, lo_183, lo_184, lo_185, lo_186, lo_187, lo_188, lo_189, lo_190, lo_191, lo_192, lo_193, lo_194, lo_195, lo_196, lo_197, lo_198, lo_199, lo_200, lo_201, lo_202, lo_203, jp_nn, jp_eq, jp_e1, Classical.not_not, ji0, ji1, ji2, cs48_54, kk_54, jl_0, jl_1, jl_2, jl_3, jl_4, jl_5, jl_6, jl_7, jl_8, jl_9, jl_10, jl_11, jl_12, jl_13, jl_14, jl_15, jl_16, jl_17, jl_18, jl_19, jl_20, jl_21, jl_22, jl_23, jl_24, jl_25, jl_26, jl_27, jl_28, jl_29, jl_30, jl_31, jl_32, jl_33, jl_34, jl_35, jl_36, jl_37, jl_38, jl_39, jl_40, jl_95, jl_96, jl_97, jl_98, jl_99, jl_100, jl_101, jl_102, jl_103, jl_104, jl_105, jl_106, jl_107, jl_108, jl_109, jl_110, jl_111, jl_112, jl_113, jl_114, jl_186, jl_1100, jr, ju, jpT, jpF, tnc, Nat.reduceEqDiff, reduceIte, and_false, false_and, not_true_eq_false, not_false_eq_true, or_false, gt_iff_lt, ge_iff_le, Int.lt_irrefl, Int.le_refl, y1, y2]
        exact hQ
      | succ j =>
        have e0 : ((j + 1 : Nat) : Int) - 1 = (j : Int) := by omega
        have y1 : (0 : Int) ≤ (j : Int) := by omega
        have y2 : ¬ (j : Int) < 0 := by omega
        have e2_w : j32 (((13 * mn_w : Nat) : Int) + (j : Int)) = ((13 * mn_w + j : Nat) : Int) := jcn (by omega) (by omega)
        have e3_w : rg h1 92 ((13 * mn_w + j : Nat) : Int) = h1 93 (13 * mn_w + j) := rg_in (o := 92) (c := 93) (n := 78) ro_92_0 lo_93 (by omega)
        have e4_w : j32 ((j : Int) + -1) = (j : Int) - 1 := j32_id (by omega) (by omega)
        have e6_w : j32 ((j : Int) - 1) = (j : Int) - 1 := j32_id (by omega) (by omega)
        rw [e0]
        by_cases y3 : h1 93 (13 * mn_w + j) = -1
        · simp only [qe_1, qe_3, qe_4, qe_5, qe_7, qe_72, qe_10, qe_102, qe_13, qe_14, qe_15, qe_16, qe_17, qe_18, qe_20, qe_22, qe_23, qe_21, qe_24, qe_25, qe_26, qe_27, qe_28, qe_30, qe_31, qe_32, qc_20, qc_22, qc_23, qc_21, qc_24, qc_25, qc_26, qc_27, qc_1, qc_3, qc_4, qc_7, qc_13, qc_28, qc_32, qs_1, qs_2, qs_3, qs_4, qs_5, qs_6, qs_9, qs_10, qs_11, qs_14, qs_15, qs_16, qs_27, qs_17, qs_18, qs_19, qs_20, qs_22, qs_23, qs_28, qs_25, qs_26, qs_7, qs_8, kc_1, kn_1, kc_2, kn_2, kc_3, kn_3, kc_4, kn_4, kc_5, kn_5, kc_6, kn_6, kc_7, kn_7, kc_8, kn_8, kc_9, kn_9, kc_10, kn_10, kc_11, kn_11, kc_12, kn_12, kc_13, kn_13, kc_14, kn_14, kc_15, kn_15, kc_16, kc_17, kc_18, kc_19, kc_20, kc_21, kc_22, kc_23, kc_30, kc_32, kc_40, kc_43, kc_45, kc_48, kc_52, kc_56, kc_57, kc_59, kc_60, kc_61, kc_63, kc_64, kc_72, kc_78, kc_97, kc_99, kc_122, kc_126, kc_128, kc_192, kc_200, kc_255, kc_999, kc_1000, kc_9999, kn_9999, kc_10000, kc_12345, kc_65536, kc_252645135, kc_858993459, kc_1103515245, kc_1431655765, kc_2147483647, kc_0, kc_24, kc_28, kc_37, kc_41, kc_42, kc_73, kc_91, kc_95, kc_96, kc_98, kc_100, kc_112, kc_125, kc_150, kc_162, kc_163, kc_168, kc_186, kc_190, kc_250, kc_355, kc_356, kc_404, kc_405, kc_429, kc_573, kc_1002, kc_1100, kc_1891, kc_2200, kc_4719, kc_4869, kc_4881, kc_5148, kc_19741, kc_25433, kc_320403, kc_628412, kc_629093, kc_660401, kc_679843, kc_918640, kc_979410, kc_1178088, kc_6232410, kc_24644941, kc_36238189, kc_38270444, kc_392531318, kc_425693491, kc_1342154595, kc_2147483648, kc_42328242873, kc_891704255789, kc_1722105685577, kc_1858726030364, ct_0, ct_1, ct_2, ct_3, ct_4, ct_5, cf_0, cf_1, cf_2, cf_3, cf_4, cf_5, w_ty6, w_ty7, m_sv, m_z0, m_hd, m_g0, m_gs, m_s0, m_ss, m_ap, m_an, forall_const, true_and, and_true, ne_eq, not_true_eq_false, not_false_eq_true, false_implies, true_implies, implies_true, eq_self, reduceCtorEq, Nat.reduceDiv, Nat.reduceMod, Int.reduceToNat, or_true, true_or, or_false, false_or, or_self, m_it, m_if, m_c1, m_01, m_02, m_03, m_04, m_10, m_12, m_13, m_14, m_20, m_21, m_23, m_24, m_30, m_31, m_32, m_34, m_40, m_41, m_42, m_43, Int.reduceLE, Int.reduceLT, Int.reduceGE, Int.reduceGT, Int.reduceNeg, Int.reduceAdd, Int.reduceSub, Int.reduceMul, Int.reduceEq, Int.reduceNe, Nat.reduceAdd, jun2, ro_0_0, ro_0_1, ro_0_2, ro_0_3, ro_0_4, ro_0_5, ro_0_6, ro_0_7, ro_0_8, ro_0_9, ro_0_10, ro_0_11, ro_0_12, ro_1_0, ro_1_1, ro_2_0, ro_4_0, ro_6_0, ro_6_1, ro_6_2, ro_6_3, ro_6_4, ro_6_5, ro_6_6, ro_6_7, ro_6_8, ro_8_0, ro_10_0, ro_12_0, ro_14_0, ro_16_0, ro_18_0, ro_20_0, ro_22_0, ro_22_1, ro_22_2, ro_23_0, ro_25_0, ro_27_0, ro_29_0, ro_29_1, ro_29_2, ro_29_3, ro_29_4, ro_29_5, ro_29_6, ro_29_7, ro_29_8, ro_31_0, ro_33_0, ro_35_0, ro_37_0, ro_39_0, ro_41_0, ro_43_0, ro_45_0, ro_45_1, ro_45_2, ro_46_0, ro_48_0, ro_50_0, ro_52_0, ro_52_1, ro_52_2, ro_52_3, ro_53_0, ro_55_0, ro_57_0, ro_59_0, ro_61_0, ro_61_1, ro_61_2, ro_61_3, ro_62_0, ro_64_0, ro_66_0, ro_68_0, ro_70_0, ro_70_1, ro_70_2, ro_70_3, ro_70_4, ro_70_5, ro_70_6, ro_70_7, ro_70_8, ro_70_9, ro_71_0, ro_73_0, ro_75_0, ro_77_0, ro_79_0, ro_81_0, ro_83_0, ro_85_0, ro_87_0, ro_89_0, ro_91_0, ro_91_1, ro_91_2, ro_91_3, ro_91_4, ro_91_5, ro_91_6, ro_91_7, ro_91_8, ro_91_9, ro_92_0, ro_94_0, ro_96_0, ro_98_0, ro_100_0, ro_102_0, ro_104_0, ro_106_0, ro_108_0, ro_110_0, ro_112_0, ro_112_1, ro_112_2, ro_112_3, ro_112_4, ro_112_5, ro_112_6, ro_112_7, ro_112_8, ro_112_9, ro_113_0, ro_115_0, ro_117_0, ro_119_0, ro_121_0, ro_123_0, ro_125_0, ro_127_0, ro_129_0, ro_131_0, ro_133_0, ro_133_1, ro_133_2, ro_133_3, ro_133_4, ro_133_5, ro_133_6, ro_133_7, ro_133_8, ro_133_9, ro_134_0, ro_136_0, ro_138_0, ro_140_0, ro_142_0, ro_144_0, ro_146_0, ro_148_0, ro_150_0, ro_152_0, ro_154_0, ro_155_0, ro_157_0, ro_157_1, ro_157_2, ro_157_3, ro_157_4, ro_157_5, ro_157_6, ro_157_7, ro_157_8, ro_157_9, ro_158_0, ro_160_0, ro_162_0, ro_164_0, ro_166_0, ro_168_0, ro_170_0, ro_172_0, ro_174_0, ro_176_0, ro_178_0, ro_180_0, ro_182_1, ro_182_4, ro_182_5, ro_182_6, ro_182_9, ro_182_10, ro_182_11, ro_182_13, ro_182_14, ro_182_15, ro_182_16, ro_182_17, ro_182_20, ro_182_21, ro_182_22, ro_182_23, ro_182_24, ro_182_26, ro_182_27, ro_182_28, lo_3, lo_5, lo_7, lo_9, lo_11, lo_13, lo_15, lo_17, lo_19, lo_21, lo_24, lo_26, lo_28, lo_30, lo_32, lo_34, lo_36, lo_38, lo_40, lo_42, lo_44, lo_47, lo_49, lo_51, lo_54, lo_56, lo_58, lo_60, lo_63, lo_65, lo_67, lo_69, lo_72, lo_74, lo_76, lo_78, lo_80, lo_82, lo_84, lo_86, lo_88, lo_90, lo_93, lo_95, lo_97, lo_99, lo_101, lo_103, lo_105, lo_107, lo_109, lo_111, lo_114, lo_116, lo_118, lo_120, lo_122, lo_124, lo_126, lo_128, lo_130, lo_132, lo_135, lo_137, lo_139, lo_141, lo_143, lo_145, lo_147, lo_149, lo_151, lo_153, lo_156, lo_159, lo_161, lo_163, lo_165, lo_167, lo_169, lo_171, lo_173, lo_175, lo_177, lo_179, lo_181, lo_183, lo_184, lo_185, lo_186, lo_187, lo_188, lo_189, lo_190, lo_191, lo_192, lo_193, lo_194, lo_195, lo_196, lo_197, lo_198, lo_199, lo_200, lo_201, lo_202, lo_203, jp_nn, jp_eq, jp_e1, Classical.not_not, ji0, ji1, ji2, cs48_54, kk_54, jl_0, jl_1, jl_2, jl_3, jl_4, jl_5, jl_6, jl_7, jl_8, jl_9, jl_10, jl_11, jl_12, jl_13, jl_14, jl_15, jl_16, jl_17, jl_18, jl_19, jl_20, jl_21, jl_22, jl_23, jl_24, jl_25, jl_26, jl_27, jl_28, jl_29, jl_30, jl_31, jl_32, jl_33, jl_34, jl_35, jl_36, jl_37, jl_38, jl_39, jl_40, jl_95, jl_96, jl_97, jl_98, jl_99, jl_100, jl_101, jl_102, jl_103, jl_104, jl_105, jl_106, jl_107, jl_108, jl_109, jl_110, jl_111, jl_112, jl_113, jl_114, jl_186, jl_1100, jr, ju, jpT, jpF, tnc, Nat.reduceEqDiff, reduceIte, and_false, false_and, not_true_eq_false, not_false_eq_true, or_false, gt_iff_lt, ge_iff_le, Int.lt_irrefl, Int.le_refl, y1, y2, e1_w, e2_w, e3_w, y3, e4_w, e6_w]
          exact ⟨j, rfl, by omega, z3.trans (if_pos y3)⟩
        · simp only [qe_1, qe_3, qe_4, qe_5, qe_7, qe_72, qe_10, qe_102, qe_13, qe_14, qe_15, qe_16, qe_17, qe_18, qe_20, qe_22, qe_23, qe_21, qe_24, qe_25, qe_26, qe_27, qe_28, qe_30, qe_31, qe_32, qc_20, qc_22, qc_23, qc_21, qc_24, qc_25, qc_26, qc_27, qc_1, qc_3, qc_4, qc_7, qc_13, qc_28, qc_32, qs_1, qs_2, qs_3, qs_4, qs_5, qs_6, qs_9, qs_10, qs_11, qs_14, qs_15, qs_16, qs_27, qs_17, qs_18, qs_19, qs_20, qs_22, qs_23, qs_28, qs_25, qs_26, qs_7, qs_8, kc_1, kn_1, kc_2, kn_2, kc_3, kn_3, kc_4, kn_4, kc_5, kn_5, kc_6, kn_6, kc_7, kn_7, kc_8, kn_8, kc_9, kn_9, kc_10, kn_10, kc_11, kn_11, kc_12, kn_12, kc_13, kn_13, kc_14, kn_14, kc_15, kn_15, kc_16, kc_17, kc_18, kc_19, kc_20, kc_21, kc_22, kc_23, kc_30, kc_32, kc_40, kc_43, kc_45, kc_48, kc_52, kc_56, kc_57, kc_59, kc_60, kc_61, kc_63, kc_64, kc_72, kc_78, kc_97, kc_99, kc_122, kc_126, kc_128, kc_192, kc_200, kc_255, kc_999, kc_1000, kc_9999, kn_9999, kc_10000, kc_12345, kc_65536, kc_252645135, kc_858993459, kc_1103515245, kc_1431655765, kc_2147483647, kc_0, kc_24, kc_28, kc_37, kc_41, kc_42, kc_73, kc_91, kc_95, kc_96, kc_98, kc_100, kc_112, kc_125, kc_150, kc_162, kc_163, kc_168, kc_186, kc_190, kc_250, kc_355, kc_356, kc_404, kc_405, kc_429, kc_573, kc_1002, kc_1100, kc_1891, kc_2200, kc_4719, kc_4869, kc_4881, kc_5148, kc_19741, kc_25433, kc_320403, kc_628412, kc_629093, kc_660401, kc_679843, kc_918640, kc_979410, kc_1178088, kc_6232410, kc_24644941, kc_36238189, kc_38270444, kc_392531318, kc_425693491, kc_1342154595, kc_2147483648, kc_42328242873, kc_891704255789, kc_1722105685577, kc_1858726030364, ct_0, ct_1, ct_2, ct_3, ct_4, ct_5, cf_0, cf_1, cf_2, cf_3, cf_4, cf_5, w_ty6, w_ty7, m_sv, m_z0, m_hd, m_g0, m_gs, m_s0, m_ss, m_ap, m_an, forall_const, true_and, and_true, ne_eq, not_true_eq_false, not_false_eq_true, false_implies, true_implies, implies_true, eq_self, reduceCtorEq, Nat.reduceDiv, Nat.reduceMod, Int.reduceToNat, or_true, true_or, or_false, false_or, or_self, m_it, m_if, m_c1, m_01, m_02, m_03, m_04, m_10, m_12, m_13, m_14, m_20, m_21, m_23, m_24, m_30, m_31, m_32, m_34, m_40, m_41, m_42, m_43, Int.reduceLE, Int.reduceLT, Int.reduceGE, Int.reduceGT, Int.reduceNeg, Int.reduceAdd, Int.reduceSub, Int.reduceMul, Int.reduceEq, Int.reduceNe, Nat.reduceAdd, jun2, ro_0_0, ro_0_1, ro_0_2, ro_0_3, ro_0_4, ro_0_5, ro_0_6, ro_0_7, ro_0_8, ro_0_9, ro_0_10, ro_0_11, ro_0_12, ro_1_0, ro_1_1, ro_2_0, ro_4_0, ro_6_0, ro_6_1, ro_6_2, ro_6_3, ro_6_4, ro_6_5, ro_6_6, ro_6_7, ro_6_8, ro_8_0, ro_10_0, ro_12_0, ro_14_0, ro_16_0, ro_18_0, ro_20_0, ro_22_0, ro_22_1, ro_22_2, ro_23_0, ro_25_0, ro_27_0, ro_29_0, ro_29_1, ro_29_2, ro_29_3, ro_29_4, ro_29_5, ro_29_6, ro_29_7, ro_29_8, ro_31_0, ro_33_0, ro_35_0, ro_37_0, ro_39_0, ro_41_0, ro_43_0, ro_45_0, ro_45_1, ro_45_2, ro_46_0, ro_48_0, ro_50_0, ro_52_0, ro_52_1, ro_52_2, ro_52_3, ro_53_0, ro_55_0, ro_57_0, ro_59_0, ro_61_0, ro_61_1, ro_61_2, ro_61_3, ro_62_0, ro_64_0, ro_66_0, ro_68_0, ro_70_0, ro_70_1, ro_70_2, ro_70_3, ro_70_4, ro_70_5, ro_70_6, ro_70_7, ro_70_8, ro_70_9, ro_71_0, ro_73_0, ro_75_0, ro_77_0, ro_79_0, ro_81_0, ro_83_0, ro_85_0, ro_87_0, ro_89_0, ro_91_0, ro_91_1, ro_91_2, ro_91_3, ro_91_4, ro_91_5, ro_91_6, ro_91_7, ro_91_8, ro_91_9, ro_92_0, ro_94_0, ro_96_0, ro_98_0, ro_100_0, ro_102_0, ro_104_0, ro_106_0, ro_108_0, ro_110_0, ro_112_0, ro_112_1, ro_112_2, ro_112_3, ro_112_4, ro_112_5, ro_112_6, ro_112_7, ro_112_8, ro_112_9, ro_113_0, ro_115_0, ro_117_0, ro_119_0, ro_121_0, ro_123_0, ro_125_0, ro_127_0, ro_129_0, ro_131_0, ro_133_0, ro_133_1, ro_133_2, ro_133_3, ro_133_4, ro_133_5, ro_133_6, ro_133_7, ro_133_8, ro_133_9, ro_134_0, ro_136_0, ro_138_0, ro_140_0, ro_142_0, ro_144_0, ro_146_0, ro_148_0, ro_150_0, ro_152_0, ro_154_0, ro_155_0, ro_157_0, ro_157_1, ro_157_2, ro_157_3, ro_157_4, ro_157_5, ro_157_6, ro_157_7, ro_157_8, ro_157_9, ro_158_0, ro_160_0, ro_162_0, ro_164_0, ro_166_0, ro_168_0, ro_170_0, ro_172_0, ro_174_0, ro_176_0, ro_178_0, ro_180_0, ro_182_1, ro_182_4, ro_182_5, ro_182_6, ro_182_9, ro_182_10, ro_182_11, ro_182_13, ro_182_14, ro_182_15, ro_182_16, ro_182_17, ro_182_20, ro_182_21, ro_182_22, ro_182_23, ro_182_24, ro_182_26, ro_182_27, ro_182_28, lo_3, lo_5, lo_7, lo_9, lo_11, lo_13, lo_15, lo_17, lo_19, lo_21, lo_24, lo_26, lo_28, lo_30, lo_32, lo_34, lo_36, lo_38, lo_40, lo_42, lo_44, lo_47, lo_49, lo_51, lo_54, lo_56, lo_58, lo_60, lo_63, lo_65, lo_67, lo_69, lo_72, lo_74, lo_76, lo_78, lo_80, lo_82, lo_84, lo_86, lo_88, lo_90, lo_93, lo_95, lo_97, lo_99, lo_101, lo_103, lo_105, lo_107, lo_109, lo_111, lo_114, lo_116, lo_118, lo_120, lo_122, lo_124, lo_126, lo_128, lo_130, lo_132, lo_135, lo_137, lo_139, lo_141, lo_143, lo_145, lo_147, lo_149, lo_151, lo_153, lo_156, lo_159, lo_161, lo_163, lo_165, lo_167, lo_169, lo_171, lo_173, lo_175, lo_177, lo_179, lo_181, lo_183, lo_184, lo_185, lo_186, lo_187, lo_188, lo_189, lo_190, lo_191, lo_192, lo_193, lo_194, lo_195, lo_196, lo_197, lo_198, lo_199, lo_200, lo_201, lo_202, lo_203, jp_nn, jp_eq, jp_e1, Classical.not_not, ji0, ji1, ji2, cs48_54, kk_54, jl_0, jl_1, jl_2, jl_3, jl_4, jl_5, jl_6, jl_7, jl_8, jl_9, jl_10, jl_11, jl_12, jl_13, jl_14, jl_15, jl_16, jl_17, jl_18, jl_19, jl_20, jl_21, jl_22, jl_23, jl_24, jl_25, jl_26, jl_27, jl_28, jl_29, jl_30, jl_31, jl_32, jl_33, jl_34, jl_35, jl_36, jl_37, jl_38, jl_39, jl_40, jl_95, jl_96, jl_97, jl_98, jl_99, jl_100, jl_101, jl_102, jl_103, jl_104, jl_105, jl_106, jl_107, jl_108, jl_109, jl_110, jl_111, jl_112, jl_113, jl_114, jl_186, jl_1100, jr, ju, jpT, jpF, tnc, Nat.reduceEqDiff, reduceIte, and_false, false_and, not_true_eq_false, not_false_eq_true, or_false, gt_iff_lt, ge_iff_le, Int.lt_irrefl, Int.le_refl, y1, y2, e1_w, e2_w, e3_w, y3]
          rw [z3, lastR, if_neg y3] at hQ
          exact hQ
  · exact hQ.elim
theorem m_151 : BodyOK CS48 CS48 151 := fun av h Q hQ => by
  rw [cs48_151] at hQ
  unfold k151 at hQ
  split at hQ
  · rename_i o m p l
    obtain ⟨b, mn_w, pn, ln, hb_w, rfl, rfl, hm_w, rfl, rfl, hp, hl, hQ⟩ := hQ
    have e1_w := m13 hm_w
    have ep := jk1 (k := pn) (by omega)
    rcases hb_w with rfl | rfl
    · show pS CS48 bb_151 [70, (mn_w : Int), (pn : Int), (ln : Int), 0] h _
      unfold bb_151
      have hQ : Q 1 [nextR (fun k => h 72 (13 * mn_w + k)) (ln - pn) (pn + 1)] h := hQ
      simp only [qe_1, qe_3, qe_4, qe_5, qe_7, qe_72, qe_10, qe_102, qe_13, qe_14, qe_15, qe_16, qe_17, qe_18, qe_20, qe_22, qe_23, qe_21, qe_24, qe_25, qe_26, qe_27, qe_28, qe_30, qe_31, qe_32, qc_20, qc_22, qc_23, qc_21, qc_24, qc_25, qc_26, qc_27, qc_1, qc_3, qc_4, qc_7, qc_13, qc_28, qc_32, qs_1, qs_2, qs_3, qs_4, qs_5, qs_6, qs_9, qs_10, qs_11, qs_14, qs_15, qs_16, qs_27, qs_17, qs_18, qs_19, qs_20, qs_22, qs_23, qs_28, qs_25, qs_26, qs_7, qs_8, kc_1, kn_1, kc_2, kn_2, kc_3, kn_3, kc_4, kn_4, kc_5, kn_5, kc_6, kn_6, kc_7, kn_7, kc_8, kn_8, kc_9, kn_9, kc_10, kn_10, kc_11, kn_11, kc_12, kn_12, kc_13, kn_13, kc_14, kn_14, kc_15, kn_15, kc_16, kc_17, kc_18, kc_19, kc_20, kc_21, kc_22, kc_23, kc_30, kc_32, kc_40, kc_43, kc_45, kc_48, kc_52, kc_56, kc_57, kc_59, kc_60, kc_61, kc_63, kc_64, kc_72, kc_78, kc_97, kc_99, kc_122, kc_126, kc_128, kc_192, kc_200, kc_255, kc_999, kc_1000, kc_9999, kn_9999, kc_10000, kc_12345, kc_65536, kc_252645135, kc_858993459, kc_1103515245, kc_1431655765, kc_2147483647, kc_0, kc_24, kc_28, kc_37, kc_41, kc_42, kc_73, kc_91, kc_95, kc_96, kc_98, kc_100, kc_112, kc_125, kc_150, kc_162, kc_163, kc_168, kc_186, kc_190, kc_250, kc_355, kc_356, kc_404, kc_405, kc_429, kc_573, kc_1002, kc_1100, kc_1891, kc_2200, kc_4719, kc_4869, kc_4881, kc_5148, kc_19741, kc_25433, kc_320403, kc_628412, kc_629093, kc_660401, kc_679843, kc_918640, kc_979410, kc_1178088, kc_6232410, kc_24644941, kc_36238189, kc_38270444, kc_392531318, kc_425693491, kc_1342154595, kc_2147483648, kc_42328242873, kc_891704255789, kc_1722105685577, kc_1858726030364, ct_0, ct_1, ct_2, ct_3, ct_4, ct_5, cf_0, cf_1, cf_2, cf_3, cf_4, cf_5, w_ty6, w_ty7, m_sv, m_z0, m_hd, m_g0, m_gs, m_s0, m_ss, m_ap, m_an, forall_const, true_and, and_true, ne_eq, not_true_eq_false, not_false_eq_true, false_implies, true_implies, implies_true, eq_self, reduceCtorEq, Nat.reduceDiv, Nat.reduceMod, Int.reduceToNat, or_true, true_or, or_false, false_or, or_self, m_it, m_if, m_c1, m_01, m_02, m_03, m_04, m_10, m_12, m_13, m_14, m_20, m_21, m_23, m_24, m_30, m_31, m_32, m_34, m_40, m_41, m_42, m_43, Int.reduceLE, Int.reduceLT, Int.reduceGE, Int.reduceGT, Int.reduceNeg, Int.reduceAdd, Int.reduceSub, Int.reduceMul, Int.reduceEq, Int.reduceNe, Nat.reduceAdd, jun2, ro_0_0, ro_0_1, ro_0_2, ro_0_3, ro_0_4, ro_0_5, ro_0_6, ro_0_7, ro_0_8, ro_0_9, ro_0_10, ro_0_11, ro_0_12, ro_1_0, ro_1_1, ro_2_0, ro_4_0, ro_6_0, ro_6_1, ro_6_2, ro_6_3, ro_6_4, ro_6_5, ro_6_6, ro_6_7, ro_6_8, ro_8_0, ro_10_0, ro_12_0, ro_14_0, ro_16_0, ro_18_0, ro_20_0, ro_22_0, ro_22_1, ro_22_2, ro_23_0, ro_25_0, ro_27_0, ro_29_0, ro_29_1, ro_29_2, ro_29_3, ro_29_4, ro_29_5, ro_29_6, ro_29_7, ro_29_8, ro_31_0, ro_33_0, ro_35_0, ro_37_0, ro_39_0, ro_41_0, ro_43_0, ro_45_0, ro_45_1, ro_45_2, ro_46_0, ro_48_0, ro_50_0, ro_52_0, ro_52_1, ro_52_2, ro_52_3, ro_53_0, ro_55_0, ro_57_0, ro_59_0, ro_61_0, ro_61_1, ro_61_2, ro_61_3, ro_62_0, ro_64_0, ro_66_0, ro_68_0, ro_70_0, ro_70_1, ro_70_2, ro_70_3, ro_70_4, ro_70_5, ro_70_6, ro_70_7, ro_70_8, ro_70_9, ro_71_0, ro_73_0, ro_75_0, ro_77_0, ro_79_0, ro_81_0, ro_83_0, ro_85_0, ro_87_0, ro_89_0, ro_91_0, ro_91_1, ro_91_2, ro_91_3, ro_91_4, ro_91_5, ro_91_6, ro_91_7, ro_91_8, ro_91_9, ro_92_0, ro_94_0, ro_96_0, ro_98_0, ro_100_0, ro_102_0, ro_104_0, ro_106_0, ro_108_0, ro_110_0, ro_112_0, ro_112_1, ro_112_2, ro_112_3, ro_112_4, ro_112_5, ro_112_6, ro_112_7, ro_112_8, ro_112_9, ro_113_0, ro_115_0, ro_117_0, ro_119_0, ro_121_0, ro_123_0, ro_125_0, ro_127_0, ro_129_0, ro_131_0, ro_133_0, ro_133_1, ro_133_2, ro_133_3, ro_133_4, ro_133_5, ro_133_6, ro_133_7, ro_133_8, ro_133_9, ro_134_0, ro_136_0, ro_138_0, ro_140_0, ro_142_0, ro_144_0, ro_146_0, ro_148_0, ro_150_0, ro_152_0, ro_154_0, ro_155_0, ro_157_0, ro_157_1, ro_157_2, ro_157_3, ro_157_4, ro_157_5, ro_157_6, ro_157_7, ro_157_8, ro_157_9, ro_158_0, ro_160_0, ro_162_0, ro_164_0, ro_166_0, ro_168_0, ro_170_0, ro_172_0, ro_174_0, ro_176_0, ro_178_0, ro_180_0, ro_182_1, ro_182_4, ro_182_5, ro_182_6, ro_182_9, ro_182_10, ro_182_11, ro_182_13, ro_182_14, ro_182_15, ro_182_16, ro_182_17, ro_182_20, ro_182_21, ro_182_22, ro_182_23, ro_182_24, ro_182_26, ro_182_27, ro_182_28, lo_3, lo_5, lo_7, lo_9, lo_11, lo_13, lo_15, lo_17, lo_19, lo_21, lo_24, lo_26, lo_28, lo_30, lo_32, lo_34, lo_36, lo_38, lo_40, lo_42, lo_44, lo_47, lo_49, lo_51, lo_54, lo_56, lo_58, lo_60, lo_63, lo_65, lo_67, lo_69, lo_72, lo_74, lo_76, lo_78, lo_80, lo_82, lo_84, lo_86, lo_88, lo_90, lo_93, lo_95, lo_97, lo_99, lo_101, lo_103, lo_105, lo_107, lo_109, lo_111, lo_114, lo_116, lo_118, lo_120, lo_122, lo_124, lo_126, lo_128, lo_130, lo_132, lo_135, lo_137, lo_139, lo_141, lo_143, lo_145, lo_147, lo_149, lo_151, lo_153, lo_156, lo_159, lo_161, lo_163, lo_165, lo_167, lo_169, lo_171, lo_173, lo_175, lo_177, lo_179, lo_181, lo_183, lo_184, lo_185, lo_186, lo_187, lo_188, lo_189, lo_190, lo_191, lo_192, lo_193, lo_194, lo_195, lo_196, lo_197, lo_198, lo_199, lo_200, lo_201, lo_202, lo_203, jp_nn, jp_eq, jp_e1, Classical.not_not, ji0, ji1, ji2, cs48_54, kk_54, jl_0, jl_1, jl_2, jl_3, jl_4, jl_5, jl_6, jl_7, jl_8, jl_9, jl_10, jl_11, jl_12, jl_13, jl_14, jl_15, jl_16, jl_17, jl_18, jl_19, jl_20, jl_21, jl_22, jl_23, jl_24, jl_25, jl_26, jl_27, jl_28, jl_29, jl_30, jl_31, jl_32, jl_33, jl_34, jl_35, jl_36, jl_37, jl_38, jl_39, jl_40, jl_95, jl_96, jl_97, jl_98, jl_99, jl_100, jl_101, jl_102, jl_103, jl_104, jl_105, jl_106, jl_107, jl_108, jl_109, jl_110, jl_111, jl_112, jl_113, jl_114, jl_186, jl_1100, jr, ju, jpT, jpF, tnc, Nat.reduceEqDiff, reduceIte, and_false, false_and, not_true_eq_false, not_false_eq_true, or_false, gt_iff_lt, ge_iff_le, Int.lt_irrefl, Int.le_refl, ep]
      refine qp_lp (fun en h' => ∃ i n : Nat, en = [70, (mn_w : Int), (pn : Int), (ln : Int), (i : Int)] ∧ i + n = ln + 1 ∧ h' = h ∧ nextR (fun k => h 72 (13 * mn_w + k)) (ln - pn) (pn + 1) = nextR (fun k => h 72 (13 * mn_w + k)) n i) ⟨pn + 1, ln - pn, rfl, by omega, rfl, rfl⟩ ?_
      intro en h1 ⟨i, n, e5_w, z1, z2, z3⟩
      subst e5_w
      subst z2
      cases n with
      | zero =>
        have y1 : ¬ (i : Int) ≤ (ln : Int) := by omega
        have y2 : (ln : Int) < (i : Int) := by omega
        rw [z3] at hQ
        simp only [qe_1, qe_3, qe_4, qe_5, qe_7, qe_72, qe_10, qe_102, qe_13, qe_14, qe_15, qe_16, qe_17, qe_18, qe_20, qe_22, qe_23, qe_21, qe_24, qe_25, qe_26, qe_27, qe_28, qe_30, qe_31, qe_32, qc_20, qc_22, qc_23, qc_21, qc_24, qc_25, qc_26, qc_27, qc_1, qc_3, qc_4, qc_7, qc_13, qc_28, qc_32, qs_1, qs_2, qs_3, qs_4, qs_5, qs_6, qs_9, qs_10, qs_11, qs_14, qs_15, qs_16, qs_27, qs_17, qs_18, qs_19, qs_20, qs_22, qs_23, qs_28, qs_25, qs_26, qs_7, qs_8, kc_1, kn_1, kc_2, kn_2, kc_3, kn_3, kc_4, kn_4, kc_5, kn_5, kc_6, kn_6, kc_7, kn_7, kc_8, kn_8, kc_9, kn_9, kc_10, kn_10, kc_11, kn_11, kc_12, kn_12, kc_13, kn_13, kc_14, kn_14, kc_15, kn_15, kc_16, kc_17, kc_18, kc_19, kc_20, kc_21, kc_22, kc_23, kc_30, kc_32, kc_40, kc_43, kc_45, kc_48, kc_52, kc_56, kc_57, kc_59, kc_60, kc_61, kc_63, kc_64, kc_72, kc_78, kc_97, kc_99, kc_122, kc_126, kc_128, kc_192, kc_200, kc_255, kc_999, kc_1000, kc_9999, kn_9999, kc_10000, kc_12345, kc_65536, kc_252645135, kc_858993459, kc_1103515245, kc_1431655765, kc_2147483647, kc_0, kc_24, kc_28, kc_37, kc_41, kc_42, kc_73, kc_91, kc_95, kc_96, kc_98, kc_100, kc_112, kc_125, kc_150, kc_162, kc_163, kc_168, kc_186, kc_190, kc_250, kc_355, kc_356, kc_404, kc_405, kc_429, kc_573, kc_1002, kc_1100, kc_1891, kc_2200, kc_4719, kc_4869, kc_4881, kc_5148, kc_19741, kc_25433, kc_320403, kc_628412, kc_629093, kc_660401, kc_679843, kc_918640, kc_979410, kc_1178088, kc_6232410, kc_24644941, kc_36238189, kc_38270444, kc_392531318, kc_425693491, kc_1342154595, kc_2147483648, kc_42328242873, kc_891704255789, kc_1722105685577, kc_1858726030364, ct_0, ct_1, ct_2, ct_3, ct_4, ct_5, cf_0, cf_1, cf_2, cf_3, cf_4, cf_5, w_ty6, w_ty7, m_sv, m_z0, m_hd, m_g0, m_gs, m_s0, m_ss, m_ap, m_an, forall_const, true_and, and_true, ne_eq, not_true_eq_false, not_false_eq_true, false_implies, true_implies, implies_true, eq_self, reduceCtorEq, Nat.reduceDiv, Nat.reduceMod, Int.reduceToNat, or_true, true_or, or_false, false_or, or_self, m_it, m_if, m_c1, m_01, m_02, m_03, m_04, m_10, m_12, m_13, m_14, m_20, m_21, m_23, m_24, m_30, m_31, m_32, m_34, m_40, m_41, m_42, m_43, Int.reduceLE, Int.reduceLT, Int.reduceGE, Int.reduceGT, Int.reduceNeg, Int.reduceAdd, Int.reduceSub, Int.reduceMul, Int.reduceEq, Int.reduceNe, Nat.reduceAdd, jun2, ro_0_0, ro_0_1, ro_0_2, ro_0_3, ro_0_4, ro_0_5, ro_0_6, ro_0_7, ro_0_8, ro_0_9, ro_0_10, ro_0_11, ro_0_12, ro_1_0, ro_1_1, ro_2_0, ro_4_0, ro_6_0, ro_6_1, ro_6_2, ro_6_3, ro_6_4, ro_6_5, ro_6_6, ro_6_7, ro_6_8, ro_8_0, ro_10_0, ro_12_0, ro_14_0, ro_16_0, ro_18_0, ro_20_0, ro_22_0, ro_22_1, ro_22_2, ro_23_0, ro_25_0, ro_27_0, ro_29_0, ro_29_1, ro_29_2, ro_29_3, ro_29_4, ro_29_5, ro_29_6, ro_29_7, ro_29_8, ro_31_0, ro_33_0, ro_35_0, ro_37_0, ro_39_0, ro_41_0, ro_43_0, ro_45_0, ro_45_1, ro_45_2, ro_46_0, ro_48_0, ro_50_0, ro_52_0, ro_52_1, ro_52_2, ro_52_3, ro_53_0, ro_55_0, ro_57_0, ro_59_0, ro_61_0, ro_61_1, ro_61_2, ro_61_3, ro_62_0, ro_64_0, ro_66_0, ro_68_0, ro_70_0, ro_70_1, ro_70_2, ro_70_3, ro_70_4, ro_70_5, ro_70_6, ro_70_7, ro_70_8, ro_70_9, ro_71_0, ro_73_0, ro_75_0, ro_77_0, ro_79_0, ro_81_0, ro_83_0, ro_85_0, ro_87_0, ro_89_0, ro_91_0, ro_91_1, ro_91_2, ro_91_3, ro_91_4, ro_91_5, ro_91_6, ro_91_7, ro_91_8, ro_91_9, ro_92_0, ro_94_0, ro_96_0, ro_98_0, ro_100_0, ro_102_0, ro_104_0, ro_106_0, ro_108_0, ro_110_0, ro_112_0, ro_112_1, ro_112_2, ro_112_3, ro_112_4, ro_112_5, ro_112_6, ro_112_7, ro_112_8, ro_112_9, ro_113_0, ro_115_0, ro_117_0, ro_119_0, ro_121_0, ro_123_0, ro_125_0, ro_127_0, ro_129_0, ro_131_0, ro_133_0, ro_133_1, ro_133_2, ro_133_3, ro_133_4, ro_133_5, ro_133_6, ro_133_7, ro_133_8, ro_133_9, ro_134_0, ro_136_0, ro_138_0, ro_140_0, ro_142_0, ro_144_0, ro_146_0, ro_148_0, ro_150_0, ro_152_0, ro_154_0, ro_155_0, ro_157_0, ro_157_1, ro_157_2, ro_157_3, ro_157_4, ro_157_5, ro_157_6, ro_157_7, ro_157_8, ro_157_9, ro_158_0, ro_160_0, ro_162_0, ro_164_0, ro_166_0, ro_168_0, ro_170_0, ro_172_0, ro_174_0, ro_176_0, ro_178_0, ro_180_0, ro_182_1, ro_182_4, ro_182_5, ro_182_6, ro_182_9, ro_182_10, ro_182_11, ro_182_13, ro_182_14, ro_182_15, ro_182_16, ro_182_17, ro_182_20, ro_182_21, ro_182_22, ro_182_23, ro_182_24, ro_182_26, ro_182_27, ro_182_28, lo_3, lo_5, lo_7, lo_9, lo_11, lo_13, lo_15, lo_17, lo_19, lo_21, lo_24, lo_26, lo_28, lo_30, lo_32, lo_34, lo_36, lo_38, lo_40, lo_42, lo_44, lo_47, lo_49, lo_51, lo_54, lo_56, lo_58, lo_60, lo_63, lo_65, lo_67, lo_69, lo_72, lo_74, lo_76, lo_78, lo_80, lo_82, lo_84, lo_86, lo_88, lo_90, lo_93, lo_95, lo_97, lo_99, lo_101, lo_103, lo_105, lo_107, lo_109, lo_111, lo_114, lo_116, lo_118, lo_120, lo_122, lo_124, lo_126, lo_128, lo_130, lo_132, lo_135, lo_137, lo_139, lo_141, lo_143, lo_145, lo_147, lo_149, lo_151, lo_153, lo_156, lo_159, lo_161, lo_163, lo_165, lo_167, lo_169, lo_171, lo_173, lo_175, lo_177, lo_179, lo_181, lo_183, lo_184, lo_185, lo_186, lo_187, lo_188, lo_189, lo_190, lo_191, lo_192, lo_193, lo_194, lo_195, lo_196, lo_197, lo_198, lo_199, lo_200, lo_201, lo_202, lo_203, jp_nn, jp_eq, jp_e1, Classical.not_not, ji0, ji1, ji2, cs48_54, kk_54, jl_0, jl_1, jl_2, jl_3, jl_4, jl_5, jl_6, jl_7, jl_8, jl_9, jl_10, jl_11, jl_12, jl_13, jl_14, jl_15, jl_16, jl_17, jl_18, jl_19, jl_20, jl_21, jl_22, jl_23, jl_24, jl_25, jl_26, jl_27, jl_28, jl_29, jl_30, jl_31, jl_32, jl_33, jl_34, jl_35, jl_36, jl_37, jl_38, jl_39, jl_40, jl_95, jl_96, jl_97, jl_98, jl_99, jl_100, jl_101, jl_102, jl_103, jl_104, jl_105, jl_106, jl_107, jl_108, jl_109, jl_110, jl_111, jl_112, jl_113, jl_114, jl_186, jl_1100, jr, ju, jpT, jpF, tnc, Nat.reduceEqDiff, reduceIte, and_false, false_and, not_true_eq_false, not_false_eq_true, or_false, gt_iff_lt, ge_iff_le, Int.lt_irrefl, Int.le_refl, y1, y2]
        exact hQ
      | succ j =>
        have y1 : (i : Int) ≤ (ln : Int) := by omega
        have y2 : ¬ (ln : Int) < (i : Int) := by omega
        have e2_w : j32 (((13 * mn_w : Nat) : Int) + (i : Int)) = ((13 * mn_w + i : Nat) : Int) := jcn (by omega) (by omega)
        have e3_w : rg h1 71 ((13 * mn_w + i : Nat) : Int) = h1 72 (13 * mn_w + i) := rg_in (o := 71) (c := 72) (n := 78) ro_71_0 lo_72 (by omega)
        have ek := jk1 (k := i) (by omega)
        by_cases y3 : h1 72 (13 * mn_w + i) = -1
        · simp only [qe_1, qe_3, qe_4, qe_5, qe_7, qe_72, qe_10, qe_102, qe_13, qe_14, qe_15, qe_16, qe_17, qe_18, qe_20, qe_22, qe_23, qe_21, qe_24, qe_25, qe_26, qe_27, qe_28, qe_30, qe_31, qe_32, qc_20, qc_22, qc_23, qc_21, qc_24, qc_25, qc_26, qc_27, qc_1, qc_3, qc_4, qc_7, qc_13, qc_28, qc_32, qs_1, qs_2, qs_3, qs_4, qs_5, qs_6, qs_9, qs_10, qs_11, qs_14, qs_15, qs_16, qs_27, qs_17, qs_18, qs_19, qs_20, qs_22, qs_23, qs_28, qs_25, qs_26, qs_7, qs_8, kc_1, kn_1, kc_2, kn_2, kc_3, kn_3, kc_4, kn_4, kc_5, kn_5, kc_6, kn_6, kc_7, kn_7, kc_8, kn_8, kc_9, kn_9, kc_10, kn_10, kc_11, kn_11, kc_12, kn_12, kc_13, kn_13, kc_14, kn_14, kc_15, kn_15, kc_16, kc_17, kc_18, kc_19, kc_20, kc_21, kc_22, kc_23, kc_30, kc_32, kc_40, kc_43, kc_45, kc_48, kc_52, kc_56, kc_57, kc_59, kc_60, kc_61, kc_63, kc_64, kc_72, kc_78, kc_97, kc_99, kc_122, kc_126, kc_128, kc_192, kc_200, kc_255, kc_999, kc_1000, kc_9999, kn_9999, kc_10000, kc_12345, kc_65536, kc_252645135, kc_858993459, kc_1103515245, kc_1431655765, kc_2147483647, kc_0, kc_24, kc_28, kc_37, kc_41, kc_42, kc_73, kc_91, kc_95, kc_96, kc_98, kc_100, kc_112, kc_125, kc_150, kc_162, kc_163, kc_168, kc_186, kc_190, kc_250, kc_355, kc_356, kc_404, kc_405, kc_429, kc_573, kc_1002, kc_1100, kc_1891, kc_2200, kc_4719, kc_4869, kc_4881, kc_5148, kc_19741, kc_25433, kc_320403, kc_628412, kc_629093, kc_660401, kc_679843, kc_918640, kc_979410, kc_1178088, kc_6232410, kc_24644941, kc_36238189, kc_38270444, kc_392531318, kc_425693491, kc_1342154595, kc_2147483648, kc_42328242873, kc_891704255789, kc_1722105685577, kc_1858726030364, ct_0, ct_1, ct_2, ct_3, ct_4, ct_5, cf_0, cf_1, cf_2, cf_3, cf_4, cf_5, w_ty6, w_ty7, m_sv, m_z0, m_hd, m_g0, m_gs, m_s0, m_ss, m_ap, m_an, forall_const, true_and, and_true, ne_eq, not_true_eq_false, not_false_eq_true, false_implies, true_implies, implies_true, eq_self, reduceCtorEq, Nat.reduceDiv, Nat.reduceMod, Int.reduceToNat, or_true, true_or, or_false, false_or, or_self, m_it, m_if, m_c1, m_01, m_02, m_03, m_04, m_10, m_12, m_13, m_14, m_20, m_21, m_23, m_24, m_30, m_31, m_32, m_34, m_40, m_41, m_42, m_43, Int.reduceLE, Int.reduceLT, Int.reduceGE, Int.reduceGT, Int.reduceNeg, Int.reduceAdd, Int.reduceSub, Int.reduceMul, Int.reduceEq, Int.reduceNe, Nat.reduceAdd, jun2, ro_0_0, ro_0_1, ro_0_2, ro_0_3, ro_0_4, ro_0_5, ro_0_6, ro_0_7, ro_0_8, ro_0_9, ro_0_10, ro_0_11, ro_0_12, ro_1_0, ro_1_1, ro_2_0, ro_4_0, ro_6_0, ro_6_1, ro_6_2, ro_6_3, ro_6_4, ro_6_5, ro_6_6, ro_6_7, ro_6_8, ro_8_0, ro_10_0, ro_12_0, ro_14_0, ro_16_0, ro_18_0, ro_20_0, ro_22_0, ro_22_1, ro_22_2, ro_23_0, ro_25_0, ro_27_0, ro_29_0, ro_29_1, ro_29_2, ro_29_3, ro_29_4, ro_29_5, ro_29_6, ro_29_7, ro_29_8, ro_31_0, ro_33_0, ro_35_0, ro_37_0, ro_39_0, ro_41_0, ro_43_0, ro_45_0, ro_45_1, ro_45_2, ro_46_0, ro_48_0, ro_50_0, ro_52_0, ro_52_1, ro_52_2, ro_52_3, ro_53_0, ro_55_0, ro_57_0, ro_59_0, ro_61_0, ro_61_1, ro_61_2, ro_61_3, ro_62_0, ro_64_0, ro_66_0, ro_68_0, ro_70_0, ro_70_1, ro_70_2, ro_70_3, ro_70_4, ro_70_5, ro_70_6, ro_70_7, ro_70_8, ro_70_9, ro_71_0, ro_73_0, ro_75_0, ro_77_0, ro_79_0, ro_81_0, ro_83_0, ro_85_0, ro_87_0, ro_89_0, ro_91_0, ro_91_1, ro_91_2, ro_91_3, ro_91_4, ro_91_5, ro_91_6, ro_91_7, ro_91_8, ro_91_9, ro_92_0, ro_94_0, ro_96_0, ro_98_0, ro_100_0, ro_102_0, ro_104_0, ro_106_0, ro_108_0, ro_110_0, ro_112_0, ro_112_1, ro_112_2, ro_112_3, ro_112_4, ro_112_5, ro_112_6, ro_112_7, ro_112_8, ro_112_9, ro_113_0, ro_115_0, ro_117_0, ro_119_0, ro_121_0, ro_123_0, ro_125_0, ro_127_0, ro_129_0, ro_131_0, ro_133_0, ro_133_1, ro_133_2, ro_133_3, ro_133_4, ro_133_5, ro_133_6, ro_133_7, ro_133_8, ro_133_9, ro_134_0, ro_136_0, ro_138_0, ro_140_0, ro_142_0, ro_144_0, ro_146_0, ro_148_0, ro_150_0, ro_152_0, ro_154_0, ro_155_0, ro_157_0, ro_157_1, ro_157_2, ro_157_3, ro_157_4, ro_157_5, ro_157_6, ro_157_7, ro_157_8, ro_157_9, ro_158_0, ro_160_0, ro_162_0, ro_164_0, ro_166_0, ro_168_0, ro_170_0, ro_172_0, ro_174_0, ro_176_0, ro_178_0, ro_180_0, ro_182_1, ro_182_4, ro_182_5, ro_182_6, ro_182_9, ro_182_10, ro_182_11, ro_182_13, ro_182_14, ro_182_15, ro_182_16, ro_182_17, ro_182_20, ro_182_21, ro_182_22, ro_182_23, ro_182_24, ro_182_26, ro_182_27, ro_182_28, lo_3, lo_5, lo_7, lo_9, lo_11, lo_13, lo_15, lo_17, lo_19, lo_21, lo_24, lo_26, lo_28, lo_30, lo_32, lo_34, lo_36, lo_38, lo_40, lo_42, lo_44, lo_47, lo_49, lo_51, lo_54, lo_56, lo_58, lo_60, lo_63, lo_65, lo_67, lo_69, lo_72, lo_74, lo_76, lo_78, lo_80, lo_82, lo_84, lo_86, lo_88, lo_90, lo_93, lo_95, lo_97, lo_99, lo_101, lo_103, lo_105, lo_107, lo_109, lo_111, lo_114, lo_116, lo_118, lo_120, lo_122, lo_124, lo_126, lo_128, lo_130, lo_132, lo_135, lo_137, lo_139, lo_141, lo_143, lo_145, lo_147, lo_149, lo_151, lo_153, lo_156, lo_159, lo_161, lo_163, lo_165, lo_167, lo_169, lo_171, lo_173, lo_175, lo_177, lo_179, lo_181, lo_183, lo_184, lo_185, lo_186, lo_187, lo_188, lo_189, lo_190, lo_191, lo_192, lo_193, lo_194, lo_195, lo_196, lo_197, lo_198, lo_199, lo_200, lo_201, lo_202, lo_203, jp_nn, jp_eq, jp_e1, Classical.not_not, ji0, ji1, ji2, cs48_54, kk_54, jl_0, jl_1, jl_2, jl_3, jl_4, jl_5, jl_6, jl_7, jl_8, jl_9, jl_10, jl_11, jl_12, jl_13, jl_14, jl_15, jl_16, jl_17, jl_18, jl_19, jl_20, jl_21, jl_22, jl_23, jl_24, jl_25, jl_26, jl_27, jl_28, jl_29, jl_30, jl_31, jl_32, jl_33, jl_34, jl_35, jl_36, jl_37, jl_38, jl_39, jl_40, jl_95, jl_96, jl_97, jl_98, jl_99, jl_100, jl_101, jl_102, jl_103, jl_104, jl_105, jl_106, jl_107, jl_108, jl_109, jl_110, jl_111, jl_112, jl_113, jl_114, jl_186, jl_1100, jr, ju, jpT, jpF, tnc, Nat.reduceEqDiff, reduceIte, and_false, false_and, not_true_eq_false, not_false_eq_true, or_false, gt_iff_lt, ge_iff_le, Int.lt_irrefl, Int.le_refl, y1, y2, e1_w, e2_w, e3_w, y3, ek]
          exact ⟨i + 1, j, rfl, by omega, z3.trans (if_pos y3)⟩
        · simp only [qe_1, qe_3, qe_4, qe_5, qe_7, qe_72, qe_10, qe_102, qe_13, qe_14, qe_15, qe_16, qe_17, qe_18, qe_20, qe_22, qe_23, qe_21, qe_24, qe_25, qe_26, qe_27, qe_28, qe_30, qe_31, qe_32, qc_20, qc_22, qc_23, qc_21, qc_24, qc_25, qc_26, qc_27, qc_1, qc_3, qc_4, qc_7, qc_13, qc_28, qc_32, qs_1, qs_2, qs_3, qs_4, qs_5, qs_6, qs_9, qs_10, qs_11, qs_14, qs_15, qs_16, qs_27, qs_17, qs_18, qs_19, qs_20, qs_22, qs_23, qs_28, qs_25, qs_26, qs_7, qs_8, kc_1, kn_1, kc_2, kn_2, kc_3, kn_3, kc_4, kn_4, kc_5, kn_5, kc_6, kn_6, kc_7, kn_7, kc_8, kn_8, kc_9, kn_9, kc_10, kn_10, kc_11, kn_11, kc_12, kn_12, kc_13, kn_13, kc_14, kn_14, kc_15, kn_15, kc_16, kc_17, kc_18, kc_19, kc_20, kc_21, kc_22, kc_23, kc_30, kc_32, kc_40, kc_43, kc_45, kc_48, kc_52, kc_56, kc_57, kc_59, kc_60, kc_61, kc_63, kc_64, kc_72, kc_78, kc_97, kc_99, kc_122, kc_126, kc_128, kc_192, kc_200, kc_255, kc_999, kc_1000, kc_9999, kn_9999, kc_10000, kc_12345, kc_65536, kc_252645135, kc_858993459, kc_1103515245, kc_1431655765, kc_2147483647, kc_0, kc_24, kc_28, kc_37, kc_41, kc_42, kc_73, kc_91, kc_95, kc_96, kc_98, kc_100, kc_112, kc_125, kc_150, kc_162, kc_163, kc_168, kc_186, kc_190, kc_250, kc_355, kc_356, kc_404, kc_405, kc_429, kc_573, kc_1002, kc_1100, kc_1891, kc_2200, kc_4719, kc_4869, kc_4881, kc_5148, kc_19741, kc_25433, kc_320403, kc_628412, kc_629093, kc_660401, kc_679843, kc_918640, kc_979410, kc_1178088, kc_6232410, kc_24644941, kc_36238189, kc_38270444, kc_392531318, kc_425693491, kc_1342154595, kc_2147483648, kc_42328242873, kc_891704255789, kc_1722105685577, kc_1858726030364, ct_0, ct_1, ct_2, ct_3, ct_4, ct_5, cf_0, cf_1, cf_2, cf_3, cf_4, cf_5, w_ty6, w_ty7, m_sv, m_z0, m_hd, m_g0, m_gs, m_s0, m_ss, m_ap, m_an, forall_const, true_and, and_true, ne_eq, not_true_eq_false, not_false_eq_true, false_implies, true_implies, implies_true, eq_self, reduceCtorEq, Nat.reduceDiv, Nat.reduceMod, Int.reduceToNat, or_true, true_or, or_false, false_or, or_self, m_it, m_if, m_c1, m_01, m_02, m_03, m_04, m_10, m_12, m_13, m_14, m_20, m_21, m_23, m_24, m_30, m_31, m_32, m_34, m_40, m_41, m_42, m_43, Int.reduceLE, Int.reduceLT, Int.reduceGE, Int.reduceGT, Int.reduceNeg, Int.reduceAdd, Int.reduceSub, Int.reduceMul, Int.reduceEq, Int.reduceNe, Nat.reduceAdd, jun2, ro_0_0, ro_0_1, ro_0_2, ro_0_3, ro_0_4, ro_0_5, ro_0_6, ro_0_7, ro_0_8, ro_0_9, ro_0_10, ro_0_11, ro_0_12, ro_1_0, ro_1_1, ro_2_0, ro_4_0, ro_6_0, ro_6_1, ro_6_2, ro_6_3, ro_6_4, ro_6_5, ro_6_6, ro_6_7, ro_6_8, ro_8_0, ro_10_0, ro_12_0, ro_14_0, ro_16_0, ro_18_0, ro_20_0, ro_22_0, ro_22_1, ro_22_2, ro_23_0, ro_25_0, ro_27_0, ro_29_0, ro_29_1, ro_29_2, ro_29_3, ro_29_4, ro_29_5, ro_29_6, ro_29_7, ro_29_8, ro_31_0, ro_33_0, ro_35_0, ro_37_0, ro_39_0, ro_41_0, ro_43_0, ro_45_0, ro_45_1, ro_45_2, ro_46_0, ro_48_0, ro_50_0, ro_52_0, ro_52_1, ro_52_2, ro_52_3, ro_53_0, ro_55_0, ro_57_0, ro_59_0, ro_61_0, ro_61_1, ro_61_2, ro_61_3, ro_62_0, ro_64_0, ro_66_0, ro_68_0, ro_70_0, ro_70_1, ro_70_2, ro_70_3, ro_70_4, ro_70_5, ro_70_6, ro_70_7, ro_70_8, ro_70_9, ro_71_0, ro_73_0, ro_75_0, ro_77_0, ro_79_0, ro_81_0, ro_83_0, ro_85_0, ro_87_0, ro_89_0, ro_91_0, ro_91_1, ro_91_2, ro_91_3, ro_91_4, ro_91_5, ro_91_6, ro_91_7, ro_91_8, ro_91_9, ro_92_0, ro_94_0, ro_96_0, ro_98_0, ro_100_0, ro_102_0, ro_104_0, ro_106_0, ro_108_0, ro_110_0, ro_112_0, ro_112_1, ro_112_2, ro_112_3, ro_112_4, ro_112_5, ro_112_6, ro_112_7, ro_112_8, ro_112_9, ro_113_0, ro_115_0, ro_117_0, ro_119_0, ro_121_0, ro_123_0, ro_125_0, ro_127_0, ro_129_0, ro_131_0, ro_133_0, ro_133_1, ro_133_2, ro_133_3, ro_133_4, ro_133_5, ro_133_6, ro_133_7, ro_133_8, ro_133_9, ro_134_0, ro_136_0, ro_138_0, ro_140_0, ro_142_0, ro_144_0, ro_146_0, ro_148_0, ro_150_0, ro_152_0, ro_154_0, ro_155_0, ro_157_0, ro_157_1, ro_157_2, ro_157_3, ro_157_4, ro_157_5, ro_157_6, ro_157_7, ro_157_8, ro_157_9, ro_158_0, ro_160_0, ro_162_0, ro_164_0, ro_166_0, ro_168_0, ro_170_0, ro_172_0, ro_174_0, ro_176_0, ro_178_0, ro_180_0, ro_182_1, ro_182_4, ro_182_5, ro_182_6, ro_182_9, ro_182_10, ro_182_11, ro_182_13, ro_182_14, ro_182_15, ro_182_16, ro_182_17, ro_182_20, ro_182_21, ro_182_22, ro_182_23, ro_182_24, ro_182_26, ro_182_27, ro_182_28, lo_3, lo_5, lo_7, lo_9, lo_11, lo_13, lo_15, lo_17, lo_19, lo_21, lo_24, lo_26, lo_28, lo_30, lo_32, lo_34, lo_36, lo_38, lo_40, lo_42, lo_44, lo_47, lo_49, lo_51, lo_54, lo_56, lo_58, lo_60, lo_63, lo_65, lo_67, lo_69, lo_72, lo_74, lo_76, lo_78, lo_80, lo_82, lo_84, lo_86, lo_88, lo_90, lo_93, lo_95, lo_97, lo_99, lo_101, lo_103, lo_105, lo_107, lo_109, lo_111, lo_114, lo_116, lo_118, lo_120, lo_122, lo_124, lo_126, lo_128, lo_130, lo_132, lo_135, lo_137, lo_139, lo_141, lo_143, lo_145, lo_147, lo_149, lo_151, lo_153, lo_156, lo_159, lo_161, lo_163, lo_165, lo_167, lo_169, lo_171, lo_173, lo_175, lo_177, lo_179, lo_181, lo_183, lo_184, lo_185, lo_186, lo_187, lo_188, lo_189, lo_190, lo_191, lo_192, lo_193, lo_194, lo_195, lo_196, lo_197, lo_198, lo_199, lo_200, lo_201, lo_202, lo_203, jp_nn, jp_eq, jp_e1, Classical.not_not, ji0, ji1, ji2, cs48_54, kk_54, jl_0, jl_1, jl_2, jl_3, jl_4, jl_5, jl_6, jl_7, jl_8, jl_9, jl_10, jl_11, jl_12, jl_13, jl_14, jl_15, jl_16, jl_17, jl_18, jl_19, jl_20, jl_21, jl_22, jl_23, jl_24, jl_25, jl_26, jl_27, jl_28, jl_29, jl_30, jl_31, jl_32, jl_33, jl_34, jl_35, jl_36, jl_37, jl_38, jl_39, jl_40, jl_95, jl_96, jl_97, jl_98, jl_99, jl_100, jl_101, jl_102, jl_103, jl_104, jl_105, jl_106, jl_107, jl_108, jl_109, jl_110, jl_111, jl_112, jl_113, jl_114, jl_186, jl_1100, jr, ju, jpT, jpF, tnc, Nat.reduceEqDiff, reduceIte, and_false, false_and, not_true_eq_false, not_false_eq_true, or_false, gt_iff_lt, ge_iff_le, Int.lt_irrefl, Int.le_refl, y1, y2, e1_w, e2_w, e3_w, y3]
          rw [z3, nextR, if_neg y3] at hQ
          exact hQ
    · show pS CS48 bb_151 [91, (mn_w : Int), (pn : Int), (ln : Int), 0] h _
      unfold bb_151
      have hQ : Q 1 [nextR (fun k => h 93 (13 * mn_w + k)) (ln - pn) (pn + 1)] h := hQ
      simp only [qe_1, qe_3, qe_4, qe_5, qe_7, qe_72, qe_10, qe_102, qe_13, qe_14, qe_15, qe_16, qe_17, qe_18, qe_20, qe_22, qe_23, qe_21, qe_24, qe_25, qe_26, qe_27, qe_28, qe_30, qe_31, qe_32, qc_20, qc_22, qc_23, qc_21, qc_24, qc_25, qc_26, qc_27, qc_1, qc_3, qc_4, qc_7, qc_13, qc_28, qc_32, qs_1, qs_2, qs_3, qs_4, qs_5, qs_6, qs_9, qs_10, qs_11, qs_14, qs_15, qs_16, qs_27, qs_17, qs_18, qs_19, qs_20, qs_22, qs_23, qs_28, qs_25, qs_26, qs_7, qs_8, kc_1, kn_1, kc_2, kn_2, kc_3, kn_3, kc_4, kn_4, kc_5, kn_5, kc_6, kn_6, kc_7, kn_7, kc_8, kn_8, kc_9, kn_9, kc_10, kn_10, kc_11, kn_11, kc_12, kn_12, kc_13, kn_13, kc_14, kn_14, kc_15, kn_15, kc_16, kc_17, kc_18, kc_19, kc_20, kc_21, kc_22, kc_23, kc_30, kc_32, kc_40, kc_43, kc_45, kc_48, kc_52, kc_56, kc_57, kc_59, kc_60, kc_61, kc_63, kc_64, kc_72, kc_78, kc_97, kc_99, kc_122, kc_126, kc_128, kc_192, kc_200, kc_255, kc_999, kc_1000, kc_9999, kn_9999, kc_10000, kc_12345, kc_65536, kc_252645135, kc_858993459, kc_1103515245, kc_1431655765, kc_2147483647, kc_0, kc_24, kc_28, kc_37, kc_41, kc_42, kc_73, kc_91, kc_95, kc_96, kc_98, kc_100, kc_112, kc_125, kc_150, kc_162, kc_163, kc_168, kc_186, kc_190, kc_250, kc_355, kc_356, kc_404, kc_405, kc_429, kc_573, kc_1002, kc_1100, kc_1891, kc_2200, kc_4719, kc_4869, kc_4881, kc_5148, kc_19741, kc_25433, kc_320403, kc_628412, kc_629093, kc_660401, kc_679843, kc_918640, kc_979410, kc_1178088, kc_6232410, kc_24644941, kc_36238189, kc_38270444, kc_392531318, kc_425693491, kc_1342154595, kc_2147483648, kc_42328242873, kc_891704255789, kc_1722105685577, kc_1858726030364, ct_0, ct_1, ct_2, ct_3, ct_4, ct_5, cf_0, cf_1, cf_2, cf_3, cf_4, cf_5, w_ty6, w_ty7, m_sv, m_z0, m_hd, m_g0, m_gs, m_s0, m_ss, m_ap, m_an, forall_const, true_and, and_true, ne_eq, not_true_eq_false, not_false_eq_true, false_implies, true_implies, implies_true, eq_self, reduceCtorEq, Nat.reduceDiv, Nat.reduceMod, Int.reduceToNat, or_true, true_or, or_false, false_or, or_self, m_it, m_if, m_c1, m_01, m_02, m_03, m_04, m_10, m_12, m_13, m_14, m_20, m_21, m_23, m_24, m_30, m_31, m_32, m_34, m_40, m_41, m_42, m_43, Int.reduceLE, Int.reduceLT, Int.reduceGE, Int.reduceGT, Int.reduceNeg, Int.reduceAdd, Int.reduceSub, Int.reduceMul, Int.reduceEq, Int.reduceNe, Nat.reduceAdd, jun2, ro_0_0, ro_0_1, ro_0_2, ro_0_3, ro_0_4, ro_0_5, ro_0_6, ro_0_7, ro_0_8, ro_0_9, ro_0_10, ro_0_11, ro_0_12, ro_1_0, ro_1_1, ro_2_0, ro_4_0, ro_6_0, ro_6_1, ro_6_2, ro_6_3, ro_6_4, ro_6_5, ro_6_6, ro_6_7, ro_6_8, ro_8_0, ro_10_0, ro_12_0, ro_14_0, ro_16_0, ro_18_0, ro_20_0, ro_22_0, ro_22_1, ro_22_2, ro_23_0, ro_25_0, ro_27_0, ro_29_0, ro_29_1, ro_29_2, ro_29_3, ro_29_4, ro_29_5, ro_29_6, ro_29_7, ro_29_8, ro_31_0, ro_33_0, ro_35_0, ro_37_0, ro_39_0, ro_41_0, ro_43_0, ro_45_0, ro_45_1, ro_45_2, ro_46_0, ro_48_0, ro_50_0, ro_52_0, ro_52_1, ro_52_2, ro_52_3, ro_53_0, ro_55_0, ro_57_0, ro_59_0, ro_61_0, ro_61_1, ro_61_2, ro_61_3, ro_62_0, ro_64_0, ro_66_0, ro_68_0, ro_70_0, ro_70_1, ro_70_2, ro_70_3, ro_70_4, ro_70_5, ro_70_6, ro_70_7, ro_70_8, ro_70_9, ro_71_0, ro_73_0, ro_75_0, ro_77_0, ro_79_0, ro_81_0, ro_83_0, ro_85_0, ro_87_0, ro_89_0, ro_91_0, ro_91_1, ro_91_2, ro_91_3, ro_91_4, ro_91_5, ro_91_6, ro_91_7, ro_91_8, ro_91_9, ro_92_0, ro_94_0, ro_96_0, ro_98_0, ro_100_0, ro_102_0, ro_104_0, ro_106_0, ro_108_0, ro_110_0, ro_112_0, ro_112_1, ro_112_2, ro_112_3, ro_112_4, ro_112_5, ro_112_6, ro_112_7, ro_112_8, ro_112_9, ro_113_0, ro_115_0, ro_117_0, ro_119_0, ro_121_0, ro_123_0, ro_125_0, ro_127_0, ro_129_0, ro_131_0, ro_133_0, ro_133_1, ro_133_2, ro_133_3, ro_133_4, ro_133_5, ro_133_6, ro_133_7, ro_133_8, ro_133_9, ro_134_0, ro_136_0, ro_138_0, ro_140_0, ro_142_0, ro_144_0, ro_146_0, ro_148_0, ro_150_0, ro_152_0, ro_154_0, ro_155_0, ro_157_0, ro_157_1, ro_157_2, ro_157_3, ro_157_4, ro_157_5, ro_157_6, ro_157_7, ro_157_8, ro_157_9, ro_158_0, ro_160_0, ro_162_0, ro_164_0, ro_166_0, ro_168_0, ro_170_0, ro_172_0, ro_174_0, ro_176_0, ro_178_0, ro_180_0, ro_182_1, ro_182_4, ro_182_5, ro_182_6, ro_182_9, ro_182_10, ro_182_11, ro_182_13, ro_182_14, ro_182_15, ro_182_16, ro_182_17, ro_182_20, ro_182_21, ro_182_22, ro_182_23, ro_182_24, ro_182_26, ro_182_27, ro_182_28, lo_3, lo_5, lo_7, lo_9, lo_11, lo_13, lo_15, lo_17, lo_19, lo_21, lo_24, lo_26, lo_28, lo_30, lo_32, lo_34, lo_36, lo_38, lo_40, lo_42, lo_44, lo_47, lo_49, lo_51, lo_54, lo_56, lo_58, lo_60, lo_63, lo_65, lo_67, lo_69, lo_72, lo_74, lo_76, lo_78, lo_80, lo_82, lo_84, lo_86, lo_88, lo_90, lo_93, lo_95, lo_97, lo_99, lo_101, lo_103, lo_105, lo_107, lo_109, lo_111, lo_114, lo_116, lo_118, lo_120, lo_122, lo_124, lo_126, lo_128, lo_130, lo_132, lo_135, lo_137, lo_139, lo_141, lo_143, lo_145, lo_147, lo_149, lo_151, lo_153, lo_156, lo_159, lo_161, lo_163, lo_165, lo_167, lo_169, lo_171, lo_173, lo_175, lo_177, lo_179, lo_181, lo_183, lo_184, lo_185, lo_186, lo_187, lo_188, lo_189, lo_190, lo_191, lo_192, lo_193, lo_194, lo_195, lo_196, lo_197, lo_198, lo_199, lo_200, lo_201, lo_202, lo_203, jp_nn, jp_eq, jp_e1, Classical.not_not, ji0, ji1, ji2, cs48_54, kk_54, jl_0, jl_1, jl_2, jl_3, jl_4, jl_5, jl_6, jl_7, jl_8, jl_9, jl_10, jl_11, jl_12, jl_13, jl_14, jl_15, jl_16, jl_17, jl_18, jl_19, jl_20, jl_21, jl_22, jl_23, jl_24, jl_25, jl_26, jl_27, jl_28, jl_29, jl_30, jl_31, jl_32, jl_33, jl_34, jl_35, jl_36, jl_37, jl_38, jl_39, jl_40, jl_95, jl_96, jl_97, jl_98, jl_99, jl_100, jl_101, jl_102, jl_103, jl_104, jl_105, jl_106, jl_107, jl_108, jl_109, jl_110, jl_111, jl_112, jl_113, jl_114, jl_186, jl_1100, jr, ju, jpT, jpF, tnc, Nat.reduceEqDiff, reduceIte, and_false, false_and, not_true_eq_false, not_false_eq_true, or_false, gt_iff_lt, ge_iff_le, Int.lt_irrefl, Int.le_refl, ep]
      refine qp_lp (fun en h' => ∃ i n : Nat, en = [91, (mn_w : Int), (pn : Int), (ln : Int), (i : Int)] ∧ i + n = ln + 1 ∧ h' = h ∧ nextR (fun k => h 93 (13 * mn_w + k)) (ln - pn) (pn + 1) = nextR (fun k => h 93 (13 * mn_w + k)) n i) ⟨pn + 1, ln - pn, rfl, by omega, rfl, rfl⟩ ?_
      intro en h1 ⟨i, n, e5_w, z1, z2, z3⟩
      subst e5_w
      subst z2
      cases n with
      | zero =>
        have y1 : ¬ (i : Int) ≤ (ln : Int) := by omega
        have y2 : (ln : Int) < (i : Int) := by omega
        rw [z3] at hQ
        simp only [qe_1, qe_3, qe_4, qe_5, qe_7, qe_72, qe_10, qe_102, qe_13, qe_14, qe_15, qe_16, qe_17, qe_18, qe_20, qe_22, qe_23, qe_21, qe_24, qe_25, qe_26, qe_27, qe_28, qe_30, qe_31, qe_32, qc_20, qc_22, qc_23, qc_21, qc_24, qc_25, qc_26, qc_27, qc_1, qc_3, qc_4, qc_7, qc_13, qc_28, qc_32, qs_1, qs_2, qs_3, qs_4, qs_5, qs_6, qs_9, qs_10, qs_11, qs_14, qs_15, qs_16, qs_27, qs_17, qs_18, qs_19, qs_20, qs_22, qs_23, qs_28, qs_25, qs_26, qs_7, qs_8, kc_1, kn_1, kc_2, kn_2, kc_3, kn_3, kc_4, kn_4, kc_5, kn_5, kc_6, kn_6, kc_7, kn_7, kc_8, kn_8, kc_9, kn_9, kc_10, kn_10, kc_11, kn_11, kc_12, kn_12, kc_13, kn_13, kc_14, kn_14, kc_15, kn_15, kc_16, kc_17, kc_18, kc_19, kc_20, kc_21, kc_22, kc_23, kc_30, kc_32, kc_40, kc_43, kc_45, kc_48, kc_52, kc_56, kc_57, kc_59, kc_60, kc_61, kc_63, kc_64, kc_72, kc_78, kc_97, kc_99, kc_122, kc_126, kc_128, kc_192, kc_200, kc_255, kc_999, kc_1000, kc_9999, kn_9999, kc_10000, kc_12345, kc_65536, kc_252645135, kc_858993459, kc_1103515245, kc_1431655765, kc_2147483647, kc_0, kc_24, kc_28, kc_37, kc_41, kc_42, kc_73, kc_91, kc_95, kc_96, kc_98, kc_100, kc_112, kc_125, kc_150, kc_162, kc_163, kc_168, kc_186, kc_190, kc_250, kc_355, kc_356, kc_404, kc_405, kc_429, kc_573, kc_1002, kc_1100, kc_1891, kc_2200, kc_4719, kc_4869, kc_4881, kc_5148, kc_19741, kc_25433, kc_320403, kc_628412, kc_629093, kc_660401, kc_679843, kc_918640, kc_979410, kc_1178088, kc_6232410, kc_24644941, kc_36238189, kc_38270444, kc_392531318, kc_425693491, kc_1342154595, kc_2147483648, kc_42328242873, kc_891704255789, kc_1722105685577, kc_1858726030364, ct_0, ct_1, ct_2, ct_3, ct_4, ct_5, cf_0, cf_1, cf_2, cf_3, cf_4, cf_5, w_ty6, w_ty7, m_sv, m_z0, m_hd, m_g0, m_gs, m_s0, m_ss, m_ap, m_an, forall_const, true_and, and_true, ne_eq, not_true_eq_false, not_false_eq_true, false_implies, true_implies, implies_true, eq_self, reduceCtorEq, Nat.reduceDiv, Nat.reduceMod, Int.reduceToNat, or_true, true_or, or_false, false_or, or_self, m_it, m_if, m_c1, m_01, m_02, m_03, m_04, m_10, m_12, m_13, m_14, m_20, m_21, m_23, m_24, m_30, m_31, m_32, m_34, m_40, m_41, m_42, m_43, Int.reduceLE, Int.reduceLT, Int.reduceGE, Int.reduceGT, Int.reduceNeg, Int.reduceAdd, Int.reduceSub, Int.reduceMul, Int.reduceEq, Int.reduceNe, Nat.reduceAdd, jun2, ro_0_0, ro_0_1, ro_0_2, ro_0_3, ro_0_4, ro_0_5, ro_0_6, ro_0_7, ro_0_8, ro_0_9, ro_0_10, ro_0_11, ro_0_12, ro_1_0, ro_1_1, ro_2_0, ro_4_0, ro_6_0, ro_6_1, ro_6_2, ro_6_3, ro_6_4, ro_6_5, ro_6_6, ro_6_7, ro_6_8, ro_8_0, ro_10_0, ro_12_0, ro_14_0, ro_16_0, ro_18_0, ro_20_0, ro_22_0, ro_22_1, ro_22_2, ro_23_0, ro_25_0, ro_27_0, ro_29_0, ro_29_1, ro_29_2, ro_29_3, ro_29_4, ro_29_5, ro_29_6, ro_29_7, ro_29_8, ro_31_0, ro_33_0, ro_35_0, ro_37_0, ro_39_0, ro_41_0, ro_43_0, ro_45_0, ro_45_1, ro_45_2, ro_46_0, ro_48_0, ro_50_0, ro_52_0, ro_52_1, ro_52_2, ro_52_3, ro_53_0, ro_55_0, ro_57_0, ro_59_0, ro_61_0, ro_61_1, ro_61_2, ro_61_3, ro_62_0, ro_64_0, ro_66_0, ro_68_0, ro_70_0, ro_70_1, ro_70_2, ro_70_3, ro_70_4, ro_70_5, ro_70_6, ro_70_7, ro_70_8, ro_70_9, ro_71_0, ro_73_0, ro_75_0, ro_77_0, ro_79_0, ro_81_0, ro_83_0, ro_85_0, ro_87_0, ro_89_0, ro_91_0, ro_91_1, ro_91_2, ro_91_3, ro_91_4, ro_91_5, ro_91_6, ro_91_7, ro_91_8, ro_91_9, ro_92_0, ro_94_0, ro_96_0, ro_98_0, ro_100_0, ro_102_0, ro_104_0, ro_106_0, ro_108_0, ro_110_0, ro_112_0, ro_112_1, ro_112_2, ro_112_3, ro_112_4, ro_112_5, ro_112_6, ro_112_7, ro_112_8, ro_112_9, ro_113_0, ro_115_0, ro_117_0, ro_119_0, ro_121_0, ro_123_0, ro_125_0, ro_127_0, ro_129_0, ro_131_0, ro_133_0, ro_133_1, ro_133_2, ro_133_3, ro_133_4, ro_133_5, ro_133_6, ro_133_7, ro_133_8, ro_133_9, ro_134_0, ro_136_0, ro_138_0, ro_140_0, ro_142_0, ro_144_0, ro_146_0, ro_148_0, ro_150_0, ro_152_0, ro_154_0, ro_155_0, ro_157_0, ro_157_1, ro_157_2, ro_157_3, ro_157_4, ro_157_5, ro_157_6, ro_157_7, ro_157_8, ro_157_9, ro_158_0, ro_160_0, ro_162_0, ro_164_0, ro_166_0, ro_168_0, ro_170_0, ro_172_0, ro_174_0, ro_176_0, ro_178_0, ro_180_0, ro_182_1, ro_182_4, ro_182_5, ro_182_6, ro_182_9, ro_182_10, ro_182_11, ro_182_13, ro_182_14, ro_182_15, ro_182_16, ro_182_17, ro_182_20, ro_182_21, ro_182_22, ro_182_23, ro_182_24, ro_182_26, ro_182_27, ro_182_28, lo_3, lo_5, lo_7, lo_9, lo_11, lo_13, lo_15, lo_17, lo_19, lo_21, lo_24, lo_26, lo_28, lo_30, lo_32, lo_34, lo_36, lo_38, lo_40, lo_42, lo_44, lo_47, lo_49, lo_51, lo_54, lo_56, lo_58, lo_60, lo_63, lo_65, lo_67, lo_69, lo_72, lo_74, lo_76, lo_78, lo_80, lo_82, lo_84, lo_86, lo_88, lo_90, lo_93, lo_95, lo_97, lo_99, lo_101, lo_103, lo_105, lo_107, lo_109, lo_111, lo_114, lo_116, lo_118, lo_120, lo_122, lo_124, lo_126, lo_128, lo_130, lo_132, lo_135, lo_137, lo_139, lo_141, lo_143, lo_145, lo_147, lo_149, lo_151, lo_153, lo_156, lo_159, lo_161, lo_163, lo_165, lo_167, lo_169, lo_171, lo_173, lo_175, lo_177, lo_179, lo_181, lo_183, lo_184, lo_185, lo_186, lo_187, lo_188, lo_189, lo_190, lo_191, lo_192, lo_193, lo_194, lo_195, lo_196, lo_197, lo_198, lo_199, lo_200, lo_201, lo_202, lo_203, jp_nn, jp_eq, jp_e1, Classical.not_not, ji0, ji1, ji2, cs48_54, kk_54, jl_0, jl_1, jl_2, jl_3, jl_4, jl_5, jl_6, jl_7, jl_8, jl_9, jl_10, jl_11, jl_12, jl_13, jl_14, jl_15, jl_16, jl_17, jl_18, jl_19, jl_20, jl_21, jl_22, jl_23, jl_24, jl_25, jl_26, jl_27, jl_28, jl_29, jl_30, jl_31, jl_32, jl_33, jl_34, jl_35, jl_36, jl_37, jl_38, jl_39, jl_40, jl_95, jl_96, jl_97, jl_98, jl_99, jl_100, jl_101, jl_102, jl_103, jl_104, jl_105, jl_106, jl_107, jl_108, jl_109, jl_110, jl_111, jl_112, jl_113, jl_114, jl_186, jl_1100, jr, ju, jpT, jpF, tnc, Nat.reduceEqDiff, reduceIte, and_false, false_and, not_true_eq_false, not_false_eq_true, or_false, gt_iff_lt, ge_iff_le, Int.lt_irrefl, Int.le_refl, y1, y2]
        exact hQ
      | succ j =>
        have y1 : (i : Int) ≤ (ln : Int) := by omega
        have y2 : ¬ (ln : Int) < (i : Int) := by omega
        have e2_w : j32 (((13 * mn_w : Nat) : Int) + (i : Int)) = ((13 * mn_w + i : Nat) : Int) := jcn (by omega) (by omega)
        have e3_w : rg h1 92 ((13 * mn_w + i : Nat) : Int) = h1 93 (13 * mn_w + i) := rg_in (o := 92) (c := 93) (n := 78) ro_92_0 lo_93 (by omega)
        have ek := jk1 (k := i) (by omega)
        by_cases y3 : h1 93 (13 * mn_w + i) = -1
        · simp only [qe_1, qe_3, qe_4, qe_5, qe_7, qe_72, qe_10, qe_102, qe_13, qe_14, qe_15, qe_16, qe_17, qe_18, qe_20, qe_22, qe_23, qe_21, qe_24, qe_25, qe_26, qe_27, qe_28, qe_30, qe_31, qe_32, qc_20, qc_22, qc_23, qc_21, qc_24, qc_25, qc_26, qc_27, qc_1, qc_3, qc_4, qc_7, qc_13, qc_28, qc_32, qs_1, qs_2, qs_3, qs_4, qs_5, qs_6, qs_9, qs_10, qs_11, qs_14, qs_15, qs_16, qs_27, qs_17, qs_18, qs_19, qs_20, qs_22, qs_23, qs_28, qs_25, qs_26, qs_7, qs_8, kc_1, kn_1, kc_2, kn_2, kc_3, kn_3, kc_4, kn_4, kc_5, kn_5, kc_6, kn_6, kc_7, kn_7, kc_8, kn_8, kc_9, kn_9, kc_10, kn_10, kc_11, kn_11, kc_12, kn_12, kc_13, kn_13, kc_14, kn_14, kc_15, kn_15, kc_16, kc_17, kc_18, kc_19, kc_20, kc_21, kc_22, kc_23, kc_30, kc_32, kc_40, kc_43, kc_45, kc_48, kc_52, kc_56, kc_57, kc_59, kc_60, kc_61, kc_63, kc_64, kc_72, kc_78, kc_97, kc_99, kc_122, kc_126, kc_128, kc_192, kc_200, kc_255, kc_999, kc_1000, kc_9999, kn_9999, kc_10000, kc_12345, kc_65536, kc_252645135, kc_858993459, kc_1103515245, kc_1431655765, kc_2147483647, kc_0, kc_24, kc_28, kc_37, kc_41, kc_42, kc_73, kc_91, kc_95, kc_96, kc_98, kc_100, kc_112, kc_125, kc_150, kc_162, kc_163, kc_168, kc_186, kc_190, kc_250, kc_355, kc_356, kc_404, kc_405, kc_429, kc_573, kc_1002, kc_1100, kc_1891, kc_2200, kc_4719, kc_4869, kc_4881, kc_5148, kc_19741, kc_25433, kc_320403, kc_628412, kc_629093, kc_660401, kc_679843, kc_918640, kc_979410, kc_1178088, kc_6232410, kc_24644941, kc_36238189, kc_38270444, kc_392531318, kc_425693491, kc_1342154595, kc_2147483648, kc_42328242873, kc_891704255789, kc_1722105685577, kc_1858726030364, ct_0, ct_1, ct_2, ct_3, ct_4, ct_5, cf_0, cf_1, cf_2, cf_3, cf_4, cf_5, w_ty6, w_ty7, m_sv, m_z0, m_hd, m_g0, m_gs, m_s0, m_ss, m_ap, m_an, forall_const, true_and, and_true, ne_eq, not_true_eq_false, not_false_eq_true, false_implies, true_implies, implies_true, eq_self, reduceCtorEq, Nat.reduceDiv, Nat.reduceMod, Int.reduceToNat, or_true, true_or, or_false, false_or, or_self, m_it, m_if, m_c1, m_01, m_02, m_03, m_04, m_10, m_12, m_13, m_14, m_20, m_21, m_23, m_24, m_30, m_31, m_32, m_34, m_40, m_41, m_42, m_43, Int.reduceLE, Int.reduceLT, Int.reduceGE, Int.reduceGT, Int.reduceNeg, Int.reduceAdd, Int.reduceSub, Int.reduceMul, Int.reduceEq, Int.reduceNe, Nat.reduceAdd, jun2, ro_0_0, ro_0_1, ro_0_2, ro_0_3, ro_0_4, ro_0_5, ro_0_6, ro_0_7, ro_0_8, ro_0_9, ro_0_10, ro_0_11, ro_0_12, ro_1_0, ro_1_1, ro_2_0, ro_4_0, ro_6_0, ro_6_1, ro_6_2, ro_6_3, ro_6_4, ro_6_5, ro_6_6, ro_6_7, ro_6_8, ro_8_0, ro_10_0, ro_12_0, ro_14_0, ro_16_0, ro_18_0, ro_20_0, ro_22_0, ro_22_1, ro_22_2, ro_23_0, ro_25_0, ro_27_0, ro_29_0, ro_29_1, ro_29_2, ro_29_3, ro_29_4, ro_29_5, ro_29_6, ro_29_7, ro_29_8, ro_31_0, ro_33_0, ro_35_0, ro_37_0, ro_39_0, ro_41_0, ro_43_0, ro_45_0, ro_45_1, ro_45_2, ro_46_0, ro_48_0, ro_50_0, ro_52_0, ro_52_1, ro_52_2, ro_52_3, ro_53_0, ro_55_0, ro_57_0, ro_59_0, ro_61_0, ro_61_1, ro_61_2, ro_61_3, ro_62_0, ro_64_0, ro_66_0, ro_68_0, ro_70_0, ro_70_1, ro_70_2, ro_70_3, ro_70_4, ro_70_5, ro_70_6, ro_70_7, ro_70_8, ro_70_9, ro_71_0, ro_73_0, ro_75_0, ro_77_0, ro_79_0, ro_81_0, ro_83_0, ro_85_0, ro_87_0, ro_89_0, ro_91_0, ro_91_1, ro_91_2, ro_91_3, ro_91_4, ro_91_5, ro_91_6, ro_91_7, ro_91_8, ro_91_9, ro_92_0, ro_94_0, ro_96_0, ro_98_0, ro_100_0, ro_102_0, ro_104_0, ro_106_0, ro_108_0, ro_110_0, ro_112_0, ro_112_1, ro_112_2, ro_112_3, ro_112_4, ro_112_5, ro_112_6, ro_112_7, ro_112_8, ro_112_9, ro_113_0, ro_115_0, ro_117_0, ro_119_0, ro_121_0, ro_123_0, ro_125_0, ro_127_0, ro_129_0, ro_131_0, ro_133_0, ro_133_1, ro_133_2, ro_133_3, ro_133_4, ro_133_5, ro_133_6, ro_133_7, ro_133_8, ro_133_9, ro_134_0, ro_136_0, ro_138_0, ro_140_0, ro_142_0, ro_144_0, ro_146_0, ro_148_0, ro_150_0, ro_152_0, ro_154_0, ro_155_0, ro_157_0, ro_157_1, ro_157_2, ro_157_3, ro_157_4, ro_157_5, ro_157_6, ro_157_7, ro_157_8, ro_157_9, ro_158_0, ro_160_0, ro_162_0, ro_164_0, ro_166_0, ro_168_0, ro_170_0, ro_172_0, ro_174_0, ro_176_0, ro_178_0, ro_180_0, ro_182_1, ro_182_4, ro_182_5, ro_182_6, ro_182_9, ro_182_10, ro_182_11, ro_182_13, ro_182_14, ro_182_15, ro_182_16, ro_182_17, ro_182_20, ro_182_21, ro_182_22, ro_182_23, ro_182_24, ro_182_26, ro_182_27, ro_182_28, lo_3, lo_5, lo_7, lo_9, lo_11, lo_13, lo_15, lo_17, lo_19, lo_21, lo_24, lo_26, lo_28, lo_30, lo_32, lo_34, lo_36, lo_38, lo_40, lo_42, lo_44, lo_47, lo_49, lo_51, lo_54, lo_56, lo_58, lo_60, lo_63, lo_65, lo_67, lo_69, lo_72, lo_74, lo_76, lo_78, lo_80, lo_82, lo_84, lo_86, lo_88, lo_90, lo_93, lo_95, lo_97, lo_99, lo_101, lo_103, lo_105, lo_107, lo_109, lo_111, lo_114, lo_116, lo_118, lo_120, lo_122, lo_124, lo_126, lo_128, lo_130, lo_132, lo_135, lo_137, lo_139, lo_141, lo_143, lo_145, lo_147, lo_149, lo_151, lo_153, lo_156, lo_159, lo_161, lo_163, lo_165, lo_167, lo_169, lo_171, lo_173, lo_175, lo_177, lo_179, lo_181, lo_183, lo_184, lo_185, lo_186, lo_187, lo_188, lo_189, lo_190, lo_191, lo_192, lo_193, lo_194, lo_195, lo_196, lo_197, lo_198, lo_199, lo_200, lo_201, lo_202, lo_203, jp_nn, jp_eq, jp_e1, Classical.not_not, ji0, ji1, ji2, cs48_54, kk_54, jl_0, jl_1, jl_2, jl_3, jl_4, jl_5, jl_6, jl_7, jl_8, jl_9, jl_10, jl_11, jl_12, jl_13, jl_14, jl_15, jl_16, jl_17, jl_18, jl_19, jl_20, jl_21, jl_22, jl_23, jl_24, jl_25, jl_26, jl_27, jl_28, jl_29, jl_30, jl_31, jl_32, jl_33, jl_34, jl_35, jl_36, jl_37, jl_38, jl_39, jl_40, jl_95, jl_96, jl_97, jl_98, jl_99, jl_100, jl_101, jl_102, jl_103, jl_104, jl_105, jl_106, jl_107, jl_108, jl_109, jl_110, jl_111, jl_112, jl_113, jl_114, jl_186, jl_1100, jr, ju, jpT, jpF, tnc, Nat.reduceEqDiff, reduceIte, and_false, false_and, not_true_eq_false, not_false_eq_true, or_false, gt_iff_lt, ge_iff_le, Int.lt_irrefl, Int.le_refl, y1, y2, e1_w, e2_w, e3_w, y3, ek]
          exact ⟨i + 1, j, rfl, by omega, z3.trans (if_pos y3)⟩
        · simp only [qe_1, qe_3, qe_4, qe_5, qe_7, qe_72, qe_10, qe_102, qe_13, qe_14, qe_15, qe_16, qe_17, qe_18, qe_20, qe_22, qe_23, qe_21, qe_24, qe_25, qe_26, qe_27, qe_28, qe_30, qe_31, qe_32, qc_20, qc_22, qc_23, qc_21, qc_24, qc_25, qc_26, qc_27, qc_1, qc_3, qc_4, qc_7, qc_13, qc_28, qc_32, qs_1, qs_2, qs_3, qs_4, qs_5, qs_6, qs_9, qs_10, qs_11, qs_14, qs_15, qs_16, qs_27, qs_17, qs_18, qs_19, qs_20, qs_22, qs_23, qs_28, qs_25, qs_26, qs_7, qs_8, kc_1, kn_1, kc_2, kn_2, kc_3, kn_3, kc_4, kn_4, kc_5, kn_5, kc_6, kn_6, kc_7, kn_7, kc_8, kn_8, kc_9, kn_9, kc_10, kn_10, kc_11, kn_11, kc_12, kn_12, kc_13, kn_13, kc_14, kn_14, kc_15, kn_15, kc_16, kc_17, kc_18, kc_19, kc_20, kc_21, kc_22, kc_23, kc_30, kc_32, kc_40, kc_43, kc_45, kc_48, kc_52, kc_56, kc_57, kc_59, kc_60, kc_61, kc_63, kc_64, kc_72, kc_78, kc_97, kc_99, kc_122, kc_126, kc_128, kc_192, kc_200, kc_255, kc_999, kc_1000, kc_9999, kn_9999, kc_10000, kc_12345, kc_65536, kc_252645135, kc_858993459, kc_1103515245, kc_1431655765, kc_2147483647, kc_0, kc_24, kc_28, kc_37, kc_41, kc_42, kc_73, kc_91, kc_95, kc_96, kc_98, kc_100, kc_112, kc_125, kc_150, kc_162, kc_163, kc_168, kc_186, kc_190, kc_250, kc_355, kc_356, kc_404, kc_405, kc_429, kc_573, kc_1002, kc_1100, kc_1891, kc_2200, kc_4719, kc_4869, kc_4881, kc_5148, kc_19741, kc_25433, kc_320403, kc_628412, kc_629093, kc_660401, kc_679843, kc_918640, kc_979410, kc_1178088, kc_6232410, kc_24644941, kc_36238189, kc_38270444, kc_392531318, kc_425693491, kc_1342154595, kc_2147483648, kc_42328242873, kc_891704255789, kc_1722105685577, kc_1858726030364, ct_0, ct_1, ct_2, ct_3, ct_4, ct_5, cf_0, cf_1, cf_2, cf_3, cf_4, cf_5, w_ty6, w_ty7, m_sv, m_z0, m_hd, m_g0, m_gs, m_s0, m_ss, m_ap, m_an, forall_const, true_and, and_true, ne_eq, not_true_eq_false, not_false_eq_true, false_implies, true_implies, implies_true, eq_self, reduceCtorEq, Nat.reduceDiv, Nat.reduceMod, Int.reduceToNat, or_true, true_or, or_false, false_or, or_self, m_it, m_if, m_c1, m_01, m_02, m_03, m_04, m_10, m_12, m_13, m_14, m_20, m_21, m_23, m_24, m_30, m_31, m_32, m_34, m_40, m_41, m_42, m_43, Int.reduceLE, Int.reduceLT, Int.reduceGE, Int.reduceGT, Int.reduceNeg, Int.reduceAdd, Int.reduceSub, Int.reduceMul, Int.reduceEq, Int.reduceNe, Nat.reduceAdd, jun2, ro_0_0, ro_0_1, ro_0_2, ro_0_3, ro_0_4, ro_0_5, ro_0_6, ro_0_7, ro_0_8, ro_0_9, ro_0_10, ro_0_11, ro_0_12, ro_1_0, ro_1_1, ro_2_0, ro_4_0, ro_6_0, ro_6_1, ro_6_2, ro_6_3, ro_6_4, ro_6_5, ro_6_6, ro_6_7, ro_6_8, ro_8_0, ro_10_0, ro_12_0, ro_14_0, ro_16_0, ro_18_0, ro_20_0, ro_22_0, ro_22_1, ro_22_2, ro_23_0, ro_25_0, ro_27_0, ro_29_0, ro_29_1, ro_29_2, ro_29_3, ro_29_4, ro_29_5, ro_29_6, ro_29_7, ro_29_8, ro_31_0, ro_33_0, ro_35_0, ro_37_0, ro_39_0, ro_41_0, ro_43_0, ro_45_0, ro_45_1, ro_45_2, ro_46_0, ro_48_0, ro_50_0, ro_52_0, ro_52_1, ro_52_2, ro_52_3, ro_53_0, ro_55_0, ro_57_0, ro_59_0, ro_61_0, ro_61_1, ro_61_2, ro_61_3, ro_62_0, ro_64_0, ro_66_0, ro_68_0, ro_70_0, ro_70_1, ro_70_2, ro_70_3, ro_70_4, ro_70_5, ro_70_6, ro_70_7, ro_70_8, ro_70_9, ro_71_0, ro_73_0, ro_75_0, ro_77_0, ro_79_0, ro_81_0, ro_83_0, ro_85_0, ro_87_0, ro_89_0, ro_91_0, ro_91_1, ro_91_2, ro_91_3, ro_91_4, ro_91_5, ro_91_6, ro_91_7, ro_91_8, ro_91_9, ro_92_0, ro_94_0, ro_96_0, ro_98_0, ro_100_0, ro_102_0, ro_104_0, ro_106_0, ro_108_0, ro_110_0, ro_112_0, ro_112_1, ro_112_2, ro_112_3, ro_112_4, ro_112_5, ro_112_6, ro_112_7, ro_112_8, ro_112_9, ro_113_0, ro_115_0, ro_117_0, ro_119_0, ro_121_0, ro_123_0, ro_125_0, ro_127_0, ro_129_0, ro_131_0, ro_133_0, ro_133_1, ro_133_2, ro_133_3, ro_133_4, ro_133_5, ro_133_6, ro_133_7, ro_133_8, ro_133_9, ro_134_0, ro_136_0, ro_138_0, ro_140_0, ro_142_0, ro_144_0, ro_146_0, ro_148_0, ro_150_0, ro_152_0, ro_154_0, ro_155_0, ro_157_0, ro_157_1, ro_157_2, ro_157_3, ro_157_4, ro_157_5, ro_157_6, ro_157_7, ro_157_8, ro_157_9, ro_158_0, ro_160_0, ro_162_0, ro_164_0, ro_166_0, ro_168_0, ro_170_0, ro_172_0, ro_174_0, ro_176_0, ro_178_0, ro_180_0, ro_182_1, ro_182_4, ro_182_5, ro_182_6, ro_182_9, ro_182_10, ro_182_11, ro_182_13, ro_182_14, ro_182_15, ro_182_16, ro_182_17, ro_182_20, ro_182_21, ro_182_22, ro_182_23, ro_182_24, ro_182_26, ro_182_27, ro_182_28, lo_3, lo_5, lo_7, lo_9, lo_11, lo_13, lo_15, lo_17, lo_19, lo_21, lo_24, lo_26, lo_28, lo_30, lo_32, lo_34, lo_36, lo_38, lo_40, lo_42, lo_44, lo_47, lo_49, lo_51, lo_54, lo_56, lo_58, lo_60, lo_63, lo_65, lo_67, lo_69, lo_72, lo_74, lo_76, lo_78, lo_80, lo_82, lo_84, lo_86, lo_88, lo_90, lo_93, lo_95, lo_97, lo_99, lo_101, lo_103, lo_105, lo_107, lo_109, lo_111, lo_114, lo_116, lo_118, lo_120, lo_122, lo_124, lo_126, lo_128, lo_130, lo_132, lo_135, lo_137, lo_139, lo_141, lo_143, lo_145, lo_147, lo_149, lo_151, lo_153, lo_156, lo_159, lo_161, lo_163, lo_165, lo_167, lo_169, lo_171, lo_173, lo_175, lo_177, lo_179, lo_181, lo_183, lo_184, lo_185, lo_186, lo_187, lo_188, lo_189, lo_190, lo_191, lo_192, lo_193, lo_194, lo_195, lo_196, lo_197, lo_198, lo_199, lo_200, lo_201, lo_202, lo_203, jp_nn, jp_eq, jp_e1, Classical.not_not, ji0, ji1, ji2, cs48_54, kk_54, jl_0, jl_1, jl_2, jl_3, jl_4, jl_5, jl_6, jl_7, jl_8, jl_9, jl_10, jl_11, jl_12, jl_13, jl_14, jl_15, jl_16, jl_17, jl_18, jl_19, jl_20, jl_21, jl_22, jl_23, jl_24, jl_25, jl_26, jl_27, jl_28, jl_29, jl_30, jl_31, jl_32, jl_33, jl_34, jl_35, jl_36, jl_37, jl_38, jl_39, jl_40, jl_95, jl_96, jl_97, jl_98, jl_99, jl_100, jl_101, jl_102, jl_103, jl_104, jl_105, jl_106, jl_107, jl_108, jl_109, jl_110, jl_111, jl_112, jl_113, jl_114, jl_186, jl_1100, jr, ju, jpT, jpF, tnc, Nat.reduceEqDiff, reduceIte, and_false, false_and, not_true_eq_false, not_false_eq_true, or_false, gt_iff_lt, ge_iff_le, Int.lt_irrefl, Int.le_refl, y1, y2, e1_w, e2_w, e3_w, y3]
          rw [z3, nextR, if_neg y3] at hQ
          exact hQ
  · exact hQ.elim
theorem snd_48 {xs : Nat → Int} {L K : Nat} : ∀ n, SndC CS48 (evF xs L g_ck K g_cW g_M n) := snd_all snd_47 (fun f av h Q hQ => by
  unfold CS48 at hQ
  split at hQ
  · exact Or.inr m_150
  · exact Or.inr m_151
  · exact Or.inl hQ)
/-! what both_w hold of a told_w grid -/
section CDF
variable {h : XH} {D : DD} {m c k : Nat}
theorem mt_x (hm_w : m < nM D) : ∃ x, D.2.2.2.2.1[m]? = some x ∧ x ∈ D.2.2.2.2.1 := ⟨_, List.getElem?_eq_getElem hm_w, List.getElem_mem hm_w⟩
theorem cl_x (hc_w : c < nC D) : ∃ x, D.2.2.1[c]? = some x ∧ x ∈ D.2.2.1 := ⟨_, List.getElem?_eq_getElem hc_w, List.getElem_mem hc_w⟩
theorem grp_of {x : Int × Int × Int × Int} (e : D.2.2.2.2.1[m]? = some x) : grpD D m = x.2.2.1.toNat := by
  unfold grpD
  rw [e]
  rfl
theorem knd_of {x : Int × Int × Int × Int} (e : D.2.2.2.2.1[m]? = some x) : kndD D m = x.2.1 := by
  unfold kndD
  rw [e]
  rfl
theorem lss_of {x : Int × Int × List Int} (e : D.2.2.1[c]? = some x) : lssD D c = x.2.1 := by
  unfold lssD
  rw [e]
  rfl
theorem prf_of {x : Int × Int × List Int} (e : D.2.2.1[c]? = some x) : prfD D c = x.2.2 := by
  unfold prfD
  rw [e]
  rfl
theorem WFD.gr (w : WFD D) (hm_w : m < nM D) : grpD D m < nC D ∧ 0 ≤ kndD D m ∧ kndD D m ≤ 3 := by
  obtain ⟨x, e, hx⟩ := mt_x hm_w
  obtain ⟨⟨a, b⟩, -, c, d⟩ := w.2.2.1 x hx
  rw [grp_of e, knd_of e]
  refine ⟨?_, c, d⟩
  show _ < D.2.2.1.length
  omega
theorem WFD.cl (w : WFD D) (hc_w : c < nC D) : 0 ≤ lssD D c ∧ lssD D c ≤ 999 ∧ 1 ≤ (prfD D c).length ∧ (prfD D c).length ≤ 12 ∧ ∀ v ∈ prfD D c, 0 ≤ v ∧ v ≤ 99 := by
  obtain ⟨x, e, hx⟩ := cl_x hc_w
  rw [lss_of e, prf_of e]
  exact w.2.1 x hx
theorem WFD.cn (w : WFD D) : nC D ≤ 4 ∧ nU D ≤ 4 ∧ nM D ≤ 6 ∧ nS D ≤ 12 ∧ D.1 = (nS D : Int) := by
  obtain ⟨⟨a, b, c, d, e⟩, -⟩ := w
  refine ⟨c, d, e, ?_, ?_⟩
  · unfold nS
    omega
  · unfold nS
    omega
theorem cd_mt (cd : CDw 6 D h) (w : WFD D) (hm_w : m < nM D) : h 19 m = (grpD D m : Int) ∧ h 17 m = kndD D m := by
  obtain ⟨x, e, hx⟩ := mt_x hm_w
  obtain ⟨⟨a, b⟩, -⟩ := w.2.2.1 x hx
  obtain ⟨k1_w, k2, -⟩ := cd.2.2.2.2.1.1 m x e
  rw [grp_of e, knd_of e]
  refine ⟨?_, k1_w⟩
  have : h 19 m = x.2.2.1 := k2
  omega
theorem cd_cl (cd : CDw 6 D h) (hc_w : c < nC D) : h 11 c = lssD D c ∧ ∀ k, k < 13 → h 15 (13 * c + k) = upT (prfD D c) k := by
  obtain ⟨x, e, hx⟩ := cl_x hc_w
  obtain ⟨k1_w, -, -, k2⟩ := cd.2.2.2.1 c x e
  rw [lss_of e, prf_of e]
  exact ⟨k1_w, k2⟩
theorem rf_mt (rf : RF D h) (w : WFD D) (hm_w : m < nM D) : h 188 (74 + 3 * m) = (grpD D m : Int) ∧ h 188 (73 + 3 * m) = kndD D m := by
  obtain ⟨x, e, hx⟩ := mt_x hm_w
  obtain ⟨⟨a, b⟩, -⟩ := w.2.2.1 x hx
  obtain ⟨k1_w, k2, -⟩ := rf.ix.2.2.2.2.2.2 m x e
  rw [grp_of e, knd_of e]
  exact ⟨by omega, k1_w⟩
theorem rf_cl (rf : RF D h) (w : WFD D) (hc_w : c < nC D) : h 188 (17 + 14 * c) = lssD D c ∧ h 188 (18 + 14 * c) = ((prfD D c).length : Int) ∧ ∀ k, k < (prfD D c).length → h 188 (19 + 14 * c + k) = (prfD D c).getD k 0 := by
  obtain ⟨x, e, hx⟩ := cl_x hc_w
  obtain ⟨k1_w, k2, -, k3⟩ := rf.ix.2.2.2.2.2.1 c x e
  rw [lss_of e, prf_of e]
  refine ⟨k1_w, k2, fun k z => ?_⟩
  rw [List.getD_eq_getElem?_getD, List.getElem?_eq_getElem z]
  exact k3 k _ (List.getElem?_eq_getElem z)
end CDF
end

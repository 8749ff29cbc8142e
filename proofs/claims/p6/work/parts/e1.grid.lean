/-! ===== contracts: the class's grid ===== -/
def kTop : KT := fun _ _ Q => ∀ k r h', Q k r h'
def k97 : KT := kTop
def k3 : KT := kTop
def k61 : KT := fun av h Q => match av with
  | [o] => Q 1 [] (j_up h o.toNat 1 0)
  | _ => False
def k2 : KT := fun av h Q => match av with
  | [o] => o = 0 ∧ ∃ (T : TA), T.2.1 ≤ 1000 ∧ BYT T.1 h ∧ TOK (h 3) T.1 T.2.1 (tS T) (tP T) (tV T) ∧ TGd T ∧ ∀ h', Q 1 [resG (tS T) (tP T) (tV T) wl] h'
  | _ => False
section KKE1
variable {h h1 h2 h' : XH} {Q : Nat → List Int → XH → Prop} {o p : Int} {av : List Int}
theorem kk_97 : k97 av h Q = ∀ k r h', Q k r h' := id rfl
theorem kk_3 : k3 av h Q = ∀ k r h', Q k r h' := id rfl
theorem kk_61 : k61 [o] h Q = Q 1 [] (j_up h o.toNat 1 0) := id rfl
theorem kk_2 : k2 [0] h Q = ∃ (T : TA), T.2.1 ≤ 1000 ∧ BYT T.1 h ∧ TOK (h 3) T.1 T.2.1 (tS T) (tP T) (tV T) ∧ TGd T ∧ ∀ h', Q 1 [resG (tS T) (tP T) (tV T) wl] h' := propext ⟨fun a => a.2, fun a => ⟨rfl, a⟩⟩
end KKE1
def CS20 : CSt := fun f => match f with
  | 97 => k97
  | 3 => k3
  | _ => CS19 f
theorem cs20_54 {av : List Int} {h : XH} {Q : Nat → List Int → XH → Prop} : CS20 54 av h Q = k54 av h Q := id rfl
theorem cs20_55 {av : List Int} {h : XH} {Q : Nat → List Int → XH → Prop} : CS20 55 av h Q = k55 av h Q := id rfl
theorem cs20_68 {av : List Int} {h : XH} {Q : Nat → List Int → XH → Prop} : CS20 68 av h Q = k68 av h Q := id rfl
theorem cs20_69 {av : List Int} {h : XH} {Q : Nat → List Int → XH → Prop} : CS20 69 av h Q = k69 av h Q := id rfl
theorem cs20_70 {av : List Int} {h : XH} {Q : Nat → List Int → XH → Prop} : CS20 70 av h Q = k70 av h Q := id rfl
theorem cs20_71 {av : List Int} {h : XH} {Q : Nat → List Int → XH → Prop} : CS20 71 av h Q = k71 av h Q := id rfl
theorem cs20_72 {av : List Int} {h : XH} {Q : Nat → List Int → XH → Prop} : CS20 72 av h Q = k72 av h Q := id rfl
theorem cs20_73 {av : List Int} {h : XH} {Q : Nat → List Int → XH → Prop} : CS20 73 av h Q = k73 av h Q := id rfl
theorem cs20_74 {av : List Int} {h : XH} {Q : Nat → List Int → XH → Prop} : CS20 74 av h Q = k74 av h Q := id rfl
theorem cs20_75 {av : List Int} {h : XH} {Q : Nat → List Int → XH → Prop} : CS20 75 av h Q = k75 av h Q := id rfl
theorem cs20_186 {av : List Int} {h : XH} {Q : Nat → List Int → XH → Prop} : CS20 186 av h Q = k186 av h Q := id rfl
theorem cs20_187 {av : List Int} {h : XH} {Q : Nat → List Int → XH → Prop} : CS20 187 av h Q = k187 av h Q := id rfl
theorem cs20_188 {av : List Int} {h : XH} {Q : Nat → List Int → XH → Prop} : CS20 188 av h Q = k188 av h Q := id rfl
theorem cs20_189 {av : List Int} {h : XH} {Q : Nat → List Int → XH → Prop} : CS20 189 av h Q = k189 av h Q := id rfl
theorem cs20_191 {av : List Int} {h : XH} {Q : Nat → List Int → XH → Prop} : CS20 191 av h Q = k191 av h Q := id rfl
theorem cs20_192 {av : List Int} {h : XH} {Q : Nat → List Int → XH → Prop} : CS20 192 av h Q = k192 av h Q := id rfl
theorem cs20_193 {av : List Int} {h : XH} {Q : Nat → List Int → XH → Prop} : CS20 193 av h Q = k193 av h Q := id rfl
theorem cs20_198 {av : List Int} {h : XH} {Q : Nat → List Int → XH → Prop} : CS20 198 av h Q = k198 av h Q := id rfl
theorem cs20_207 {av : List Int} {h : XH} {Q : Nat → List Int → XH → Prop} : CS20 207 av h Q = k207 av h Q := id rfl
theorem cs20_195 {av : List Int} {h : XH} {Q : Nat → List Int → XH → Prop} : CS20 195 av h Q = k195 av h Q := id rfl
theorem cs20_196 {av : List Int} {h : XH} {Q : Nat → List Int → XH → Prop} : CS20 196 av h Q = k196 av h Q := id rfl
theorem cs20_201 {av : List Int} {h : XH} {Q : Nat → List Int → XH → Prop} : CS20 201 av h Q = k201 av h Q := id rfl
theorem cs20_203 {av : List Int} {h : XH} {Q : Nat → List Int → XH → Prop} : CS20 203 av h Q = k203 av h Q := id rfl
theorem cs20_204 {av : List Int} {h : XH} {Q : Nat → List Int → XH → Prop} : CS20 204 av h Q = k204 av h Q := id rfl
theorem cs20_194 {av : List Int} {h : XH} {Q : Nat → List Int → XH → Prop} : CS20 194 av h Q = k194 av h Q := id rfl
theorem cs20_197 {av : List Int} {h : XH} {Q : Nat → List Int → XH → Prop} : CS20 197 av h Q = k197 av h Q := id rfl
theorem cs20_200 {av : List Int} {h : XH} {Q : Nat → List Int → XH → Prop} : CS20 200 av h Q = k200 av h Q := id rfl
theorem cs20_202 {av : List Int} {h : XH} {Q : Nat → List Int → XH → Prop} : CS20 202 av h Q = k202 av h Q := id rfl
theorem cs20_205 {av : List Int} {h : XH} {Q : Nat → List Int → XH → Prop} : CS20 205 av h Q = k205 av h Q := id rfl
theorem cs20_208 {av : List Int} {h : XH} {Q : Nat → List Int → XH → Prop} : CS20 208 av h Q = k208 av h Q := id rfl
theorem cs20_209 {av : List Int} {h : XH} {Q : Nat → List Int → XH → Prop} : CS20 209 av h Q = k209 av h Q := id rfl
theorem cs20_211 {av : List Int} {h : XH} {Q : Nat → List Int → XH → Prop} : CS20 211 av h Q = k211 av h Q := id rfl
theorem cs20_216 {av : List Int} {h : XH} {Q : Nat → List Int → XH → Prop} : CS20 216 av h Q = k216 av h Q := id rfl
theorem cs20_217 {av : List Int} {h : XH} {Q : Nat → List Int → XH → Prop} : CS20 217 av h Q = k217 av h Q := id rfl
theorem cs20_218 {av : List Int} {h : XH} {Q : Nat → List Int → XH → Prop} : CS20 218 av h Q = k218 av h Q := id rfl
theorem cs20_219 {av : List Int} {h : XH} {Q : Nat → List Int → XH → Prop} : CS20 219 av h Q = k219 av h Q := id rfl
theorem cs20_220 {av : List Int} {h : XH} {Q : Nat → List Int → XH → Prop} : CS20 220 av h Q = k220 av h Q := id rfl
theorem cs20_221 {av : List Int} {h : XH} {Q : Nat → List Int → XH → Prop} : CS20 221 av h Q = k221 av h Q := id rfl
theorem cs20_210 {av : List Int} {h : XH} {Q : Nat → List Int → XH → Prop} : CS20 210 av h Q = k210 av h Q := id rfl
theorem cs20_212 {av : List Int} {h : XH} {Q : Nat → List Int → XH → Prop} : CS20 212 av h Q = k212 av h Q := id rfl
theorem cs20_213 {av : List Int} {h : XH} {Q : Nat → List Int → XH → Prop} : CS20 213 av h Q = k213 av h Q := id rfl
theorem cs20_190 {av : List Int} {h : XH} {Q : Nat → List Int → XH → Prop} : CS20 190 av h Q = k190 av h Q := id rfl
theorem cs20_199 {av : List Int} {h : XH} {Q : Nat → List Int → XH → Prop} : CS20 199 av h Q = k199 av h Q := id rfl
theorem cs20_225 {av : List Int} {h : XH} {Q : Nat → List Int → XH → Prop} : CS20 225 av h Q = k225 av h Q := id rfl
theorem cs20_226 {av : List Int} {h : XH} {Q : Nat → List Int → XH → Prop} : CS20 226 av h Q = k226 av h Q := id rfl
theorem cs20_227 {av : List Int} {h : XH} {Q : Nat → List Int → XH → Prop} : CS20 227 av h Q = k227 av h Q := id rfl
theorem cs20_228 {av : List Int} {h : XH} {Q : Nat → List Int → XH → Prop} : CS20 228 av h Q = k228 av h Q := id rfl
theorem cs20_240 {av : List Int} {h : XH} {Q : Nat → List Int → XH → Prop} : CS20 240 av h Q = k240 av h Q := id rfl
theorem cs20_241 {av : List Int} {h : XH} {Q : Nat → List Int → XH → Prop} : CS20 241 av h Q = k241 av h Q := id rfl
theorem cs20_206 {av : List Int} {h : XH} {Q : Nat → List Int → XH → Prop} : CS20 206 av h Q = k206 av h Q := id rfl
theorem cs20_333 {av : List Int} {h : XH} {Q : Nat → List Int → XH → Prop} : CS20 333 av h Q = k333 av h Q := id rfl
theorem cs20_67 {av : List Int} {h : XH} {Q : Nat → List Int → XH → Prop} : CS20 67 av h Q = k67 av h Q := id rfl
theorem cs20_65 {av : List Int} {h : XH} {Q : Nat → List Int → XH → Prop} : CS20 65 av h Q = k65 av h Q := id rfl
theorem cs20_66 {av : List Int} {h : XH} {Q : Nat → List Int → XH → Prop} : CS20 66 av h Q = k66 av h Q := id rfl
theorem cs20_64 {av : List Int} {h : XH} {Q : Nat → List Int → XH → Prop} : CS20 64 av h Q = k64 av h Q := id rfl
theorem cs20_63 {av : List Int} {h : XH} {Q : Nat → List Int → XH → Prop} : CS20 63 av h Q = k63 av h Q := id rfl
theorem cs20_77 {av : List Int} {h : XH} {Q : Nat → List Int → XH → Prop} : CS20 77 av h Q = k77 av h Q := id rfl
theorem cs20_76 {av : List Int} {h : XH} {Q : Nat → List Int → XH → Prop} : CS20 76 av h Q = k76 av h Q := id rfl
theorem cs20_133 {av : List Int} {h : XH} {Q : Nat → List Int → XH → Prop} : CS20 133 av h Q = k133 av h Q := id rfl
theorem cs20_134 {av : List Int} {h : XH} {Q : Nat → List Int → XH → Prop} : CS20 134 av h Q = k134 av h Q := id rfl
theorem cs20_135 {av : List Int} {h : XH} {Q : Nat → List Int → XH → Prop} : CS20 135 av h Q = k135 av h Q := id rfl
theorem cs20_136 {av : List Int} {h : XH} {Q : Nat → List Int → XH → Prop} : CS20 136 av h Q = k136 av h Q := id rfl
theorem cs20_138 {av : List Int} {h : XH} {Q : Nat → List Int → XH → Prop} : CS20 138 av h Q = k138 av h Q := id rfl
theorem cs20_139 {av : List Int} {h : XH} {Q : Nat → List Int → XH → Prop} : CS20 139 av h Q = k139 av h Q := id rfl
theorem cs20_105 {av : List Int} {h : XH} {Q : Nat → List Int → XH → Prop} : CS20 105 av h Q = k105 av h Q := id rfl
theorem cs20_102 {av : List Int} {h : XH} {Q : Nat → List Int → XH → Prop} : CS20 102 av h Q = k102 av h Q := id rfl
theorem cs20_103 {av : List Int} {h : XH} {Q : Nat → List Int → XH → Prop} : CS20 103 av h Q = k103 av h Q := id rfl
theorem cs20_104 {av : List Int} {h : XH} {Q : Nat → List Int → XH → Prop} : CS20 104 av h Q = k104 av h Q := id rfl
theorem cs20_106 {av : List Int} {h : XH} {Q : Nat → List Int → XH → Prop} : CS20 106 av h Q = k106 av h Q := id rfl
theorem cs20_140 {av : List Int} {h : XH} {Q : Nat → List Int → XH → Prop} : CS20 140 av h Q = k140 av h Q := id rfl
theorem cs20_137 {av : List Int} {h : XH} {Q : Nat → List Int → XH → Prop} : CS20 137 av h Q = k137 av h Q := id rfl
theorem cs20_127 {av : List Int} {h : XH} {Q : Nat → List Int → XH → Prop} : CS20 127 av h Q = k127 av h Q := id rfl
theorem cs20_56 {av : List Int} {h : XH} {Q : Nat → List Int → XH → Prop} : CS20 56 av h Q = k56 av h Q := id rfl
theorem cs20_57 {av : List Int} {h : XH} {Q : Nat → List Int → XH → Prop} : CS20 57 av h Q = k57 av h Q := id rfl
theorem cs20_79 {av : List Int} {h : XH} {Q : Nat → List Int → XH → Prop} : CS20 79 av h Q = k79 av h Q := id rfl
theorem cs20_101 {av : List Int} {h : XH} {Q : Nat → List Int → XH → Prop} : CS20 101 av h Q = k101 av h Q := id rfl
theorem cs20_96 {av : List Int} {h : XH} {Q : Nat → List Int → XH → Prop} : CS20 96 av h Q = k96 av h Q := id rfl
theorem cs20_99 {av : List Int} {h : XH} {Q : Nat → List Int → XH → Prop} : CS20 99 av h Q = k99c av h Q := id rfl
theorem cs20_100 {av : List Int} {h : XH} {Q : Nat → List Int → XH → Prop} : CS20 100 av h Q = k100 av h Q := id rfl
theorem cs20_98 {av : List Int} {h : XH} {Q : Nat → List Int → XH → Prop} : CS20 98 av h Q = k98 av h Q := id rfl
theorem cs20_122 {av : List Int} {h : XH} {Q : Nat → List Int → XH → Prop} : CS20 122 av h Q = k122 av h Q := id rfl
theorem cs20_123 {av : List Int} {h : XH} {Q : Nat → List Int → XH → Prop} : CS20 123 av h Q = k123 av h Q := id rfl
theorem cs20_124 {av : List Int} {h : XH} {Q : Nat → List Int → XH → Prop} : CS20 124 av h Q = k124 av h Q := id rfl
theorem cs20_125 {av : List Int} {h : XH} {Q : Nat → List Int → XH → Prop} : CS20 125 av h Q = k125 av h Q := id rfl
theorem cs20_126 {av : List Int} {h : XH} {Q : Nat → List Int → XH → Prop} : CS20 126 av h Q = k126 av h Q := id rfl
theorem cs20_84 {av : List Int} {h : XH} {Q : Nat → List Int → XH → Prop} : CS20 84 av h Q = k84 av h Q := id rfl
theorem cs20_82 {av : List Int} {h : XH} {Q : Nat → List Int → XH → Prop} : CS20 82 av h Q = k82 av h Q := id rfl
theorem cs20_83 {av : List Int} {h : XH} {Q : Nat → List Int → XH → Prop} : CS20 83 av h Q = k83 av h Q := id rfl
theorem cs20_85 {av : List Int} {h : XH} {Q : Nat → List Int → XH → Prop} : CS20 85 av h Q = k85 av h Q := id rfl
theorem cs20_89 {av : List Int} {h : XH} {Q : Nat → List Int → XH → Prop} : CS20 89 av h Q = k89 av h Q := id rfl
theorem cs20_90 {av : List Int} {h : XH} {Q : Nat → List Int → XH → Prop} : CS20 90 av h Q = k90 av h Q := id rfl
theorem cs20_91 {av : List Int} {h : XH} {Q : Nat → List Int → XH → Prop} : CS20 91 av h Q = k91 av h Q := id rfl
theorem cs20_88 {av : List Int} {h : XH} {Q : Nat → List Int → XH → Prop} : CS20 88 av h Q = k88 av h Q := id rfl
theorem cs20_86 {av : List Int} {h : XH} {Q : Nat → List Int → XH → Prop} : CS20 86 av h Q = k86 av h Q := id rfl
theorem cs20_87 {av : List Int} {h : XH} {Q : Nat → List Int → XH → Prop} : CS20 87 av h Q = k87 av h Q := id rfl
theorem cs20_81 {av : List Int} {h : XH} {Q : Nat → List Int → XH → Prop} : CS20 81 av h Q = k81 av h Q := id rfl
theorem cs20_128 {av : List Int} {h : XH} {Q : Nat → List Int → XH → Prop} : CS20 128 av h Q = k128 av h Q := id rfl
theorem cs20_119 {av : List Int} {h : XH} {Q : Nat → List Int → XH → Prop} : CS20 119 av h Q = k119 av h Q := id rfl
theorem cs20_97 {av : List Int} {h : XH} {Q : Nat → List Int → XH → Prop} : CS20 97 av h Q = k97 av h Q := id rfl
theorem cs20_3 {av : List Int} {h : XH} {Q : Nat → List Int → XH → Prop} : CS20 3 av h Q = k3 av h Q := id rfl
theorem snd_20 {xs : Nat → Int} {L K : Nat} : ∀ n, SndC CS20 (evF xs L g_ck K g_cW g_M n) := fun n cd f av h Q hQ k r g' h' e => by
  unfold CS20 at hQ
  split at hQ
  · exact snd_top n cd _ av h Q ⟨by decide, hQ⟩ k r g' h' e
  · exact snd_top n cd _ av h Q ⟨by decide, hQ⟩ k r g' h' e
  · exact snd_19 n cd _ av h Q hQ k r g' h' e
def CS21 : CSt := fun f => match f with
  | 61 => k61
  | 2 => k2
  | _ => CS20 f
theorem cs21_54 {av : List Int} {h : XH} {Q : Nat → List Int → XH → Prop} : CS21 54 av h Q = k54 av h Q := id rfl
theorem cs21_55 {av : List Int} {h : XH} {Q : Nat → List Int → XH → Prop} : CS21 55 av h Q = k55 av h Q := id rfl
theorem cs21_68 {av : List Int} {h : XH} {Q : Nat → List Int → XH → Prop} : CS21 68 av h Q = k68 av h Q := id rfl
theorem cs21_69 {av : List Int} {h : XH} {Q : Nat → List Int → XH → Prop} : CS21 69 av h Q = k69 av h Q := id rfl
theorem cs21_70 {av : List Int} {h : XH} {Q : Nat → List Int → XH → Prop} : CS21 70 av h Q = k70 av h Q := id rfl
theorem cs21_71 {av : List Int} {h : XH} {Q : Nat → List Int → XH → Prop} : CS21 71 av h Q = k71 av h Q := id rfl
theorem cs21_72 {av : List Int} {h : XH} {Q : Nat → List Int → XH → Prop} : CS21 72 av h Q = k72 av h Q := id rfl
theorem cs21_73 {av : List Int} {h : XH} {Q : Nat → List Int → XH → Prop} : CS21 73 av h Q = k73 av h Q := id rfl
theorem cs21_74 {av : List Int} {h : XH} {Q : Nat → List Int → XH → Prop} : CS21 74 av h Q = k74 av h Q := id rfl
theorem cs21_75 {av : List Int} {h : XH} {Q : Nat → List Int → XH → Prop} : CS21 75 av h Q = k75 av h Q := id rfl
theorem cs21_186 {av : List Int} {h : XH} {Q : Nat → List Int → XH → Prop} : CS21 186 av h Q = k186 av h Q := id rfl
theorem cs21_187 {av : List Int} {h : XH} {Q : Nat → List Int → XH → Prop} : CS21 187 av h Q = k187 av h Q := id rfl
theorem cs21_188 {av : List Int} {h : XH} {Q : Nat → List Int → XH → Prop} : CS21 188 av h Q = k188 av h Q := id rfl
theorem cs21_189 {av : List Int} {h : XH} {Q : Nat → List Int → XH → Prop} : CS21 189 av h Q = k189 av h Q := id rfl
theorem cs21_191 {av : List Int} {h : XH} {Q : Nat → List Int → XH → Prop} : CS21 191 av h Q = k191 av h Q := id rfl
theorem cs21_192 {av : List Int} {h : XH} {Q : Nat → List Int → XH → Prop} : CS21 192 av h Q = k192 av h Q := id rfl
theorem cs21_193 {av : List Int} {h : XH} {Q : Nat → List Int → XH → Prop} : CS21 193 av h Q = k193 av h Q := id rfl
theorem cs21_198 {av : List Int} {h : XH} {Q : Nat → List Int → XH → Prop} : CS21 198 av h Q = k198 av h Q := id rfl
theorem cs21_207 {av : List Int} {h : XH} {Q : Nat → List Int → XH → Prop} : CS21 207 av h Q = k207 av h Q := id rfl
theorem cs21_195 {av : List Int} {h : XH} {Q : Nat → List Int → XH → Prop} : CS21 195 av h Q = k195 av h Q := id rfl
theorem cs21_196 {av : List Int} {h : XH} {Q : Nat → List Int → XH → Prop} : CS21 196 av h Q = k196 av h Q := id rfl
theorem cs21_201 {av : List Int} {h : XH} {Q : Nat → List Int → XH → Prop} : CS21 201 av h Q = k201 av h Q := id rfl
theorem cs21_203 {av : List Int} {h : XH} {Q : Nat → List Int → XH → Prop} : CS21 203 av h Q = k203 av h Q := id rfl
theorem cs21_204 {av : List Int} {h : XH} {Q : Nat → List Int → XH → Prop} : CS21 204 av h Q = k204 av h Q := id rfl
theorem cs21_194 {av : List Int} {h : XH} {Q : Nat → List Int → XH → Prop} : CS21 194 av h Q = k194 av h Q := id rfl
theorem cs21_197 {av : List Int} {h : XH} {Q : Nat → List Int → XH → Prop} : CS21 197 av h Q = k197 av h Q := id rfl
theorem cs21_200 {av : List Int} {h : XH} {Q : Nat → List Int → XH → Prop} : CS21 200 av h Q = k200 av h Q := id rfl
theorem cs21_202 {av : List Int} {h : XH} {Q : Nat → List Int → XH → Prop} : CS21 202 av h Q = k202 av h Q := id rfl
theorem cs21_205 {av : List Int} {h : XH} {Q : Nat → List Int → XH → Prop} : CS21 205 av h Q = k205 av h Q := id rfl
theorem cs21_208 {av : List Int} {h : XH} {Q : Nat → List Int → XH → Prop} : CS21 208 av h Q = k208 av h Q := id rfl
theorem cs21_209 {av : List Int} {h : XH} {Q : Nat → List Int → XH → Prop} : CS21 209 av h Q = k209 av h Q := id rfl
theorem cs21_211 {av : List Int} {h : XH} {Q : Nat → List Int → XH → Prop} : CS21 211 av h Q = k211 av h Q := id rfl
theorem cs21_216 {av : List Int} {h : XH} {Q : Nat → List Int → XH → Prop} : CS21 216 av h Q = k216 av h Q := id rfl
theorem cs21_217 {av : List Int} {h : XH} {Q : Nat → List Int → XH → Prop} : CS21 217 av h Q = k217 av h Q := id rfl
theorem cs21_218 {av : List Int} {h : XH} {Q : Nat → List Int → XH → Prop} : CS21 218 av h Q = k218 av h Q := id rfl
theorem cs21_219 {av : List Int} {h : XH} {Q : Nat → List Int → XH → Prop} : CS21 219 av h Q = k219 av h Q := id rfl
theorem cs21_220 {av : List Int} {h : XH} {Q : Nat → List Int → XH → Prop} : CS21 220 av h Q = k220 av h Q := id rfl
theorem cs21_221 {av : List Int} {h : XH} {Q : Nat → List Int → XH → Prop} : CS21 221 av h Q = k221 av h Q := id rfl
theorem cs21_210 {av : List Int} {h : XH} {Q : Nat → List Int → XH → Prop} : CS21 210 av h Q = k210 av h Q := id rfl
theorem cs21_212 {av : List Int} {h : XH} {Q : Nat → List Int → XH → Prop} : CS21 212 av h Q = k212 av h Q := id rfl
theorem cs21_213 {av : List Int} {h : XH} {Q : Nat → List Int → XH → Prop} : CS21 213 av h Q = k213 av h Q := id rfl
theorem cs21_190 {av : List Int} {h : XH} {Q : Nat → List Int → XH → Prop} : CS21 190 av h Q = k190 av h Q := id rfl
theorem cs21_199 {av : List Int} {h : XH} {Q : Nat → List Int → XH → Prop} : CS21 199 av h Q = k199 av h Q := id rfl
theorem cs21_225 {av : List Int} {h : XH} {Q : Nat → List Int → XH → Prop} : CS21 225 av h Q = k225 av h Q := id rfl
theorem cs21_226 {av : List Int} {h : XH} {Q : Nat → List Int → XH → Prop} : CS21 226 av h Q = k226 av h Q := id rfl
theorem cs21_227 {av : List Int} {h : XH} {Q : Nat → List Int → XH → Prop} : CS21 227 av h Q = k227 av h Q := id rfl
theorem cs21_228 {av : List Int} {h : XH} {Q : Nat → List Int → XH → Prop} : CS21 228 av h Q = k228 av h Q := id rfl
theorem cs21_240 {av : List Int} {h : XH} {Q : Nat → List Int → XH → Prop} : CS21 240 av h Q = k240 av h Q := id rfl
theorem cs21_241 {av : List Int} {h : XH} {Q : Nat → List Int → XH → Prop} : CS21 241 av h Q = k241 av h Q := id rfl
theorem cs21_206 {av : List Int} {h : XH} {Q : Nat → List Int → XH → Prop} : CS21 206 av h Q = k206 av h Q := id rfl
theorem cs21_333 {av : List Int} {h : XH} {Q : Nat → List Int → XH → Prop} : CS21 333 av h Q = k333 av h Q := id rfl
theorem cs21_67 {av : List Int} {h : XH} {Q : Nat → List Int → XH → Prop} : CS21 67 av h Q = k67 av h Q := id rfl
theorem cs21_65 {av : List Int} {h : XH} {Q : Nat → List Int → XH → Prop} : CS21 65 av h Q = k65 av h Q := id rfl
theorem cs21_66 {av : List Int} {h : XH} {Q : Nat → List Int → XH → Prop} : CS21 66 av h Q = k66 av h Q := id rfl
theorem cs21_64 {av : List Int} {h : XH} {Q : Nat → List Int → XH → Prop} : CS21 64 av h Q = k64 av h Q := id rfl
theorem cs21_63 {av : List Int} {h : XH} {Q : Nat → List Int → XH → Prop} : CS21 63 av h Q = k63 av h Q := id rfl
theorem cs21_77 {av : List Int} {h : XH} {Q : Nat → List Int → XH → Prop} : CS21 77 av h Q = k77 av h Q := id rfl
theorem cs21_76 {av : List Int} {h : XH} {Q : Nat → List Int → XH → Prop} : CS21 76 av h Q = k76 av h Q := id rfl
theorem cs21_133 {av : List Int} {h : XH} {Q : Nat → List Int → XH → Prop} : CS21 133 av h Q = k133 av h Q := id rfl
theorem cs21_134 {av : List Int} {h : XH} {Q : Nat → List Int → XH → Prop} : CS21 134 av h Q = k134 av h Q := id rfl
theorem cs21_135 {av : List Int} {h : XH} {Q : Nat → List Int → XH → Prop} : CS21 135 av h Q = k135 av h Q := id rfl
theorem cs21_136 {av : List Int} {h : XH} {Q : Nat → List Int → XH → Prop} : CS21 136 av h Q = k136 av h Q := id rfl
theorem cs21_138 {av : List Int} {h : XH} {Q : Nat → List Int → XH → Prop} : CS21 138 av h Q = k138 av h Q := id rfl
theorem cs21_139 {av : List Int} {h : XH} {Q : Nat → List Int → XH → Prop} : CS21 139 av h Q = k139 av h Q := id rfl
theorem cs21_105 {av : List Int} {h : XH} {Q : Nat → List Int → XH → Prop} : CS21 105 av h Q = k105 av h Q := id rfl
theorem cs21_102 {av : List Int} {h : XH} {Q : Nat → List Int → XH → Prop} : CS21 102 av h Q = k102 av h Q := id rfl
theorem cs21_103 {av : List Int} {h : XH} {Q : Nat → List Int → XH → Prop} : CS21 103 av h Q = k103 av h Q := id rfl
theorem cs21_104 {av : List Int} {h : XH} {Q : Nat → List Int → XH → Prop} : CS21 104 av h Q = k104 av h Q := id rfl
theorem cs21_106 {av : List Int} {h : XH} {Q : Nat → List Int → XH → Prop} : CS21 106 av h Q = k106 av h Q := id rfl
theorem cs21_140 {av : List Int} {h : XH} {Q : Nat → List Int → XH → Prop} : CS21 140 av h Q = k140 av h Q := id rfl
theorem cs21_137 {av : List Int} {h : XH} {Q : Nat → List Int → XH → Prop} : CS21 137 av h Q = k137 av h Q := id rfl
theorem cs21_127 {av : List Int} {h : XH} {Q : Nat → List Int → XH → Prop} : CS21 127 av h Q = k127 av h Q := id rfl
theorem cs21_56 {av : List Int} {h : XH} {Q : Nat → List Int → XH → Prop} : CS21 56 av h Q = k56 av h Q := id rfl
theorem cs21_57 {av : List Int} {h : XH} {Q : Nat → List Int → XH → Prop} : CS21 57 av h Q = k57 av h Q := id rfl
theorem cs21_79 {av : List Int} {h : XH} {Q : Nat → List Int → XH → Prop} : CS21 79 av h Q = k79 av h Q := id rfl
theorem cs21_101 {av : List Int} {h : XH} {Q : Nat → List Int → XH → Prop} : CS21 101 av h Q = k101 av h Q := id rfl
theorem cs21_96 {av : List Int} {h : XH} {Q : Nat → List Int → XH → Prop} : CS21 96 av h Q = k96 av h Q := id rfl
theorem cs21_99 {av : List Int} {h : XH} {Q : Nat → List Int → XH → Prop} : CS21 99 av h Q = k99c av h Q := id rfl
theorem cs21_100 {av : List Int} {h : XH} {Q : Nat → List Int → XH → Prop} : CS21 100 av h Q = k100 av h Q := id rfl
theorem cs21_98 {av : List Int} {h : XH} {Q : Nat → List Int → XH → Prop} : CS21 98 av h Q = k98 av h Q := id rfl
theorem cs21_122 {av : List Int} {h : XH} {Q : Nat → List Int → XH → Prop} : CS21 122 av h Q = k122 av h Q := id rfl
theorem cs21_123 {av : List Int} {h : XH} {Q : Nat → List Int → XH → Prop} : CS21 123 av h Q = k123 av h Q := id rfl
theorem cs21_124 {av : List Int} {h : XH} {Q : Nat → List Int → XH → Prop} : CS21 124 av h Q = k124 av h Q := id rfl
theorem cs21_125 {av : List Int} {h : XH} {Q : Nat → List Int → XH → Prop} : CS21 125 av h Q = k125 av h Q := id rfl
theorem cs21_126 {av : List Int} {h : XH} {Q : Nat → List Int → XH → Prop} : CS21 126 av h Q = k126 av h Q := id rfl
theorem cs21_84 {av : List Int} {h : XH} {Q : Nat → List Int → XH → Prop} : CS21 84 av h Q = k84 av h Q := id rfl
theorem cs21_82 {av : List Int} {h : XH} {Q : Nat → List Int → XH → Prop} : CS21 82 av h Q = k82 av h Q := id rfl
theorem cs21_83 {av : List Int} {h : XH} {Q : Nat → List Int → XH → Prop} : CS21 83 av h Q = k83 av h Q := id rfl
theorem cs21_85 {av : List Int} {h : XH} {Q : Nat → List Int → XH → Prop} : CS21 85 av h Q = k85 av h Q := id rfl
theorem cs21_89 {av : List Int} {h : XH} {Q : Nat → List Int → XH → Prop} : CS21 89 av h Q = k89 av h Q := id rfl
theorem cs21_90 {av : List Int} {h : XH} {Q : Nat → List Int → XH → Prop} : CS21 90 av h Q = k90 av h Q := id rfl
theorem cs21_91 {av : List Int} {h : XH} {Q : Nat → List Int → XH → Prop} : CS21 91 av h Q = k91 av h Q := id rfl
theorem cs21_88 {av : List Int} {h : XH} {Q : Nat → List Int → XH → Prop} : CS21 88 av h Q = k88 av h Q := id rfl
theorem cs21_86 {av : List Int} {h : XH} {Q : Nat → List Int → XH → Prop} : CS21 86 av h Q = k86 av h Q := id rfl
theorem cs21_87 {av : List Int} {h : XH} {Q : Nat → List Int → XH → Prop} : CS21 87 av h Q = k87 av h Q := id rfl
theorem cs21_81 {av : List Int} {h : XH} {Q : Nat → List Int → XH → Prop} : CS21 81 av h Q = k81 av h Q := id rfl
theorem cs21_128 {av : List Int} {h : XH} {Q : Nat → List Int → XH → Prop} : CS21 128 av h Q = k128 av h Q := id rfl
theorem cs21_119 {av : List Int} {h : XH} {Q : Nat → List Int → XH → Prop} : CS21 119 av h Q = k119 av h Q := id rfl
theorem cs21_97 {av : List Int} {h : XH} {Q : Nat → List Int → XH → Prop} : CS21 97 av h Q = k97 av h Q := id rfl
theorem cs21_3 {av : List Int} {h : XH} {Q : Nat → List Int → XH → Prop} : CS21 3 av h Q = k3 av h Q := id rfl
theorem cs21_61 {av : List Int} {h : XH} {Q : Nat → List Int → XH → Prop} : CS21 61 av h Q = k61 av h Q := id rfl
theorem cs21_2 {av : List Int} {h : XH} {Q : Nat → List Int → XH → Prop} : CS21 2 av h Q = k2 av h Q := id rfl
theorem m_61 : BodyOK CS21 CS21 61 := fun av h Q hQ => by
  rw [cs21_61] at hQ
  unfold k61 at hQ
  split at hQ
  · rename_i o
    show pS CS21 bb_61 [o] h _
    unfold bb_61
    simp only [qe_1, qe_3, qe_4, qe_5, qe_7, qe_72, qe_10, qe_102, qe_13, qe_14, qe_15, qe_16, qe_17, qe_18, qe_20, qe_22, qe_23, qe_21, qe_24, qe_25, qe_26, qe_27, qe_28, qe_30, qe_31, qe_32, qc_20, qc_22, qc_23, qc_21, qc_24, qc_25, qc_26, qc_27, qc_1, qc_3, qc_4, qc_7, qc_13, qc_28, qc_32, qs_1, qs_2, qs_3, qs_4, qs_5, qs_6, qs_9, qs_10, qs_11, qs_14, qs_15, qs_16, qs_27, qs_17, qs_18, qs_19, qs_20, qs_22, qs_23, qs_28, qs_25, qs_26, qs_7, qs_8, kc_1, kn_1, kc_2, kn_2, kc_3, kn_3, kc_4, kn_4, kc_5, kn_5, kc_6, kn_6, kc_7, kn_7, kc_8, kn_8, kc_9, kn_9, kc_10, kn_10, kc_11, kn_11, kc_12, kn_12, kc_13, kn_13, kc_14, kn_14, kc_15, kn_15, kc_16, kc_17, kc_18, kc_19, kc_20, kc_21, kc_22, kc_23, kc_30, kc_32, kc_40, kc_43, kc_45, kc_48, kc_52, kc_56, kc_57, kc_59, kc_60, kc_61, kc_63, kc_64, kc_72, kc_78, kc_97, kc_99, kc_122, kc_126, kc_128, kc_192, kc_200, kc_255, kc_999, kc_1000, kc_9999, kn_9999, kc_10000, kc_12345, kc_65536, kc_252645135, kc_858993459, kc_1103515245, kc_1431655765, kc_2147483647, kc_0, kc_24, kc_28, kc_37, kc_41, kc_42, kc_73, kc_91, kc_95, kc_96, kc_98, kc_100, kc_112, kc_125, kc_150, kc_162, kc_163, kc_168, kc_186, kc_190, kc_250, kc_355, kc_356, kc_404, kc_405, kc_429, kc_573, kc_1002, kc_1100, kc_1891, kc_2200, kc_4719, kc_4869, kc_4881, kc_5148, kc_19741, kc_25433, kc_320403, kc_628412, kc_629093, kc_660401, kc_679843, kc_918640, kc_979410, kc_1178088, kc_6232410, kc_24644941, kc_36238189, kc_38270444, kc_392531318, kc_425693491, kc_1342154595, kc_2147483648, kc_42328242873, kc_891704255789, kc_1722105685577, kc_1858726030364, ct_0, ct_1, ct_2, ct_3, ct_4, ct_5, cf_0, cf_1, cf_2, cf_3, cf_4, cf_5, w_ty6, w_ty7, m_sv, m_z0, m_hd, m_g0, m_gs, m_s0, m_ss, m_ap, m_an, forall_const, true_and, and_true, ne_eq, not_true_eq_false, not_false_eq_true, false_implies, true_implies, implies_true, eq_self, reduceCtorEq, Nat.reduceDiv, Nat.reduceMod, Int.reduceToNat, or_true, true_or, or_false, false_or, or_self, m_it, m_if, m_c1, m_01, m_02, m_03, m_04, m_10, m_12, m_13, m_14, m_20, m_21, m_23, m_24, m_30, m_31, m_32, m_34, m_40, m_41, m_42, m_43, Int.reduceLE, Int.reduceLT, Int.reduceGE, Int.reduceGT, Int.reduceNeg, Int.reduceAdd, Int.reduceSub, Int.reduceMul, Int.reduceEq, Int.reduceNe, Nat.reduceAdd, jun2, ro_0_0, ro_0_1, ro_0_2, ro_0_3, ro_0_4, ro_0_5, ro_0_6, ro_0_7, ro_0_8, ro_0_9, ro_0_10, ro_0_11, ro_0_12, ro_1_0, ro_1_1, ro_2_0, ro_4_0, ro_6_0, ro_6_1, ro_6_2, ro_6_3, ro_6_4, ro_6_5, ro_6_6, ro_6_7, ro_6_8, ro_8_0, ro_10_0, ro_12_0, ro_14_0, ro_16_0, ro_18_0, ro_20_0, ro_22_0, ro_22_1, ro_22_2, ro_23_0, ro_25_0, ro_27_0, ro_29_0, ro_29_1, ro_29_2, ro_29_3, ro_29_4, ro_29_5, ro_29_6, ro_29_7, ro_29_8, ro_31_0, ro_33_0, ro_35_0, ro_37_0, ro_39_0, ro_41_0, ro_43_0, ro_45_0, ro_45_1, ro_45_2, ro_46_0, ro_48_0, ro_50_0, ro_52_0, ro_52_1, ro_52_2, ro_52_3, ro_53_0, ro_55_0, ro_57_0, ro_59_0, ro_61_0, ro_61_1, ro_61_2, ro_61_3, ro_62_0, ro_64_0, ro_66_0, ro_68_0, ro_70_0, ro_70_1, ro_70_2, ro_70_3, ro_70_4, ro_70_5, ro_70_6, ro_70_7, ro_70_8, ro_70_9, ro_71_0, ro_73_0, ro_75_0, ro_77_0, ro_79_0, ro_81_0, ro_83_0, ro_85_0, ro_87_0, ro_89_0, ro_91_0, ro_91_1, ro_91_2, ro_91_3, ro_91_4, ro_91_5, ro_91_6, ro_91_7, ro_91_8, ro_91_9, ro_92_0, ro_94_0, ro_96_0, ro_98_0, ro_100_0, ro_102_0, ro_104_0, ro_106_0, ro_108_0, ro_110_0, ro_112_0, ro_112_1, ro_112_2, ro_112_3, ro_112_4, ro_112_5, ro_112_6, ro_112_7, ro_112_8, ro_112_9, ro_113_0, ro_115_0, ro_117_0, ro_119_0, ro_121_0, ro_123_0, ro_125_0, ro_127_0, ro_129_0, ro_131_0, ro_133_0, ro_133_1, ro_133_2, ro_133_3, ro_133_4, ro_133_5, ro_133_6, ro_133_7, ro_133_8, ro_133_9, ro_134_0, ro_136_0, ro_138_0, ro_140_0, ro_142_0, ro_144_0, ro_146_0, ro_148_0, ro_150_0, ro_152_0, ro_154_0, ro_155_0, ro_157_0, ro_157_1, ro_157_2, ro_157_3, ro_157_4, ro_157_5, ro_157_6, ro_157_7, ro_157_8, ro_157_9, ro_158_0, ro_160_0, ro_162_0, ro_164_0, ro_166_0, ro_168_0, ro_170_0, ro_172_0, ro_174_0, ro_176_0, ro_178_0, ro_180_0, ro_182_1, ro_182_4, ro_182_5, ro_182_6, ro_182_9, ro_182_10, ro_182_11, ro_182_13, ro_182_14, ro_182_15, ro_182_16, ro_182_17, ro_182_20, ro_182_21, ro_182_22, ro_182_23, ro_182_24, ro_182_26, ro_182_27, ro_182_28, lo_3, lo_5, lo_7, lo_9, lo_11, lo_13, lo_15, lo_17, lo_19, lo_21, lo_24, lo_26, lo_28, lo_30, lo_32, lo_34, lo_36, lo_38, lo_40, lo_42, lo_44, lo_47, lo_49, lo_51, lo_54, lo_56, lo_58, lo_60, lo_63, lo_65, lo_67, lo_69, lo_72, lo_74, lo_76, lo_78, lo_80, lo_82, lo_84, lo_86, lo_88, lo_90, lo_93, lo_95, lo_97, lo_99, lo_101, lo_103, lo_105, lo_107, lo_109, lo_111, lo_114, lo_116, lo_118, lo_120, lo_122, lo_124, lo_126, lo_128, lo_130, lo_132, lo_135, lo_137, lo_139, lo_141, lo_143, lo_145, lo_147, lo_149, lo_151, lo_153, lo_156, lo_159, lo_161, lo_163, lo_165, lo_167, lo_169, lo_171, lo_173, lo_175, lo_177, lo_179, lo_181, lo_183, lo_184, lo_185, lo_186, lo_187, lo_188, lo_189, lo_190, lo_191, lo_192, lo_193, lo_194, lo_195, lo_196, lo_197, lo_198, lo_199, lo_200, lo_201, lo_202, lo_203, jp_nn, jp_eq, jp_e1, Classical.not_not, ji0, ji1, ji2, cs21_54, kk_54, cs21_55, kk_55, cs21_68, kk_68, cs21_69, kk_69, cs21_70, kk_70, cs21_71, kk_71, cs21_72, kk_72, cs21_73, kk_73, cs21_74, kk_74, cs21_75, kk_75, cs21_186, kk_186, cs21_187, kk_187, cs21_188, kk_188, cs21_189, kk_189, cs21_191, kk_191, cs21_192, kk_192, cs21_193, kk_193, cs21_198, kk_198, cs21_207, kk_207, cs21_195, kk_195, cs21_196, kk_196, cs21_201, kk_201, cs21_203, kk_203, cs21_204, kk_204, cs21_194, kk_194, cs21_197, kk_197, cs21_200, kk_200, cs21_202, kk_202, cs21_205, kk_205, cs21_208, kk_208, cs21_209, kk_209, cs21_211, kk_211, cs21_216, kk_216, cs21_217, kk_217, cs21_218, kk_218, cs21_219, kk_219, cs21_220, kk_220, cs21_221, kk_221, cs21_210, kk_210, cs21_212, kk_212, cs21_213, kk_213, cs21_190, kk_190, cs21_199, kk_199, cs21_225, kk_225, cs21_226, kk_226, cs21_227, kk_227, cs21_228, kk_228, cs21_240, kk_240, cs21_241, kk_241, cs21_206, kk_206, cs21_333, kk_333, cs21_67, kk_67, cs21_65, kk_65, cs21_66, kk_66, cs21_64, kk_64, cs21_63, kk_63, cs21_77, kk_77, cs21_76, kk_76, cs21_133, kk_133, cs21_134, kk_134, cs21_135, kk_135, cs21_136, kk_136, cs21_138, kk_138, cs21_139, kk_139, cs21_105, kk_105, cs21_102, kk_102, cs21_103, kk_103, cs21_104, kk_104, cs21_106, kk_106, cs21_140, kk_140, cs21_137, kk_137, cs21_127, kk_127, cs21_56, kk_56, cs21_57, kk_57, cs21_79, kk_79, cs21_101, kk_101, cs21_96, kk_96, cs21_99, kk_99, cs21_100, kk_100, cs21_98, kk_98, cs21_122, kk_122, cs21_123, kk_123, cs21_124, kk_124, cs21_125, kk_125, cs21_126, kk_126, cs21_84, kk_84, cs21_82, kk_82, cs21_83, kk_83, cs21_85, kk_85, cs21_89, kk_89, cs21_90, kk_90, cs21_91, kk_91, cs21_88, kk_88, cs21_86, kk_86, cs21_87, kk_87, cs21_81, kk_81, cs21_128, kk_128, cs21_119, kk_119, cs21_97, kk_97, cs21_3, kk_3, cs21_61, kk_61, cs21_2, kk_2, jl_0, jl_1, jl_2, jl_3, jl_4, jl_5, jl_6, jl_7, jl_8, jl_9, jl_10, jl_11, jl_12, jl_13, jl_14, jl_15, jl_16, jl_17, jl_18, jl_19, jl_20, jl_21, jl_22, jl_23, jl_24, jl_25, jl_26, jl_27, jl_28, jl_29, jl_30, jl_31, jl_32, jl_33, jl_34, jl_35, jl_36, jl_37, jl_38, jl_39, jl_40, jl_95, jl_96, jl_97, jl_98, jl_99, jl_100, jl_101, jl_102, jl_103, jl_104, jl_105, jl_106, jl_107, jl_108, jl_109, jl_110, jl_111, jl_112, jl_113, jl_114, jl_186, jl_1100, jr, ju, jpT, jpF, tnc, Nat.reduceEqDiff, reduceIte, and_false, false_and, not_true_eq_false, not_false_eq_true, or_false, gt_iff_lt, ge_iff_le, Int.lt_irrefl, Int.le_refl]
    exact hQ
  · exact hQ.elim
theorem m_2 : BodyOK CS21 CS21 2 := fun av h Q hQ => by
  rw [cs21_2] at hQ
  unfold k2 at hQ
  split at hQ
  · rename_i o
    obtain ⟨rfl, T, tN_w, byt, tok, tg, hQ⟩ := hQ
    show pS CS21 bb_2 [0, 0] h _
    unfold bb_2
    simp only [qe_1, qe_3, qe_4, qe_5, qe_7, qe_72, qe_10, qe_102, qe_13, qe_14, qe_15, qe_16, qe_17, qe_18, qe_20, qe_22, qe_23, qe_21, qe_24, qe_25, qe_26, qe_27, qe_28, qe_30, qe_31, qe_32, qc_20, qc_22, qc_23, qc_21, qc_24, qc_25, qc_26, qc_27, qc_1, qc_3, qc_4, qc_7, qc_13, qc_28, qc_32, qs_1, qs_2, qs_3, qs_4, qs_5, qs_6, qs_9, qs_10, qs_11, qs_14, qs_15, qs_16, qs_27, qs_17, qs_18, qs_19, qs_20, qs_22, qs_23, qs_28, qs_25, qs_26, qs_7, qs_8, kc_1, kn_1, kc_2, kn_2, kc_3, kn_3, kc_4, kn_4, kc_5, kn_5, kc_6, kn_6, kc_7, kn_7, kc_8, kn_8, kc_9, kn_9, kc_10, kn_10, kc_11, kn_11, kc_12, kn_12, kc_13, kn_13, kc_14, kn_14, kc_15, kn_15, kc_16, kc_17, kc_18, kc_19, kc_20, kc_21, kc_22, kc_23, kc_30, kc_32, kc_40, kc_43, kc_45, kc_48, kc_52, kc_56, kc_57, kc_59, kc_60, kc_61, kc_63, kc_64, kc_72, kc_78, kc_97, kc_99, kc_122, kc_126, kc_128, kc_192, kc_200, kc_255, kc_999, kc_1000, kc_9999, kn_9999, kc_10000, kc_12345, kc_65536, kc_252645135, kc_858993459, kc_1103515245, kc_1431655765, kc_2147483647, kc_0, kc_24, kc_28, kc_37, kc_41, kc_42, kc_73, kc_91, kc_95, kc_96, kc_98, kc_100, kc_112, kc_125, kc_150, kc_162, kc_163, kc_168, kc_186, kc_190, kc_250, kc_355, kc_356, kc_404, kc_405, kc_429, kc_573, kc_1002, kc_1100, kc_1891, kc_2200, kc_4719, kc_4869, kc_4881, kc_5148, kc_19741, kc_25433, kc_320403, kc_628412, kc_629093, kc_660401, kc_679843, kc_918640, kc_979410, kc_1178088, kc_6232410, kc_24644941, kc_36238189, kc_38270444, kc_392531318, kc_425693491, kc_1342154595, kc_2147483648, kc_42328242873, kc_891704255789, kc_1722105685577, kc_1858726030364, ct_0, ct_1, ct_2, ct_3, ct_4, ct_5, cf_0, cf_1, cf_2, cf_3, cf_4, cf_5, w_ty6, w_ty7, m_sv, m_z0, m_hd, m_g0, m_gs, m_s0, m_ss, m_ap, m_an, forall_const, true_and, and_true, ne_eq, not_true_eq_false, not_false_eq_true, false_implies, true_implies, implies_true, eq_self, reduceCtorEq, Nat.reduceDiv, Nat.reduceMod, Int.reduceToNat, or_true, true_or, or_false, false_or, or_self, m_it, m_if, m_c1, m_01, m_02, m_03, m_04, m_10, m_12, m_13, m_14, m_20, m_21, m_23, m_24, m_30, m_31, m_32, m_34, m_40, m_41, m_42, m_43, Int.reduceLE, Int.reduceLT, Int.reduceGE, Int.reduceGT, Int.reduceNeg, Int.reduceAdd, Int.reduceSub, Int.reduceMul, Int.reduceEq, Int.reduceNe, Nat.reduceAdd, jun2, ro_0_0, ro_0_1, ro_0_2, ro_0_3, ro_0_4, ro_0_5, ro_0_6, ro_0_7, ro_0_8, ro_0_9, ro_0_10, ro_0_11, ro_0_12, ro_1_0, ro_1_1, ro_2_0, ro_4_0, ro_6_0, ro_6_1, ro_6_2, ro_6_3, ro_6_4, ro_6_5, ro_6_6, ro_6_7, ro_6_8, ro_8_0, ro_10_0, ro_12_0, ro_14_0, ro_16_0, ro_18_0, ro_20_0, ro_22_0, ro_22_1, ro_22_2, ro_23_0, ro_25_0, ro_27_0, ro_29_0, ro_29_1, ro_29_2, ro_29_3, ro_29_4, ro_29_5, ro_29_6, ro_29_7, ro_29_8, ro_31_0, ro_33_0, ro_35_0, ro_37_0, ro_39_0, ro_41_0, ro_43_0, ro_45_0, ro_45_1, ro_45_2, ro_46_0, ro_48_0, ro_50_0, ro_52_0, ro_52_1, ro_52_2, ro_52_3, ro_53_0, ro_55_0, ro_57_0, ro_59_0, ro_61_0, ro_61_1, ro_61_2, ro_61_3, ro_62_0, ro_64_0, ro_66_0, ro_68_0, ro_70_0, ro_70_1, ro_70_2, ro_70_3, ro_70_4, ro_70_5, ro_70_6, ro_70_7, ro_70_8, ro_70_9, ro_71_0, ro_73_0, ro_75_0, ro_77_0, ro_79_0, ro_81_0, ro_83_0, ro_85_0, ro_87_0, ro_89_0, ro_91_0, ro_91_1, ro_91_2, ro_91_3, ro_91_4, ro_91_5, ro_91_6, ro_91_7, ro_91_8, ro_91_9, ro_92_0, ro_94_0, ro_96_0, ro_98_0, ro_100_0, ro_102_0, ro_104_0, ro_106_0, ro_108_0, ro_110_0, ro_112_0, ro_112_1, ro_112_2, ro_112_3, ro_112_4, ro_112_5, ro_112_6, ro_112_7, ro_112_8, ro_112_9, ro_113_0, ro_115_0, ro_117_0, ro_119_0, ro_121_0, ro_123_0, ro_125_0, ro_127_0, ro_129_0, ro_131_0, ro_133_0, ro_133_1, ro_133_2, ro_133_3, ro_133_4, ro_133_5, ro_133_6, ro_133_7, ro_133_8, ro_133_9, ro_134_0, ro_136_0, ro_138_0, ro_140_0, ro_142_0, ro_144_0, ro_146_0, ro_148_0, ro_150_0, ro_152_0, ro_154_0, ro_155_0, ro_157_0, ro_157_1, ro_157_2, ro_157_3, ro_157_4, ro_157_5, ro_157_6, ro_157_7, ro_157_8, ro_157_9, ro_158_0, ro_160_0, ro_162_0, ro_164_0, ro_166_0, ro_168_0, ro_170_0, ro_172_0, ro_174_0, ro_176_0, ro_178_0, ro_180_0, ro_182_1, ro_182_4, ro_182_5, ro_182_6, ro_182_9, ro_182_10, ro_182_11, ro_182_13, ro_182_14, ro_182_15, ro_182_16, ro_182_17, ro_182_20, ro_182_21, ro_182_22, ro_182_23, ro_182_24, ro_182_26, ro_182_27, ro_182_28, lo_3, lo_5, lo_7, lo_9, lo_11, lo_13, lo_15, lo_17, lo_19, lo_21, lo_24, lo_26, lo_28, lo_30, lo_32, lo_34, lo_36, lo_38, lo_40, lo_42, lo_44, lo_47, lo_49, lo_51, lo_54, lo_56, lo_58, lo_60, lo_63, lo_65, lo_67, lo_69, lo_72, lo_74, lo_76, lo_78, lo_80, lo_82, lo_84, lo_86, lo_88, lo_90, lo_93, lo_95, lo_97, lo_99, lo_101, lo_103, lo_105, lo_107, lo_109, lo_111, lo_114, lo_116, lo_118, lo_120, lo_122, lo_124, lo_126, lo_128, lo_130, lo_132, lo_135, lo_137, lo_139, lo_141, lo_143, lo_145, lo_147, lo_149, lo_151, lo_153, lo_156, lo_159, lo_161, lo_163, lo_165, lo_167, lo_169, lo_171, lo_173, lo_175, lo_177, lo_179, lo_181, lo_183, lo_184, lo_185, lo_186, lo_187, lo_188, lo_189, lo_190, lo_191, lo_192, lo_193, lo_194, lo_195, lo_196, lo_197, lo_198, lo_199, lo_200, lo_201, lo_202, lo_203, jp_nn, jp_eq, jp_e1, Classical.not_not, ji0, ji1, ji2, cs21_54, kk_54, cs21_55, kk_55, cs21_68, kk_68, cs21_69, kk_69, cs21_70, kk_70, cs21_71, kk_71, cs21_72, kk_72, cs21_73, kk_73, cs21_74, kk_74, cs21_75, kk_75, cs21_186, kk_186, cs21_187, kk_187, cs21_188, kk_188, cs21_189, kk_189, cs21_191, kk_191, cs21_192, kk_192, cs21_193, kk_193, cs21_198, kk_198, cs21_207, kk_207, cs21_195, kk_195, cs21_196, kk_196, cs21_201, kk_201, cs21_203, kk_203, cs21_204, kk_204, cs21_194, kk_194, cs21_197, kk_197, cs21_200, kk_200, cs21_202, kk_202, cs21_205, kk_205, cs21_208, kk_208, cs21_209, kk_209, cs21_211, kk_211, cs21_216, kk_216, cs21_217, kk_217, cs21_218, kk_218, cs21_219, kk_219, cs21_220, kk_220, cs21_221, kk_221, cs21_210, kk_210, cs21_212, kk_212, cs21_213, kk_213, cs21_190, kk_190, cs21_199, kk_199, cs21_225, kk_225, cs21_226, kk_226, cs21_227, kk_227, cs21_228, kk_228, cs21_240, kk_240, cs21_241, kk_241, cs21_206, kk_206, cs21_333, kk_333, cs21_67, kk_67, cs21_65, kk_65, cs21_66, kk_66, cs21_64, kk_64, cs21_63, kk_63, cs21_77, kk_77, cs21_76, kk_76, cs21_133, kk_133, cs21_134, kk_134, cs21_135, kk_135, cs21_136, kk_136, cs21_138, kk_138, cs21_139, kk_139, cs21_105, kk_105, cs21_102, kk_102, cs21_103, kk_103, cs21_104, kk_104, cs21_106, kk_106, cs21_140, kk_140, cs21_137, kk_137, cs21_127, kk_127, cs21_56, kk_56, cs21_57, kk_57, cs21_79, kk_79, cs21_101, kk_101, cs21_96, kk_96, cs21_99, kk_99, cs21_100, kk_100, cs21_98, kk_98, cs21_122, kk_122, cs21_123, kk_123, cs21_124, kk_124, cs21_125, kk_125, cs21_126, kk_126, cs21_84, kk_84, cs21_82, kk_82, cs21_83, kk_83, cs21_85, kk_85, cs21_89, kk_89, cs21_90, kk_90, cs21_91, kk_91, cs21_88, kk_88, cs21_86, kk_86, cs21_87, kk_87, cs21_81, kk_81, cs21_128, kk_128, cs21_119, kk_119, cs21_97, kk_97, cs21_3, kk_3, cs21_61, kk_61, cs21_2, kk_2, jl_0, jl_1, jl_2, jl_3, jl_4, jl_5, jl_6, jl_7, jl_8, jl_9, jl_10, jl_11, jl_12, jl_13, jl_14, jl_15, jl_16, jl_17, jl_18, jl_19, jl_20, jl_21, jl_22, jl_23, jl_24, jl_25, jl_26, jl_27, jl_28, jl_29, jl_30, jl_31, jl_32, jl_33, jl_34, jl_35, jl_36, jl_37, jl_38, jl_39, jl_40, jl_95, jl_96, jl_97, jl_98, jl_99, jl_100, jl_101, jl_102, jl_103, jl_104, jl_105, jl_106, jl_107, jl_108, jl_109, jl_110, jl_111, jl_112, jl_113, jl_114, jl_186, jl_1100, jr, ju, jpT, jpF, tnc, Nat.reduceEqDiff, reduceIte, and_false, false_and, not_true_eq_false, not_false_eq_true, or_false, gt_iff_lt, ge_iff_le, Int.lt_irrefl, Int.le_refl]
    refine ⟨T, tN_w, byt, tok, tg, fun f h1 e f1_w => ?_, fun D h1 e f1_w cd1 => ?_⟩
    · have er : resG (tS T) (tP T) (tV T) wl = f := by
        unfold resG
        rw [e]
      rw [er] at hQ
      by_cases y : f = 0
      · subst y
        simp only [qe_1, qe_3, qe_4, qe_5, qe_7, qe_72, qe_10, qe_102, qe_13, qe_14, qe_15, qe_16, qe_17, qe_18, qe_20, qe_22, qe_23, qe_21, qe_24, qe_25, qe_26, qe_27, qe_28, qe_30, qe_31, qe_32, qc_20, qc_22, qc_23, qc_21, qc_24, qc_25, qc_26, qc_27, qc_1, qc_3, qc_4, qc_7, qc_13, qc_28, qc_32, qs_1, qs_2, qs_3, qs_4, qs_5, qs_6, qs_9, qs_10, qs_11, qs_14, qs_15, qs_16, qs_27, qs_17, qs_18, qs_19, qs_20, qs_22, qs_23, qs_28, qs_25, qs_26, qs_7, qs_8, kc_1, kn_1, kc_2, kn_2, kc_3, kn_3, kc_4, kn_4, kc_5, kn_5, kc_6, kn_6, kc_7, kn_7, kc_8, kn_8, kc_9, kn_9, kc_10, kn_10, kc_11, kn_11, kc_12, kn_12, kc_13, kn_13, kc_14, kn_14, kc_15, kn_15, kc_16, kc_17, kc_18, kc_19, kc_20, kc_21, kc_22, kc_23, kc_30, kc_32, kc_40, kc_43, kc_45, kc_48, kc_52, kc_56, kc_57, kc_59, kc_60, kc_61, kc_63, kc_64, kc_72, kc_78, kc_97, kc_99, kc_122, kc_126, kc_128, kc_192, kc_200, kc_255, kc_999, kc_1000, kc_9999, kn_9999, kc_10000, kc_12345, kc_65536, kc_252645135, kc_858993459, kc_1103515245, kc_1431655765, kc_2147483647, kc_0, kc_24, kc_28, kc_37, kc_41, kc_42, kc_73, kc_91, kc_95, kc_96, kc_98, kc_100, kc_112, kc_125, kc_150, kc_162, kc_163, kc_168, kc_186, kc_190, kc_250, kc_355, kc_356, kc_404, kc_405, kc_429, kc_573, kc_1002, kc_1100, kc_1891, kc_2200, kc_4719, kc_4869, kc_4881, kc_5148, kc_19741, kc_25433, kc_320403, kc_628412, kc_629093, kc_660401, kc_679843, kc_918640, kc_979410, kc_1178088, kc_6232410, kc_24644941, kc_36238189, kc_38270444, kc_392531318, kc_425693491, kc_1342154595, kc_2147483648, kc_42328242873, kc_891704255789, kc_1722105685577, kc_1858726030364, ct_0, ct_1, ct_2, ct_3, ct_4, ct_5, cf_0, cf_1, cf_2, cf_3, cf_4, cf_5, w_ty6, w_ty7, m_sv, m_z0, m_hd, m_g0, m_gs, m_s0, m_ss, m_ap, m_an, forall_const, true_and, and_true, ne_eq, not_true_eq_false, not_false_eq_true, false_implies, true_implies, implies_true, eq_self, reduceCtorEq, Nat.reduceDiv, Nat.reduceMod, Int.reduceToNat, or_true, true_or, or_false, false_or, or_self, m_it, m_if, m_c1, m_01, m_02, m_03, m_04, m_10, m_12, m_13, m_14, m_20, m_21, m_23, m_24, m_30, m_31, m_32, m_34, m_40, m_41, m_42, m_43, Int.reduceLE, Int.reduceLT, Int.reduceGE, Int.reduceGT, Int.reduceNeg, Int.reduceAdd, Int.reduceSub, Int.reduceMul, Int.reduceEq, Int.reduceNe, Nat.reduceAdd, jun2, ro_0_0, ro_0_1, ro_0_2, ro_0_3, ro_0_4, ro_0_5, ro_0_6, ro_0_7, ro_0_8, ro_0_9, ro_0_10, ro_0_11, ro_0_12, ro_1_0, ro_1_1, ro_2_0, ro_4_0, ro_6_0, ro_6_1, ro_6_2, ro_6_3, ro_6_4, ro_6_5, ro_6_6, ro_6_7, ro_6_8, ro_8_0, ro_10_0, ro_12_0, ro_14_0, ro_16_0, ro_18_0, ro_20_0, ro_22_0, ro_22_1, ro_22_2, ro_23_0, ro_25_0, ro_27_0, ro_29_0, ro_29_1, ro_29_2, ro_29_3, ro_29_4, ro_29_5, ro_29_6, ro_29_7, ro_29_8, ro_31_0, ro_33_0, ro_35_0, ro_37_0, ro_39_0, ro_41_0, ro_43_0, ro_45_0, ro_45_1, ro_45_2, ro_46_0, ro_48_0, ro_50_0, ro_52_0, ro_52_1, ro_52_2, ro_52_3, ro_53_0, ro_55_0, ro_57_0, ro_59_0, ro_61_0, ro_61_1, ro_61_2, ro_61_3, ro_62_0, ro_64_0, ro_66_0, ro_68_0, ro_70_0, ro_70_1, ro_70_2, ro_70_3, ro_70_4, ro_70_5, ro_70_6, ro_70_7, ro_70_8, ro_70_9, ro_71_0, ro_73_0, ro_75_0, ro_77_0, ro_79_0, ro_81_0, ro_83_0, ro_85_0, ro_87_0, ro_89_0, ro_91_0, ro_91_1, ro_91_2, ro_91_3, ro_91_4, ro_91_5, ro_91_6, ro_91_7, ro_91_8, ro_91_9, ro_92_0, ro_94_0, ro_96_0, ro_98_0, ro_100_0, ro_102_0, ro_104_0, ro_106_0, ro_108_0, ro_110_0, ro_112_0, ro_112_1, ro_112_2, ro_112_3, ro_112_4, ro_112_5, ro_112_6, ro_112_7, ro_112_8, ro_112_9, ro_113_0, ro_115_0, ro_117_0, ro_119_0, ro_121_0, ro_123_0, ro_125_0, ro_127_0, ro_129_0, ro_131_0, ro_133_0, ro_133_1, ro_133_2, ro_133_3, ro_133_4, ro_133_5, ro_133_6, ro_133_7, ro_133_8, ro_133_9, ro_134_0, ro_136_0, ro_138_0, ro_140_0, ro_142_0, ro_144_0, ro_146_0, ro_148_0, ro_150_0, ro_152_0, ro_154_0, ro_155_0, ro_157_0, ro_157_1, ro_157_2, ro_157_3, ro_157_4, ro_157_5, ro_157_6, ro_157_7, ro_157_8, ro_157_9, ro_158_0, ro_160_0, ro_162_0, ro_164_0, ro_166_0, ro_168_0, ro_170_0, ro_172_0, ro_174_0, ro_176_0, ro_178_0, ro_180_0, ro_182_1, ro_182_4, ro_182_5, ro_182_6, ro_182_9, ro_182_10, ro_182_11, ro_182_13, ro_182_14, ro_182_15, ro_182_16, ro_182_17, ro_182_20, ro_182_21, ro_182_22, ro_182_23, ro_182_24, ro_182_26, ro_182_27, ro_182_28, lo_3, lo_5, lo_7, lo_9, lo_11, lo_13, lo_15, lo_17, lo_19, lo_21, lo_24, lo_26, lo_28, lo_30, lo_32, lo_34, lo_36, lo_38, lo_40, lo_42, lo_44, lo_47, lo_49, lo_51, lo_54, lo_56, lo_58, lo_60, lo_63, lo_65, lo_67, lo_69, lo_72, lo_74, lo_76, lo_78, lo_80, lo_82, lo_84, lo_86, lo_88, lo_90, lo_93, lo_95, lo_97, lo_99, lo_101, lo_103, lo_105, lo_107, lo_109, lo_111, lo_114, lo_116, lo_118, lo_120, lo_122, lo_124, lo_126, lo_128, lo_130, lo_132, lo_135, lo_137, lo_139, lo_141, lo_143, lo_145, lo_147, lo_149, lo_151, lo_153, lo_156, lo_159, lo_161, lo_163, lo_165, lo_167, lo_169, lo_171, lo_173, lo_175, lo_177, lo_179, lo_181, lo_183, lo_184, lo_185, lo_186, lo_187, lo_188, lo_189, lo_190, lo_191, lo_192, lo_193, lo_194, lo_195, lo_196, lo_197, lo_198, lo_199, lo_200, lo_201, lo_202, lo_203, jp_nn, jp_eq, jp_e1, Classical.not_not, ji0, ji1, ji2, cs21_54, kk_54, cs21_55, kk_55, cs21_68, kk_68, cs21_69, kk_69, cs21_70, kk_70, cs21_71, kk_71, cs21_72, kk_72, cs21_73, kk_73, cs21_74, kk_74, cs21_75, kk_75, cs21_186, kk_186, cs21_187, kk_187, cs21_188, kk_188, cs21_189, kk_189, cs21_191, kk_191, cs21_192, kk_192, cs21_193, kk_193, cs21_198, kk_198, cs21_207, kk_207, cs21_195, kk_195, cs21_196, kk_196, cs21_201, kk_201, cs21_203, kk_203, cs21_204, kk_204, cs21_194, kk_194, cs21_197, kk_197, cs21_200, kk_200, cs21_202, kk_202, cs21_205, kk_205, cs21_208, kk_208, cs21_209, kk_209, cs21_211, kk_211, cs21_216, kk_216, cs21_217, kk_217, cs21_218, kk_218, cs21_219, kk_219, cs21_220, kk_220, cs21_221, kk_221, cs21_210, kk_210, cs21_212, kk_212, cs21_213, kk_213, cs21_190, kk_190, cs21_199, kk_199, cs21_225, kk_225, cs21_226, kk_226, cs21_227, kk_227, cs21_228, kk_228, cs21_240, kk_240, cs21_241, kk_241, cs21_206, kk_206, cs21_333, kk_333, cs21_67, kk_67, cs21_65, kk_65, cs21_66, kk_66, cs21_64, kk_64, cs21_63, kk_63, cs21_77, kk_77, cs21_76, kk_76, cs21_133, kk_133, cs21_134, kk_134, cs21_135, kk_135, cs21_136, kk_136, cs21_138, kk_138, cs21_139, kk_139, cs21_105, kk_105, cs21_102, kk_102, cs21_103, kk_103, cs21_104, kk_104, cs21_106, kk_106, cs21_140, kk_140, cs21_137, kk_137, cs21_127, kk_127, cs21_56, kk_56, cs21_57, kk_57, cs21_79, kk_79, cs21_101, kk_101, cs21_96, kk_96, cs21_99, kk_99, cs21_100, kk_100, cs21_98, kk_98, cs21_122, kk_122, cs21_123, kk_123, cs21_124, kk_124, cs21_125, kk_125, cs21_126, kk_126, cs21_84, kk_84, cs21_82, kk_82, cs21_83, kk_83, cs21_85, kk_85, cs21_89, kk_89, cs21_90, kk_90, cs21_91, kk_91, cs21_88, kk_88, cs21_86, kk_86, cs21_87, kk_87, cs21_81, kk_81, cs21_128, kk_128, cs21_119, kk_119, cs21_97, kk_97, cs21_3, kk_3, cs21_61, kk_61, cs21_2, kk_2, jl_0, jl_1, jl_2, jl_3, jl_4, jl_5, jl_6, jl_7, jl_8, jl_9, jl_10, jl_11, jl_12, jl_13, jl_14, jl_15, jl_16, jl_17, jl_18, jl_19, jl_20, jl_21, jl_22, jl_23, jl_24, jl_25, jl_26, jl_27, jl_28, jl_29, jl_30, jl_31, jl_32, jl_33, jl_34, jl_35, jl_36, jl_37, jl_38, jl_39, jl_40, jl_95, jl_96, jl_97, jl_98, jl_99, jl_100, jl_101, jl_102, jl_103, jl_104, jl_105, jl_106, jl_107, jl_108, jl_109, jl_110, jl_111, jl_112, jl_113, jl_114, jl_186, jl_1100, jr, ju, jpT, jpF, tnc, Nat.reduceEqDiff, reduceIte, and_false, false_and, not_true_eq_false, not_false_eq_true, or_false, gt_iff_lt, ge_iff_le, Int.lt_irrefl, Int.le_refl]
        intros
        exact hQ _
      · simp only [qe_1, qe_3, qe_4, qe_5, qe_7, qe_72, qe_10, qe_102, qe_13, qe_14, qe_15, qe_16, qe_17, qe_18, qe_20, qe_22, qe_23, qe_21, qe_24, qe_25, qe_26, qe_27, qe_28, qe_30, qe_31, qe_32, qc_20, qc_22, qc_23, qc_21, qc_24, qc_25, qc_26, qc_27, qc_1, qc_3, qc_4, qc_7, qc_13, qc_28, qc_32, qs_1, qs_2, qs_3, qs_4, qs_5, qs_6, qs_9, qs_10, qs_11, qs_14, qs_15, qs_16, qs_27, qs_17, qs_18, qs_19, qs_20, qs_22, qs_23, qs_28, qs_25, qs_26, qs_7, qs_8, kc_1, kn_1, kc_2, kn_2, kc_3, kn_3, kc_4, kn_4, kc_5, kn_5, kc_6, kn_6, kc_7, kn_7, kc_8, kn_8, kc_9, kn_9, kc_10, kn_10, kc_11, kn_11, kc_12, kn_12, kc_13, kn_13, kc_14, kn_14, kc_15, kn_15, kc_16, kc_17, kc_18, kc_19, kc_20, kc_21, kc_22, kc_23, kc_30, kc_32, kc_40, kc_43, kc_45, kc_48, kc_52, kc_56, kc_57, kc_59, kc_60, kc_61, kc_63, kc_64, kc_72, kc_78, kc_97, kc_99, kc_122, kc_126, kc_128, kc_192, kc_200, kc_255, kc_999, kc_1000, kc_9999, kn_9999, kc_10000, kc_12345, kc_65536, kc_252645135, kc_858993459, kc_1103515245, kc_1431655765, kc_2147483647, kc_0, kc_24, kc_28, kc_37, kc_41, kc_42, kc_73, kc_91, kc_95, kc_96, kc_98, kc_100, kc_112, kc_125, kc_150, kc_162, kc_163, kc_168, kc_186, kc_190, kc_250, kc_355, kc_356, kc_404, kc_405, kc_429, kc_573, kc_1002, kc_1100, kc_1891, kc_2200, kc_4719, kc_4869, kc_4881, kc_5148, kc_19741, kc_25433, kc_320403, kc_628412, kc_629093, kc_660401, kc_679843, kc_918640, kc_979410, kc_1178088, kc_6232410, kc_24644941, kc_36238189, kc_38270444, kc_392531318, kc_425693491, kc_1342154595, kc_2147483648, kc_42328242873, kc_891704255789, kc_1722105685577, kc_1858726030364, ct_0, ct_1, ct_2, ct_3, ct_4, ct_5, cf_0, cf_1, cf_2, cf_3, cf_4, cf_5, w_ty6, w_ty7, m_sv, m_z0, m_hd, m_g0, m_gs, m_s0, m_ss, m_ap, m_an, forall_const, true_and, and_true, ne_eq, not_true_eq_false, not_false_eq_true, false_implies, true_implies, implies_true, eq_self, reduceCtorEq, Nat.reduceDiv, Nat.reduceMod, Int.reduceToNat, or_true, true_or, or_false, false_or, or_self, m_it, m_if, m_c1, m_01, m_02, m_03, m_04, m_10, m_12, m_13, m_14, m_20, m_21, m_23, m_24, m_30, m_31, m_32, m_34, m_40, m_41, m_42, m_43, Int.reduceLE, Int.reduceLT, Int.reduceGE, Int.reduceGT, Int.reduceNeg, Int.reduceAdd, Int.reduceSub, Int.reduceMul, Int.reduceEq, Int.reduceNe, Nat.reduceAdd, jun2, ro_0_0, ro_0_1, ro_0_2, ro_0_3, ro_0_4, ro_0_5, ro_0_6, ro_0_7, ro_0_8, ro_0_9, ro_0_10, ro_0_11, ro_0_12, ro_1_0, ro_1_1, ro_2_0, ro_4_0, ro_6_0, ro_6_1, ro_6_2, ro_6_3, ro_6_4, ro_6_5, ro_6_6, ro_6_7, ro_6_8, ro_8_0, ro_10_0, ro_12_0, ro_14_0, ro_16_0, ro_18_0, ro_20_0, ro_22_0, ro_22_1, ro_22_2, ro_23_0, ro_25_0, ro_27_0, ro_29_0, ro_29_1, ro_29_2, ro_29_3, ro_29_4, ro_29_5, ro_29_6, ro_29_7, ro_29_8, ro_31_0, ro_33_0, ro_35_0, ro_37_0, ro_39_0, ro_41_0, ro_43_0, ro_45_0, ro_45_1, ro_45_2, ro_46_0, ro_48_0, ro_50_0, ro_52_0, ro_52_1, ro_52_2, ro_52_3, ro_53_0, ro_55_0, ro_57_0, ro_59_0, ro_61_0, ro_61_1, ro_61_2, ro_61_3, ro_62_0, ro_64_0, ro_66_0, ro_68_0, ro_70_0, ro_70_1, ro_70_2, ro_70_3, ro_70_4, ro_70_5, ro_70_6, ro_70_7, ro_70_8, ro_70_9, ro_71_0, ro_73_0, ro_75_0, ro_77_0, ro_79_0, ro_81_0, ro_83_0, ro_85_0, ro_87_0, ro_89_0, ro_91_0, ro_91_1, ro_91_2, ro_91_3, ro_91_4, ro_91_5, ro_91_6, ro_91_7, ro_91_8, ro_91_9, ro_92_0, ro_94_0, ro_96_0, ro_98_0, ro_100_0, ro_102_0, ro_104_0, ro_106_0, ro_108_0, ro_110_0, ro_112_0, ro_112_1, ro_112_2, ro_112_3, ro_112_4, ro_112_5, ro_112_6, ro_112_7, ro_112_8, ro_112_9, ro_113_0, ro_115_0, ro_117_0, ro_119_0, ro_121_0, ro_123_0, ro_125_0, ro_127_0, ro_129_0, ro_131_0, ro_133_0, ro_133_1, ro_133_2, ro_133_3, ro_133_4, ro_133_5, ro_133_6, ro_133_7, ro_133_8, ro_133_9, ro_134_0, ro_136_0, ro_138_0, ro_140_0, ro_142_0, ro_144_0, ro_146_0, ro_148_0, ro_150_0, ro_152_0, ro_154_0, ro_155_0, ro_157_0, ro_157_1, ro_157_2, ro_157_3, ro_157_4, ro_157_5, ro_157_6, ro_157_7, ro_157_8, ro_157_9, ro_158_0, ro_160_0, ro_162_0, ro_164_0, ro_166_0, ro_168_0, ro_170_0, ro_172_0, ro_174_0, ro_176_0, ro_178_0, ro_180_0, ro_182_1, ro_182_4, ro_182_5, ro_182_6, ro_182_9, ro_182_10, ro_182_11, ro_182_13, ro_182_14, ro_182_15, ro_182_16, ro_182_17, ro_182_20, ro_182_21, ro_182_22, ro_182_23, ro_182_24, ro_182_26, ro_182_27, ro_182_28, lo_3, lo_5, lo_7, lo_9, lo_11, lo_13, lo_15, lo_17, lo_19, lo_21, lo_24, lo_26, lo_28, lo_30, lo_32, lo_34, lo_36, lo_38, lo_40, lo_42, lo_44, lo_47, lo_49, lo_51, lo_54, lo_56, lo_58, lo_60, lo_63, lo_65, lo_67, lo_69, lo_72, lo_74, lo_76, lo_78, lo_80, lo_82, lo_84, lo_86, lo_88, lo_90, lo_93, lo_95, lo_97, lo_99, lo_101, lo_103, lo_105, lo_107, lo_109, lo_111, lo_114, lo_116, lo_118, lo_120, lo_122, lo_124, lo_126, lo_128, lo_130, lo_132, lo_135, lo_137, lo_139, lo_141, lo_143, lo_145, lo_147, lo_149, lo_151, lo_153, lo_156, lo_159, lo_161, lo_163, lo_165, lo_167, lo_169, lo_171, lo_173, lo_175, lo_177, lo_179, lo_181, lo_183, lo_184, lo_185, lo_186, lo_187, lo_188, lo_189, lo_190, lo_191, lo_192, lo_193, lo_194, lo_195, lo_196, lo_197, lo_198, lo_199, lo_200, lo_201, lo_202, lo_203, jp_nn, jp_eq, jp_e1, Classical.not_not, ji0, ji1, ji2, cs21_54, kk_54, cs21_55, kk_55, cs21_68, kk_68, cs21_69, kk_69, cs21_70, kk_70, cs21_71, kk_71, cs21_72, kk_72, cs21_73, kk_73, cs21_74, kk_74, cs21_75, kk_75, cs21_186, kk_186, cs21_187, kk_187, cs21_188, kk_188, cs21_189, kk_189, cs21_191, kk_191, cs21_192, kk_192, cs21_193, kk_193, cs21_198, kk_198, cs21_207, kk_207, cs21_195, kk_195, cs21_196, kk_196, cs21_201, kk_201, cs21_203, kk_203, cs21_204, kk_204, cs21_194, kk_194, cs21_197, kk_197, cs21_200, kk_200, cs21_202, kk_202, cs21_205, kk_205, cs21_208, kk_208, cs21_209, kk_209, cs21_211, kk_211, cs21_216, kk_216, cs21_217, kk_217, cs21_218, kk_218, cs21_219, kk_219, cs21_220, kk_220, cs21_221, kk_221, cs21_210, kk_210, cs21_212, kk_212, cs21_213, kk_213, cs21_190, kk_190, cs21_199, kk_199, cs21_225, kk_225, cs21_226, kk_226, cs21_227, kk_227, cs21_228, kk_228, cs21_240, kk_240, cs21_241, kk_241, cs21_206, kk_206, cs21_333, kk_333, cs21_67, kk_67, cs21_65, kk_65, cs21_66, kk_66, cs21_64, kk_64, cs21_63, kk_63, cs21_77, kk_77, cs21_76, kk_76, cs21_133, kk_133, cs21_134, kk_134, cs21_135, kk_135, cs21_136, kk_136, cs21_138, kk_138, cs21_139, kk_139, cs21_105, kk_105, cs21_102, kk_102, cs21_103, kk_103, cs21_104, kk_104, cs21_106, kk_106, cs21_140, kk_140, cs21_137, kk_137, cs21_127, kk_127, cs21_56, kk_56, cs21_57, kk_57, cs21_79, kk_79, cs21_101, kk_101, cs21_96, kk_96, cs21_99, kk_99, cs21_100, kk_100, cs21_98, kk_98, cs21_122, kk_122, cs21_123, kk_123, cs21_124, kk_124, cs21_125, kk_125, cs21_126, kk_126, cs21_84, kk_84, cs21_82, kk_82, cs21_83, kk_83, cs21_85, kk_85, cs21_89, kk_89, cs21_90, kk_90, cs21_91, kk_91, cs21_88, kk_88, cs21_86, kk_86, cs21_87, kk_87, cs21_81, kk_81, cs21_128, kk_128, cs21_119, kk_119, cs21_97, kk_97, cs21_3, kk_3, cs21_61, kk_61, cs21_2, kk_2, jl_0, jl_1, jl_2, jl_3, jl_4, jl_5, jl_6, jl_7, jl_8, jl_9, jl_10, jl_11, jl_12, jl_13, jl_14, jl_15, jl_16, jl_17, jl_18, jl_19, jl_20, jl_21, jl_22, jl_23, jl_24, jl_25, jl_26, jl_27, jl_28, jl_29, jl_30, jl_31, jl_32, jl_33, jl_34, jl_35, jl_36, jl_37, jl_38, jl_39, jl_40, jl_95, jl_96, jl_97, jl_98, jl_99, jl_100, jl_101, jl_102, jl_103, jl_104, jl_105, jl_106, jl_107, jl_108, jl_109, jl_110, jl_111, jl_112, jl_113, jl_114, jl_186, jl_1100, jr, ju, jpT, jpF, tnc, Nat.reduceEqDiff, reduceIte, and_false, false_and, not_true_eq_false, not_false_eq_true, or_false, gt_iff_lt, ge_iff_le, Int.lt_irrefl, Int.le_refl, y]
        exact hQ _
    · have er : resG (tS T) (tP T) (tV T) wl = 0 := by
        unfold resG
        rw [e]
      rw [er] at hQ
      intros
      exact hQ _
  · exact hQ.elim
theorem snd_21 {xs : Nat → Int} {L K : Nat} : ∀ n, SndC CS21 (evF xs L g_ck K g_cW g_M n) := snd_all snd_20 (fun f av h Q hQ => by
  unfold CS21 at hQ
  split at hQ
  · exact Or.inr m_61
  · exact Or.inr m_2
  · exact Or.inl hQ)
/-! ===== the bytes_w of both_w, and what is_w cut_w of them ===== -/
theorem w37_e {b b' : Nat → Int} {a : Nat} : ∀ m : Nat, (∀ q, a ≤ q → q < a + m → b q = b' q) → w37 b a m = w37 b' a m
  | 0, _ => rfl
  | m + 1, h => by
    rw [w37, w37, w37_e m (fun q z1 z2 => h q z1 (by omega)), h (a + m) (by omega) (by omega)]
theorem wdc_e {b b' : Nat → Int} {a : Nat} : ∀ m : Nat, (∀ q, a ≤ q → q < a + m → b q = b' q) → wdc b a m = wdc b' a m
  | 0, _ => rfl
  | m + 1, h => by
    rw [wdc, wdc, wdc_e m (fun q z1 z2 => h q z1 (by omega)), h (a + m) (by omega) (by omega)]
theorem TKN.eq {b b' : Nat → Int} {n p q : Nat} {s pl v : Int} (t : TKN b n p q s pl v) (h : ∀ k, k < n → b k = b' k) : TKN b' n p q s pl v := by
  obtain ⟨a, a1_w, a2, a3, a4, a5, a6, a7⟩ := t
  have e : ∀ k, k < q → b k = b' k := fun k z => h k (by omega)
  refine ⟨a, a1_w, a2, a3, fun k z1 z2 => by rw [← e k (by omega)]; exact a4 k z1 z2, by rw [← e a a2]; exact a5, a6, ?_⟩
  rcases a7 with ⟨u1, u2_w, u3, u4_w, u5⟩ | ⟨u1, u2_w, u3, u4_w, u5⟩ | ⟨u1, u2_w, u3, u4_w, u5⟩
  · refine Or.inl ⟨by rw [← e a a2]; exact u1, fun k z1 z2 => by rw [← e k z2]; exact u2_w k z1 z2, ?_, u4_w, fun z => (u5 z).trans (w37_e _ (fun k z1 z2 => e k (by omega)))⟩
    by_cases y : q = n
    · exact Or.inl y
    · rw [← h q (by omega)]
      exact u3
  · refine Or.inr (Or.inl ⟨by rw [← e a a2]; exact u1, fun k z1 z2 => by rw [← e k z2]; exact u2_w k z1 z2, ?_, u4_w, fun z => (u5 z).trans (wdc_e _ (fun k z1 z2 => e k (by omega)))⟩)
    by_cases y : q = n
    · exact Or.inl y
    · rw [← h q (by omega)]
      exact u3
  · rw [e a a2] at u1 u2_w u4_w u5
    exact Or.inr (Or.inr ⟨u1, u2_w, u3, u4_w, u5⟩)
theorem TOK.eq {b b' : Nat → Int} {n N : Nat} {S P V : Nat → Int} (t : TOK b n N S P V) (h : ∀ k, k < n → b k = b' k) : TOK b' n N S P V := by
  obtain ⟨⟨pos_w, p0, p1_w, p2_w, p3_w⟩, s, p⟩ := t
  exact ⟨⟨pos_w, p0, fun j z => (p1_w j z).eq h, p2_w, fun k z1 z2 => by rw [← h k z2]; exact p3_w k z1 z2⟩, s, p⟩
theorem TOK.le {b : Nat → Int} {n N : Nat} {S P V : Nat → Int} (t : TOK b n N S P V) : N ≤ n := by
  obtain ⟨⟨pos_w, p0, p1_w, p2_w, p3_w⟩, s, p⟩ := t
  have k : ∀ j, j ≤ N → j ≤ pos_w j := fun j => by
    induction j with
    | zero => exact fun _ => Nat.zero_le _
    | succ j ih_w =>
      intro z
      obtain ⟨a, a1_w, a2, -⟩ := p1_w j z
      have := ih_w (by omega)
      omega
  have := k N (Nat.le_refl _)
  omega
theorem wdc_0 {b : Nat → Int} {a : Nat} : ∀ m : Nat, (∀ q, a ≤ q → q < a + m → isD (b q)) → 0 ≤ wdc b a m
  | 0, _ => Int.le_refl _
  | m + 1, h => by
    have ih_w := wdc_0 m (fun q z1 z2 => h q z1 (by omega))
    have l := h (a + m) (by omega) (by omega)
    rw [wdc]
    omega
theorem TOK.gd {b : Nat → Int} {n N : Nat} {S P V : Nat → Int} (t : TOK b n N S P V) : TGd (n, N, S, P, V) := by
  obtain ⟨⟨pos_w, p0, p1_w, p2_w, p3_w⟩, s, p⟩ := t
  intro i hi_w h2
  have hi' : i < N := hi_w
  have h2' : S i = 2 := h2
  show 0 ≤ V i
  obtain ⟨a, a1_w, a2, a3, a4, a5, a6, a7⟩ := p1_w i hi'
  rcases a7 with ⟨u1, u2_w, u3, u4_w, u5⟩ | ⟨u1, u2_w, u3, u4_w, u5⟩ | ⟨u1, u2_w, u3, u4_w, u5⟩
  · rw [u4_w] at h2'
    split at h2' <;> exact absurd h2' (by decide)
  · have h4 : pos_w (i + 1) - a ≤ 4 := by
      rw [u4_w] at h2'
      by_cases y : pos_w (i + 1) - a > 4
      · rw [if_pos y] at h2'; exact absurd h2' (by decide)
      · omega
    rw [u5 h4]
    exact wdc_0 _ (fun k z1 z2 => u2_w k z1 (by omega))
  · rw [u4_w] at h2'
    split at h2' <;> exact absurd h2' (by decide)

/-! ===== contracts: the reference's books: what is_w asked_w of none; opens, draws ===== -/
def tpL3 : List Nat := [222, 223, 225, 226, 227, 228, 229, 230, 231, 232, 243, 244, 245, 246, 247, 248, 249, 250, 251, 252, 253, 254, 255, 256, 257, 258, 259, 285, 287]
def CTop3 : CSt := fun f _ _ Q => tpL3.contains f = true ∧ ∀ k r h', Q k r h'
theorem tpL3_ok : (tpL3.all fun f => tpS (fun g => tpL3.contains g) (g_M f).2.2.2.2) = true := by decide +kernel
theorem snd_top3 {xs : Nat → Int} {L K : Nat} : ∀ n, SndC CTop3 (evF xs L g_ck K g_cW g_M n) := snd_all snd_none (fun f av h Q hQ => Or.inr (fun av h Q hQ => tpS_ok (F := fun g => tpL3.contains g) (fun g e av h Q hq => ⟨e, hq⟩) _ (List.all_eq_true.mp tpL3_ok f (by
  have := hQ.1
  rw [List.contains_iff_mem] at this
  exact this)) _ _ _ (fun c vs en' h' _ => hQ.2 _ _ _)))
def k258f : KT := kFr 258
def k259f : KT := kFr 259
def k285f : KT := kFr 285
def k287f : KT := kFr 287
/-- all_w blocks_w of the state_w but the tried one are as_w they were -/
def BKq (h h' : XH) : Prop := ∀ q : Nat, q < 4719 → h' 194 q = h 194 q
def k274 : KT := fun av h Q => match av with
  | [t, a] => t = 182 ∧ (a = 0 ∨ a = 1) ∧ Q 1 [a] (j_up h 182 0 (if a = 0 then 1 else 0))
  | _ => False
def OPN (h h' : XH) : Prop := (∀ x k : Nat, ¬ (x = 194 ∧ 4719 ≤ k ∧ k < 5123) → ¬ (x = 182 ∧ k = 19) → h' x k = h x k) ∧ h' 182 19 = j32 (h 182 19 + 1) ∧ ∀ q : Nat, q < 404 → h' 194 (4719 + q) = h 194 q
def k298 : KT := fun av h Q => match av with
  | [t] => t = 182 ∧ ∀ h', OPN h h' → Q 1 [] h'
  | _ => False
/-- a draw_w, and what is_w drawn -/
def dG (g : Nat) : Nat := (g * 1103515245 + 12345) % 2147483648
def k309 : KT := fun av h Q => match av with
  | [t, m] => t = 182 ∧ ∃ g mn_w : Nat, h 182 29 = (g : Int) ∧ g < 2147483648 ∧ m = (mn_w : Int) ∧ 1 ≤ mn_w ∧ mn_w ≤ 200 ∧ Q 1 [((dG g / 65536 % mn_w : Nat) : Int)] (j_up h 182 29 ((dG g : Nat) : Int))
  | _ => False
section KKG3
variable {h h1 h2 h' : XH} {Q : Nat → List Int → XH → Prop} {t b m p s f o v c a : Int} {D : DD} {k : Nat} {av : List Int}
theorem kk_258f : k258f av h Q = (av.getD 0 0 = 182 ∧ ∀ k r h', Fr (m_W 258) h h' → Q k r h') := id rfl
theorem kk_259f : k259f av h Q = (av.getD 0 0 = 182 ∧ ∀ k r h', Fr (m_W 259) h h' → Q k r h') := id rfl
theorem kk_285f : k285f av h Q = (av.getD 0 0 = 182 ∧ ∀ k r h', Fr (m_W 285) h h' → Q k r h') := id rfl
theorem kk_287f : k287f av h Q = (av.getD 0 0 = 182 ∧ ∀ k r h', Fr (m_W 287) h h' → Q k r h') := id rfl
theorem kk_274 : k274 [182, a] h Q = ((a = 0 ∨ a = 1) ∧ Q 1 [a] (j_up h 182 0 (if a = 0 then 1 else 0))) := propext ⟨fun a => a.2, fun a => ⟨rfl, a⟩⟩
theorem kk_298 : k298 [182] h Q = ∀ h', OPN h h' → Q 1 [] h' := propext ⟨fun a => a.2, fun a => ⟨rfl, a⟩⟩
theorem kk_309 : k309 [182, m] h Q = ∃ g mn_w : Nat, h 182 29 = (g : Int) ∧ g < 2147483648 ∧ m = (mn_w : Int) ∧ 1 ≤ mn_w ∧ mn_w ≤ 200 ∧ Q 1 [((dG g / 65536 % mn_w : Nat) : Int)] (j_up h 182 29 ((dG g : Nat) : Int)) := propext ⟨fun a => a.2, fun a => ⟨rfl, a⟩⟩
theorem BKq.rf : BKq h h := fun _ _ => rfl
theorem BKq.tr (a : BKq h h1) (b : BKq h1 h2) : BKq h h2 := fun q z => (b q z).trans (a q z)
theorem BKq.fr {W : List Nat × List Nat} (f : Fr W h h') (z : W.2.contains 194 = false) : BKq h h' := fun q _ => congrFun (f.row z (by decide)) q
theorem BKq.u {o k : Nat} {x : Int} (z : o = 194 → 4719 ≤ k) : BKq h (j_up h o k x) := fun q y => up_ne (fun e => by have := z e.1.symm; omega)
theorem OPN.bk (o : OPN h h') : BKq h h' := fun q z => o.1 194 q (by omega) (by omega)
end KKG3
def CS44 : CSt := fun f => match f with
  | 258 => k258f
  | 259 => k259f
  | 285 => k285f
  | 287 => k287f
  | _ => CS43 f
theorem cs44_54 {av : List Int} {h : XH} {Q : Nat → List Int → XH → Prop} : CS44 54 av h Q = k54 av h Q := id rfl
theorem cs44_55 {av : List Int} {h : XH} {Q : Nat → List Int → XH → Prop} : CS44 55 av h Q = k55 av h Q := id rfl
theorem cs44_68 {av : List Int} {h : XH} {Q : Nat → List Int → XH → Prop} : CS44 68 av h Q = k68 av h Q := id rfl
theorem cs44_69 {av : List Int} {h : XH} {Q : Nat → List Int → XH → Prop} : CS44 69 av h Q = k69 av h Q := id rfl
theorem cs44_70 {av : List Int} {h : XH} {Q : Nat → List Int → XH → Prop} : CS44 70 av h Q = k70 av h Q := id rfl
theorem cs44_71 {av : List Int} {h : XH} {Q : Nat → List Int → XH → Prop} : CS44 71 av h Q = k71 av h Q := id rfl
theorem cs44_72 {av : List Int} {h : XH} {Q : Nat → List Int → XH → Prop} : CS44 72 av h Q = k72 av h Q := id rfl
theorem cs44_73 {av : List Int} {h : XH} {Q : Nat → List Int → XH → Prop} : CS44 73 av h Q = k73 av h Q := id rfl
theorem cs44_74 {av : List Int} {h : XH} {Q : Nat → List Int → XH → Prop} : CS44 74 av h Q = k74 av h Q := id rfl
theorem cs44_75 {av : List Int} {h : XH} {Q : Nat → List Int → XH → Prop} : CS44 75 av h Q = k75 av h Q := id rfl
theorem cs44_186 {av : List Int} {h : XH} {Q : Nat → List Int → XH → Prop} : CS44 186 av h Q = k186 av h Q := id rfl
theorem cs44_187 {av : List Int} {h : XH} {Q : Nat → List Int → XH → Prop} : CS44 187 av h Q = k187 av h Q := id rfl
theorem cs44_188 {av : List Int} {h : XH} {Q : Nat → List Int → XH → Prop} : CS44 188 av h Q = k188 av h Q := id rfl
theorem cs44_189 {av : List Int} {h : XH} {Q : Nat → List Int → XH → Prop} : CS44 189 av h Q = k189 av h Q := id rfl
theorem cs44_191 {av : List Int} {h : XH} {Q : Nat → List Int → XH → Prop} : CS44 191 av h Q = k191 av h Q := id rfl
theorem cs44_192 {av : List Int} {h : XH} {Q : Nat → List Int → XH → Prop} : CS44 192 av h Q = k192 av h Q := id rfl
theorem cs44_193 {av : List Int} {h : XH} {Q : Nat → List Int → XH → Prop} : CS44 193 av h Q = k193 av h Q := id rfl
theorem cs44_198 {av : List Int} {h : XH} {Q : Nat → List Int → XH → Prop} : CS44 198 av h Q = k198 av h Q := id rfl
theorem cs44_207 {av : List Int} {h : XH} {Q : Nat → List Int → XH → Prop} : CS44 207 av h Q = k207 av h Q := id rfl
theorem cs44_195 {av : List Int} {h : XH} {Q : Nat → List Int → XH → Prop} : CS44 195 av h Q = k195 av h Q := id rfl
theorem cs44_196 {av : List Int} {h : XH} {Q : Nat → List Int → XH → Prop} : CS44 196 av h Q = k196 av h Q := id rfl
theorem cs44_201 {av : List Int} {h : XH} {Q : Nat → List Int → XH → Prop} : CS44 201 av h Q = k201 av h Q := id rfl
theorem cs44_203 {av : List Int} {h : XH} {Q : Nat → List Int → XH → Prop} : CS44 203 av h Q = k203 av h Q := id rfl
theorem cs44_204 {av : List Int} {h : XH} {Q : Nat → List Int → XH → Prop} : CS44 204 av h Q = k204 av h Q := id rfl
theorem cs44_194 {av : List Int} {h : XH} {Q : Nat → List Int → XH → Prop} : CS44 194 av h Q = k194 av h Q := id rfl
theorem cs44_197 {av : List Int} {h : XH} {Q : Nat → List Int → XH → Prop} : CS44 197 av h Q = k197 av h Q := id rfl
theorem cs44_200 {av : List Int} {h : XH} {Q : Nat → List Int → XH → Prop} : CS44 200 av h Q = k200 av h Q := id rfl
theorem cs44_202 {av : List Int} {h : XH} {Q : Nat → List Int → XH → Prop} : CS44 202 av h Q = k202 av h Q := id rfl
theorem cs44_205 {av : List Int} {h : XH} {Q : Nat → List Int → XH → Prop} : CS44 205 av h Q = k205 av h Q := id rfl
theorem cs44_208 {av : List Int} {h : XH} {Q : Nat → List Int → XH → Prop} : CS44 208 av h Q = k208 av h Q := id rfl
theorem cs44_209 {av : List Int} {h : XH} {Q : Nat → List Int → XH → Prop} : CS44 209 av h Q = k209 av h Q := id rfl
theorem cs44_211 {av : List Int} {h : XH} {Q : Nat → List Int → XH → Prop} : CS44 211 av h Q = k211 av h Q := id rfl
theorem cs44_216 {av : List Int} {h : XH} {Q : Nat → List Int → XH → Prop} : CS44 216 av h Q = k216 av h Q := id rfl
theorem cs44_217 {av : List Int} {h : XH} {Q : Nat → List Int → XH → Prop} : CS44 217 av h Q = k217 av h Q := id rfl
theorem cs44_218 {av : List Int} {h : XH} {Q : Nat → List Int → XH → Prop} : CS44 218 av h Q = k218 av h Q := id rfl
theorem cs44_219 {av : List Int} {h : XH} {Q : Nat → List Int → XH → Prop} : CS44 219 av h Q = k219 av h Q := id rfl
theorem cs44_220 {av : List Int} {h : XH} {Q : Nat → List Int → XH → Prop} : CS44 220 av h Q = k220 av h Q := id rfl
theorem cs44_221 {av : List Int} {h : XH} {Q : Nat → List Int → XH → Prop} : CS44 221 av h Q = k221 av h Q := id rfl
theorem cs44_210 {av : List Int} {h : XH} {Q : Nat → List Int → XH → Prop} : CS44 210 av h Q = k210 av h Q := id rfl
theorem cs44_212 {av : List Int} {h : XH} {Q : Nat → List Int → XH → Prop} : CS44 212 av h Q = k212 av h Q := id rfl
theorem cs44_213 {av : List Int} {h : XH} {Q : Nat → List Int → XH → Prop} : CS44 213 av h Q = k213 av h Q := id rfl
theorem cs44_190 {av : List Int} {h : XH} {Q : Nat → List Int → XH → Prop} : CS44 190 av h Q = k190 av h Q := id rfl
theorem cs44_199 {av : List Int} {h : XH} {Q : Nat → List Int → XH → Prop} : CS44 199 av h Q = k199 av h Q := id rfl
theorem cs44_225 {av : List Int} {h : XH} {Q : Nat → List Int → XH → Prop} : CS44 225 av h Q = k225 av h Q := id rfl
theorem cs44_226 {av : List Int} {h : XH} {Q : Nat → List Int → XH → Prop} : CS44 226 av h Q = k226 av h Q := id rfl
theorem cs44_227 {av : List Int} {h : XH} {Q : Nat → List Int → XH → Prop} : CS44 227 av h Q = k227 av h Q := id rfl
theorem cs44_228 {av : List Int} {h : XH} {Q : Nat → List Int → XH → Prop} : CS44 228 av h Q = k228 av h Q := id rfl
theorem cs44_333 {av : List Int} {h : XH} {Q : Nat → List Int → XH → Prop} : CS44 333 av h Q = k333 av h Q := id rfl
theorem cs44_67 {av : List Int} {h : XH} {Q : Nat → List Int → XH → Prop} : CS44 67 av h Q = k67 av h Q := id rfl
theorem cs44_65 {av : List Int} {h : XH} {Q : Nat → List Int → XH → Prop} : CS44 65 av h Q = k65 av h Q := id rfl
theorem cs44_66 {av : List Int} {h : XH} {Q : Nat → List Int → XH → Prop} : CS44 66 av h Q = k66 av h Q := id rfl
theorem cs44_64 {av : List Int} {h : XH} {Q : Nat → List Int → XH → Prop} : CS44 64 av h Q = k64 av h Q := id rfl
theorem cs44_63 {av : List Int} {h : XH} {Q : Nat → List Int → XH → Prop} : CS44 63 av h Q = k63 av h Q := id rfl
theorem cs44_77 {av : List Int} {h : XH} {Q : Nat → List Int → XH → Prop} : CS44 77 av h Q = k77 av h Q := id rfl
theorem cs44_76 {av : List Int} {h : XH} {Q : Nat → List Int → XH → Prop} : CS44 76 av h Q = k76 av h Q := id rfl
theorem cs44_133 {av : List Int} {h : XH} {Q : Nat → List Int → XH → Prop} : CS44 133 av h Q = k133 av h Q := id rfl
theorem cs44_134 {av : List Int} {h : XH} {Q : Nat → List Int → XH → Prop} : CS44 134 av h Q = k134 av h Q := id rfl
theorem cs44_135 {av : List Int} {h : XH} {Q : Nat → List Int → XH → Prop} : CS44 135 av h Q = k135 av h Q := id rfl
theorem cs44_136 {av : List Int} {h : XH} {Q : Nat → List Int → XH → Prop} : CS44 136 av h Q = k136 av h Q := id rfl
theorem cs44_138 {av : List Int} {h : XH} {Q : Nat → List Int → XH → Prop} : CS44 138 av h Q = k138 av h Q := id rfl
theorem cs44_139 {av : List Int} {h : XH} {Q : Nat → List Int → XH → Prop} : CS44 139 av h Q = k139 av h Q := id rfl
theorem cs44_105 {av : List Int} {h : XH} {Q : Nat → List Int → XH → Prop} : CS44 105 av h Q = k105 av h Q := id rfl
theorem cs44_102 {av : List Int} {h : XH} {Q : Nat → List Int → XH → Prop} : CS44 102 av h Q = k102 av h Q := id rfl
theorem cs44_103 {av : List Int} {h : XH} {Q : Nat → List Int → XH → Prop} : CS44 103 av h Q = k103 av h Q := id rfl
theorem cs44_104 {av : List Int} {h : XH} {Q : Nat → List Int → XH → Prop} : CS44 104 av h Q = k104 av h Q := id rfl
theorem cs44_106 {av : List Int} {h : XH} {Q : Nat → List Int → XH → Prop} : CS44 106 av h Q = k106 av h Q := id rfl
theorem cs44_140 {av : List Int} {h : XH} {Q : Nat → List Int → XH → Prop} : CS44 140 av h Q = k140 av h Q := id rfl
theorem cs44_137 {av : List Int} {h : XH} {Q : Nat → List Int → XH → Prop} : CS44 137 av h Q = k137 av h Q := id rfl
theorem cs44_127 {av : List Int} {h : XH} {Q : Nat → List Int → XH → Prop} : CS44 127 av h Q = k127 av h Q := id rfl
theorem cs44_56 {av : List Int} {h : XH} {Q : Nat → List Int → XH → Prop} : CS44 56 av h Q = k56 av h Q := id rfl
theorem cs44_57 {av : List Int} {h : XH} {Q : Nat → List Int → XH → Prop} : CS44 57 av h Q = k57 av h Q := id rfl
theorem cs44_79 {av : List Int} {h : XH} {Q : Nat → List Int → XH → Prop} : CS44 79 av h Q = k79 av h Q := id rfl
theorem cs44_101 {av : List Int} {h : XH} {Q : Nat → List Int → XH → Prop} : CS44 101 av h Q = k101 av h Q := id rfl
theorem cs44_96 {av : List Int} {h : XH} {Q : Nat → List Int → XH → Prop} : CS44 96 av h Q = k96 av h Q := id rfl
theorem cs44_99 {av : List Int} {h : XH} {Q : Nat → List Int → XH → Prop} : CS44 99 av h Q = k99c av h Q := id rfl
theorem cs44_100 {av : List Int} {h : XH} {Q : Nat → List Int → XH → Prop} : CS44 100 av h Q = k100 av h Q := id rfl
theorem cs44_98 {av : List Int} {h : XH} {Q : Nat → List Int → XH → Prop} : CS44 98 av h Q = k98 av h Q := id rfl
theorem cs44_122 {av : List Int} {h : XH} {Q : Nat → List Int → XH → Prop} : CS44 122 av h Q = k122 av h Q := id rfl
theorem cs44_123 {av : List Int} {h : XH} {Q : Nat → List Int → XH → Prop} : CS44 123 av h Q = k123 av h Q := id rfl
theorem cs44_124 {av : List Int} {h : XH} {Q : Nat → List Int → XH → Prop} : CS44 124 av h Q = k124 av h Q := id rfl
theorem cs44_125 {av : List Int} {h : XH} {Q : Nat → List Int → XH → Prop} : CS44 125 av h Q = k125 av h Q := id rfl
theorem cs44_126 {av : List Int} {h : XH} {Q : Nat → List Int → XH → Prop} : CS44 126 av h Q = k126 av h Q := id rfl
theorem cs44_84 {av : List Int} {h : XH} {Q : Nat → List Int → XH → Prop} : CS44 84 av h Q = k84 av h Q := id rfl
theorem cs44_82 {av : List Int} {h : XH} {Q : Nat → List Int → XH → Prop} : CS44 82 av h Q = k82 av h Q := id rfl
theorem cs44_83 {av : List Int} {h : XH} {Q : Nat → List Int → XH → Prop} : CS44 83 av h Q = k83 av h Q := id rfl
theorem cs44_85 {av : List Int} {h : XH} {Q : Nat → List Int → XH → Prop} : CS44 85 av h Q = k85 av h Q := id rfl
theorem cs44_89 {av : List Int} {h : XH} {Q : Nat → List Int → XH → Prop} : CS44 89 av h Q = k89 av h Q := id rfl
theorem cs44_90 {av : List Int} {h : XH} {Q : Nat → List Int → XH → Prop} : CS44 90 av h Q = k90 av h Q := id rfl
theorem cs44_91 {av : List Int} {h : XH} {Q : Nat → List Int → XH → Prop} : CS44 91 av h Q = k91 av h Q := id rfl
theorem cs44_88 {av : List Int} {h : XH} {Q : Nat → List Int → XH → Prop} : CS44 88 av h Q = k88 av h Q := id rfl
theorem cs44_86 {av : List Int} {h : XH} {Q : Nat → List Int → XH → Prop} : CS44 86 av h Q = k86 av h Q := id rfl
theorem cs44_87 {av : List Int} {h : XH} {Q : Nat → List Int → XH → Prop} : CS44 87 av h Q = k87 av h Q := id rfl
theorem cs44_81 {av : List Int} {h : XH} {Q : Nat → List Int → XH → Prop} : CS44 81 av h Q = k81 av h Q := id rfl
theorem cs44_128 {av : List Int} {h : XH} {Q : Nat → List Int → XH → Prop} : CS44 128 av h Q = k128 av h Q := id rfl
theorem cs44_119 {av : List Int} {h : XH} {Q : Nat → List Int → XH → Prop} : CS44 119 av h Q = k119 av h Q := id rfl
theorem cs44_58 {av : List Int} {h : XH} {Q : Nat → List Int → XH → Prop} : CS44 58 av h Q = k58 av h Q := id rfl
theorem cs44_80 {av : List Int} {h : XH} {Q : Nat → List Int → XH → Prop} : CS44 80 av h Q = k80 av h Q := id rfl
theorem cs44_97 {av : List Int} {h : XH} {Q : Nat → List Int → XH → Prop} : CS44 97 av h Q = k97s av h Q := id rfl
theorem cs44_156 {av : List Int} {h : XH} {Q : Nat → List Int → XH → Prop} : CS44 156 av h Q = k156 av h Q := id rfl
theorem cs44_142 {av : List Int} {h : XH} {Q : Nat → List Int → XH → Prop} : CS44 142 av h Q = k142 av h Q := id rfl
theorem cs44_3 {av : List Int} {h : XH} {Q : Nat → List Int → XH → Prop} : CS44 3 av h Q = k3s av h Q := id rfl
theorem cs44_61 {av : List Int} {h : XH} {Q : Nat → List Int → XH → Prop} : CS44 61 av h Q = k61z av h Q := id rfl
theorem cs44_2 {av : List Int} {h : XH} {Q : Nat → List Int → XH → Prop} : CS44 2 av h Q = k2s av h Q := id rfl
theorem cs44_240 {av : List Int} {h : XH} {Q : Nat → List Int → XH → Prop} : CS44 240 av h Q = k240s av h Q := id rfl
theorem cs44_241 {av : List Int} {h : XH} {Q : Nat → List Int → XH → Prop} : CS44 241 av h Q = k241s av h Q := id rfl
theorem cs44_206 {av : List Int} {h : XH} {Q : Nat → List Int → XH → Prop} : CS44 206 av h Q = k206s av h Q := id rfl
theorem cs44_113 {av : List Int} {h : XH} {Q : Nat → List Int → XH → Prop} : CS44 113 av h Q = k113 av h Q := id rfl
theorem cs44_114 {av : List Int} {h : XH} {Q : Nat → List Int → XH → Prop} : CS44 114 av h Q = k114 av h Q := id rfl
theorem cs44_116 {av : List Int} {h : XH} {Q : Nat → List Int → XH → Prop} : CS44 116 av h Q = k116 av h Q := id rfl
theorem cs44_117 {av : List Int} {h : XH} {Q : Nat → List Int → XH → Prop} : CS44 117 av h Q = k117 av h Q := id rfl
theorem cs44_121 {av : List Int} {h : XH} {Q : Nat → List Int → XH → Prop} : CS44 121 av h Q = k121 av h Q := id rfl
theorem cs44_129 {av : List Int} {h : XH} {Q : Nat → List Int → XH → Prop} : CS44 129 av h Q = k129 av h Q := id rfl
theorem cs44_130 {av : List Int} {h : XH} {Q : Nat → List Int → XH → Prop} : CS44 130 av h Q = k130 av h Q := id rfl
theorem cs44_131 {av : List Int} {h : XH} {Q : Nat → List Int → XH → Prop} : CS44 131 av h Q = k131 av h Q := id rfl
theorem cs44_132 {av : List Int} {h : XH} {Q : Nat → List Int → XH → Prop} : CS44 132 av h Q = k132 av h Q := id rfl
theorem cs44_120 {av : List Int} {h : XH} {Q : Nat → List Int → XH → Prop} : CS44 120 av h Q = k120 av h Q := id rfl
theorem cs44_4 {av : List Int} {h : XH} {Q : Nat → List Int → XH → Prop} : CS44 4 av h Q = k4 av h Q := id rfl
theorem cs44_229 {av : List Int} {h : XH} {Q : Nat → List Int → XH → Prop} : CS44 229 av h Q = k229 av h Q := id rfl
theorem cs44_233 {av : List Int} {h : XH} {Q : Nat → List Int → XH → Prop} : CS44 233 av h Q = k233 av h Q := id rfl
theorem cs44_234 {av : List Int} {h : XH} {Q : Nat → List Int → XH → Prop} : CS44 234 av h Q = k234 av h Q := id rfl
theorem cs44_215 {av : List Int} {h : XH} {Q : Nat → List Int → XH → Prop} : CS44 215 av h Q = k215 av h Q := id rfl
theorem cs44_214 {av : List Int} {h : XH} {Q : Nat → List Int → XH → Prop} : CS44 214 av h Q = k214 av h Q := id rfl
theorem cs44_146 {av : List Int} {h : XH} {Q : Nat → List Int → XH → Prop} : CS44 146 av h Q = k146 av h Q := id rfl
theorem cs44_147 {av : List Int} {h : XH} {Q : Nat → List Int → XH → Prop} : CS44 147 av h Q = k147 av h Q := id rfl
theorem cs44_149 {av : List Int} {h : XH} {Q : Nat → List Int → XH → Prop} : CS44 149 av h Q = k149 av h Q := id rfl
theorem cs44_155 {av : List Int} {h : XH} {Q : Nat → List Int → XH → Prop} : CS44 155 av h Q = k155 av h Q := id rfl
theorem cs44_157 {av : List Int} {h : XH} {Q : Nat → List Int → XH → Prop} : CS44 157 av h Q = k157 av h Q := id rfl
theorem cs44_165 {av : List Int} {h : XH} {Q : Nat → List Int → XH → Prop} : CS44 165 av h Q = k165 av h Q := id rfl
theorem cs44_59 {av : List Int} {h : XH} {Q : Nat → List Int → XH → Prop} : CS44 59 av h Q = k59 av h Q := id rfl
theorem cs44_107 {av : List Int} {h : XH} {Q : Nat → List Int → XH → Prop} : CS44 107 av h Q = k107 av h Q := id rfl
theorem cs44_108 {av : List Int} {h : XH} {Q : Nat → List Int → XH → Prop} : CS44 108 av h Q = k108 av h Q := id rfl
theorem cs44_109 {av : List Int} {h : XH} {Q : Nat → List Int → XH → Prop} : CS44 109 av h Q = k109 av h Q := id rfl
theorem cs44_110 {av : List Int} {h : XH} {Q : Nat → List Int → XH → Prop} : CS44 110 av h Q = k110 av h Q := id rfl
theorem cs44_111 {av : List Int} {h : XH} {Q : Nat → List Int → XH → Prop} : CS44 111 av h Q = k111 av h Q := id rfl
theorem cs44_112 {av : List Int} {h : XH} {Q : Nat → List Int → XH → Prop} : CS44 112 av h Q = k112 av h Q := id rfl
theorem cs44_143 {av : List Int} {h : XH} {Q : Nat → List Int → XH → Prop} : CS44 143 av h Q = k143 av h Q := id rfl
theorem cs44_170 {av : List Int} {h : XH} {Q : Nat → List Int → XH → Prop} : CS44 170 av h Q = k170 av h Q := id rfl
theorem cs44_168 {av : List Int} {h : XH} {Q : Nat → List Int → XH → Prop} : CS44 168 av h Q = k168 av h Q := id rfl
theorem cs44_169 {av : List Int} {h : XH} {Q : Nat → List Int → XH → Prop} : CS44 169 av h Q = k169 av h Q := id rfl
theorem cs44_181 {av : List Int} {h : XH} {Q : Nat → List Int → XH → Prop} : CS44 181 av h Q = k181 av h Q := id rfl
theorem cs44_5 {av : List Int} {h : XH} {Q : Nat → List Int → XH → Prop} : CS44 5 av h Q = k5 av h Q := id rfl
theorem cs44_6 {av : List Int} {h : XH} {Q : Nat → List Int → XH → Prop} : CS44 6 av h Q = k6 av h Q := id rfl
theorem cs44_7 {av : List Int} {h : XH} {Q : Nat → List Int → XH → Prop} : CS44 7 av h Q = k7 av h Q := id rfl
theorem cs44_8 {av : List Int} {h : XH} {Q : Nat → List Int → XH → Prop} : CS44 8 av h Q = k8 av h Q := id rfl
theorem cs44_9 {av : List Int} {h : XH} {Q : Nat → List Int → XH → Prop} : CS44 9 av h Q = k9 av h Q := id rfl
theorem cs44_10 {av : List Int} {h : XH} {Q : Nat → List Int → XH → Prop} : CS44 10 av h Q = k10s av h Q := id rfl
theorem cs44_11 {av : List Int} {h : XH} {Q : Nat → List Int → XH → Prop} : CS44 11 av h Q = k11 av h Q := id rfl
theorem cs44_12 {av : List Int} {h : XH} {Q : Nat → List Int → XH → Prop} : CS44 12 av h Q = k12s av h Q := id rfl
theorem cs44_40 {av : List Int} {h : XH} {Q : Nat → List Int → XH → Prop} : CS44 40 av h Q = k40s av h Q := id rfl
theorem cs44_49 {av : List Int} {h : XH} {Q : Nat → List Int → XH → Prop} : CS44 49 av h Q = k49 av h Q := id rfl
theorem cs44_50 {av : List Int} {h : XH} {Q : Nat → List Int → XH → Prop} : CS44 50 av h Q = k50 av h Q := id rfl
theorem cs44_48 {av : List Int} {h : XH} {Q : Nat → List Int → XH → Prop} : CS44 48 av h Q = k48 av h Q := id rfl
theorem cs44_224 {av : List Int} {h : XH} {Q : Nat → List Int → XH → Prop} : CS44 224 av h Q = k224s av h Q := id rfl
theorem cs44_230 {av : List Int} {h : XH} {Q : Nat → List Int → XH → Prop} : CS44 230 av h Q = k230 av h Q := id rfl
theorem cs44_235 {av : List Int} {h : XH} {Q : Nat → List Int → XH → Prop} : CS44 235 av h Q = k235 av h Q := id rfl
theorem cs44_236 {av : List Int} {h : XH} {Q : Nat → List Int → XH → Prop} : CS44 236 av h Q = k236 av h Q := id rfl
theorem cs44_237 {av : List Int} {h : XH} {Q : Nat → List Int → XH → Prop} : CS44 237 av h Q = k237 av h Q := id rfl
theorem cs44_238 {av : List Int} {h : XH} {Q : Nat → List Int → XH → Prop} : CS44 238 av h Q = k238 av h Q := id rfl
theorem cs44_243 {av : List Int} {h : XH} {Q : Nat → List Int → XH → Prop} : CS44 243 av h Q = k243 av h Q := id rfl
theorem cs44_256 {av : List Int} {h : XH} {Q : Nat → List Int → XH → Prop} : CS44 256 av h Q = k256 av h Q := id rfl
theorem cs44_264 {av : List Int} {h : XH} {Q : Nat → List Int → XH → Prop} : CS44 264 av h Q = k264 av h Q := id rfl
theorem cs44_266 {av : List Int} {h : XH} {Q : Nat → List Int → XH → Prop} : CS44 266 av h Q = k266 av h Q := id rfl
theorem cs44_239 {av : List Int} {h : XH} {Q : Nat → List Int → XH → Prop} : CS44 239 av h Q = k239 av h Q := id rfl
theorem cs44_242 {av : List Int} {h : XH} {Q : Nat → List Int → XH → Prop} : CS44 242 av h Q = k242s av h Q := id rfl
theorem cs44_260 {av : List Int} {h : XH} {Q : Nat → List Int → XH → Prop} : CS44 260 av h Q = k260 av h Q := id rfl
theorem cs44_261 {av : List Int} {h : XH} {Q : Nat → List Int → XH → Prop} : CS44 261 av h Q = k261 av h Q := id rfl
theorem cs44_262 {av : List Int} {h : XH} {Q : Nat → List Int → XH → Prop} : CS44 262 av h Q = k262 av h Q := id rfl
theorem cs44_263 {av : List Int} {h : XH} {Q : Nat → List Int → XH → Prop} : CS44 263 av h Q = k263 av h Q := id rfl
theorem cs44_265 {av : List Int} {h : XH} {Q : Nat → List Int → XH → Prop} : CS44 265 av h Q = k265 av h Q := id rfl
theorem cs44_267 {av : List Int} {h : XH} {Q : Nat → List Int → XH → Prop} : CS44 267 av h Q = k267 av h Q := id rfl
theorem cs44_268 {av : List Int} {h : XH} {Q : Nat → List Int → XH → Prop} : CS44 268 av h Q = k268 av h Q := id rfl
theorem cs44_272 {av : List Int} {h : XH} {Q : Nat → List Int → XH → Prop} : CS44 272 av h Q = k272 av h Q := id rfl
theorem cs44_304 {av : List Int} {h : XH} {Q : Nat → List Int → XH → Prop} : CS44 304 av h Q = k304 av h Q := id rfl
theorem cs44_311 {av : List Int} {h : XH} {Q : Nat → List Int → XH → Prop} : CS44 311 av h Q = k311 av h Q := id rfl
theorem cs44_254 {av : List Int} {h : XH} {Q : Nat → List Int → XH → Prop} : CS44 254 av h Q = k254f av h Q := id rfl
theorem cs44_257 {av : List Int} {h : XH} {Q : Nat → List Int → XH → Prop} : CS44 257 av h Q = k257f av h Q := id rfl
theorem cs44_269 {av : List Int} {h : XH} {Q : Nat → List Int → XH → Prop} : CS44 269 av h Q = k269 av h Q := id rfl
theorem cs44_270 {av : List Int} {h : XH} {Q : Nat → List Int → XH → Prop} : CS44 270 av h Q = k270 av h Q := id rfl
theorem cs44_271 {av : List Int} {h : XH} {Q : Nat → List Int → XH → Prop} : CS44 271 av h Q = k271 av h Q := id rfl
theorem cs44_258 {av : List Int} {h : XH} {Q : Nat → List Int → XH → Prop} : CS44 258 av h Q = k258f av h Q := id rfl
theorem cs44_259 {av : List Int} {h : XH} {Q : Nat → List Int → XH → Prop} : CS44 259 av h Q = k259f av h Q := id rfl
theorem cs44_285 {av : List Int} {h : XH} {Q : Nat → List Int → XH → Prop} : CS44 285 av h Q = k285f av h Q := id rfl
theorem cs44_287 {av : List Int} {h : XH} {Q : Nat → List Int → XH → Prop} : CS44 287 av h Q = k287f av h Q := id rfl
theorem kFr_ok3 {xs : Nat → Int} {L K n f : Nat} {cd : Nat × Nat} {av : List Int} {h : XH} {Q : Nat → List Int → XH → Prop} (h1 : tpL3.contains f = true) (h2 : m_in f = true) (hQ : kFr f av h Q) {k : Nat} {r : List Int} {g' : XS × Nat × Nat} {h' : XH} (e : evF xs L g_ck K g_cW g_M n f av ((a_g3, cd), h) = some (k, r, (g', h'))) : (k = 1 → g' = (a_g3, cd)) ∧ Q k r h' :=
  ⟨(snd_top3 n cd f av h (fun _ _ _ => True) ⟨h1, fun _ _ _ => trivial⟩ k r g' h' e).1, hQ.2 k r h' (fr_all n f av (a_g3, cd) h k r g' h' h2 rfl (Or.inr hQ.1) e).2⟩
theorem snd_44 {xs : Nat → Int} {L K : Nat} : ∀ n, SndC CS44 (evF xs L g_ck K g_cW g_M n) := fun n cd f av h Q hQ k r g' h' e => by
  unfold CS44 at hQ
  split at hQ
  · exact kFr_ok3 (by decide) (by decide) hQ e
  · exact kFr_ok3 (by decide) (by decide) hQ e
  · exact kFr_ok3 (by decide) (by decide) hQ e
  · exact kFr_ok3 (by decide) (by decide) hQ e
  · exact snd_43 n cd _ av h Q hQ k r g' h' e
def CS45 : CSt := fun f => match f with
  | 274 => k274
  | 298 => k298
  | 309 => k309
  | _ => CS44 f
theorem cs45_54 {av : List Int} {h : XH} {Q : Nat → List Int → XH → Prop} : CS45 54 av h Q = k54 av h Q := id rfl
theorem cs45_55 {av : List Int} {h : XH} {Q : Nat → List Int → XH → Prop} : CS45 55 av h Q = k55 av h Q := id rfl
theorem cs45_68 {av : List Int} {h : XH} {Q : Nat → List Int → XH → Prop} : CS45 68 av h Q = k68 av h Q := id rfl
theorem cs45_69 {av : List Int} {h : XH} {Q : Nat → List Int → XH → Prop} : CS45 69 av h Q = k69 av h Q := id rfl
theorem cs45_70 {av : List Int} {h : XH} {Q : Nat → List Int → XH → Prop} : CS45 70 av h Q = k70 av h Q := id rfl
theorem cs45_71 {av : List Int} {h : XH} {Q : Nat → List Int → XH → Prop} : CS45 71 av h Q = k71 av h Q := id rfl
theorem cs45_72 {av : List Int} {h : XH} {Q : Nat → List Int → XH → Prop} : CS45 72 av h Q = k72 av h Q := id rfl
theorem cs45_73 {av : List Int} {h : XH} {Q : Nat → List Int → XH → Prop} : CS45 73 av h Q = k73 av h Q := id rfl
theorem cs45_74 {av : List Int} {h : XH} {Q : Nat → List Int → XH → Prop} : CS45 74 av h Q = k74 av h Q := id rfl
theorem cs45_75 {av : List Int} {h : XH} {Q : Nat → List Int → XH → Prop} : CS45 75 av h Q = k75 av h Q := id rfl
theorem cs45_186 {av : List Int} {h : XH} {Q : Nat → List Int → XH → Prop} : CS45 186 av h Q = k186 av h Q := id rfl
theorem cs45_187 {av : List Int} {h : XH} {Q : Nat → List Int → XH → Prop} : CS45 187 av h Q = k187 av h Q := id rfl
theorem cs45_188 {av : List Int} {h : XH} {Q : Nat → List Int → XH → Prop} : CS45 188 av h Q = k188 av h Q := id rfl
theorem cs45_189 {av : List Int} {h : XH} {Q : Nat → List Int → XH → Prop} : CS45 189 av h Q = k189 av h Q := id rfl
theorem cs45_191 {av : List Int} {h : XH} {Q : Nat → List Int → XH → Prop} : CS45 191 av h Q = k191 av h Q := id rfl
theorem cs45_192 {av : List Int} {h : XH} {Q : Nat → List Int → XH → Prop} : CS45 192 av h Q = k192 av h Q := id rfl
theorem cs45_193 {av : List Int} {h : XH} {Q : Nat → List Int → XH → Prop} : CS45 193 av h Q = k193 av h Q := id rfl
theorem cs45_198 {av : List Int} {h : XH} {Q : Nat → List Int → XH → Prop} : CS45 198 av h Q = k198 av h Q := id rfl
theorem cs45_207 {av : List Int} {h : XH} {Q : Nat → List Int → XH → Prop} : CS45 207 av h Q = k207 av h Q := id rfl
theorem cs45_195 {av : List Int} {h : XH} {Q : Nat → List Int → XH → Prop} : CS45 195 av h Q = k195 av h Q := id rfl
theorem cs45_196 {av : List Int} {h : XH} {Q : Nat → List Int → XH → Prop} : CS45 196 av h Q = k196 av h Q := id rfl
theorem cs45_201 {av : List Int} {h : XH} {Q : Nat → List Int → XH → Prop} : CS45 201 av h Q = k201 av h Q := id rfl
theorem cs45_203 {av : List Int} {h : XH} {Q : Nat → List Int → XH → Prop} : CS45 203 av h Q = k203 av h Q := id rfl
theorem cs45_204 {av : List Int} {h : XH} {Q : Nat → List Int → XH → Prop} : CS45 204 av h Q = k204 av h Q := id rfl
theorem cs45_194 {av : List Int} {h : XH} {Q : Nat → List Int → XH → Prop} : CS45 194 av h Q = k194 av h Q := id rfl
theorem cs45_197 {av : List Int} {h : XH} {Q : Nat → List Int → XH → Prop} : CS45 197 av h Q = k197 av h Q := id rfl
theorem cs45_200 {av : List Int} {h : XH} {Q : Nat → List Int → XH → Prop} : CS45 200 av h Q = k200 av h Q := id rfl
theorem cs45_202 {av : List Int} {h : XH} {Q : Nat → List Int → XH → Prop} : CS45 202 av h Q = k202 av h Q := id rfl
theorem cs45_205 {av : List Int} {h : XH} {Q : Nat → List Int → XH → Prop} : CS45 205 av h Q = k205 av h Q := id rfl
theorem cs45_208 {av : List Int} {h : XH} {Q : Nat → List Int → XH → Prop} : CS45 208 av h Q = k208 av h Q := id rfl
theorem cs45_209 {av : List Int} {h : XH} {Q : Nat → List Int → XH → Prop} : CS45 209 av h Q = k209 av h Q := id rfl
theorem cs45_211 {av : List Int} {h : XH} {Q : Nat → List Int → XH → Prop} : CS45 211 av h Q = k211 av h Q := id rfl
theorem cs45_216 {av : List Int} {h : XH} {Q : Nat → List Int → XH → Prop} : CS45 216 av h Q = k216 av h Q := id rfl
theorem cs45_217 {av : List Int} {h : XH} {Q : Nat → List Int → XH → Prop} : CS45 217 av h Q = k217 av h Q := id rfl
theorem cs45_218 {av : List Int} {h : XH} {Q : Nat → List Int → XH → Prop} : CS45 218 av h Q = k218 av h Q := id rfl
theorem cs45_219 {av : List Int} {h : XH} {Q : Nat → List Int → XH → Prop} : CS45 219 av h Q = k219 av h Q := id rfl
theorem cs45_220 {av : List Int} {h : XH} {Q : Nat → List Int → XH → Prop} : CS45 220 av h Q = k220 av h Q := id rfl
theorem cs45_221 {av : List Int} {h : XH} {Q : Nat → List Int → XH → Prop} : CS45 221 av h Q = k221 av h Q := id rfl
theorem cs45_210 {av : List Int} {h : XH} {Q : Nat → List Int → XH → Prop} : CS45 210 av h Q = k210 av h Q := id rfl
theorem cs45_212 {av : List Int} {h : XH} {Q : Nat → List Int → XH → Prop} : CS45 212 av h Q = k212 av h Q := id rfl
theorem cs45_213 {av : List Int} {h : XH} {Q : Nat → List Int → XH → Prop} : CS45 213 av h Q = k213 av h Q := id rfl
theorem cs45_190 {av : List Int} {h : XH} {Q : Nat → List Int → XH → Prop} : CS45 190 av h Q = k190 av h Q := id rfl
theorem cs45_199 {av : List Int} {h : XH} {Q : Nat → List Int → XH → Prop} : CS45 199 av h Q = k199 av h Q := id rfl
theorem cs45_225 {av : List Int} {h : XH} {Q : Nat → List Int → XH → Prop} : CS45 225 av h Q = k225 av h Q := id rfl
theorem cs45_226 {av : List Int} {h : XH} {Q : Nat → List Int → XH → Prop} : CS45 226 av h Q = k226 av h Q := id rfl
theorem cs45_227 {av : List Int} {h : XH} {Q : Nat → List Int → XH → Prop} : CS45 227 av h Q = k227 av h Q := id rfl
theorem cs45_228 {av : List Int} {h : XH} {Q : Nat → List Int → XH → Prop} : CS45 228 av h Q = k228 av h Q := id rfl
theorem cs45_333 {av : List Int} {h : XH} {Q : Nat → List Int → XH → Prop} : CS45 333 av h Q = k333 av h Q := id rfl
theorem cs45_67 {av : List Int} {h : XH} {Q : Nat → List Int → XH → Prop} : CS45 67 av h Q = k67 av h Q := id rfl
theorem cs45_65 {av : List Int} {h : XH} {Q : Nat → List Int → XH → Prop} : CS45 65 av h Q = k65 av h Q := id rfl
theorem cs45_66 {av : List Int} {h : XH} {Q : Nat → List Int → XH → Prop} : CS45 66 av h Q = k66 av h Q := id rfl
theorem cs45_64 {av : List Int} {h : XH} {Q : Nat → List Int → XH → Prop} : CS45 64 av h Q = k64 av h Q := id rfl
theorem cs45_63 {av : List Int} {h : XH} {Q : Nat → List Int → XH → Prop} : CS45 63 av h Q = k63 av h Q := id rfl
theorem cs45_77 {av : List Int} {h : XH} {Q : Nat → List Int → XH → Prop} : CS45 77 av h Q = k77 av h Q := id rfl
theorem cs45_76 {av : List Int} {h : XH} {Q : Nat → List Int → XH → Prop} : CS45 76 av h Q = k76 av h Q := id rfl
theorem cs45_133 {av : List Int} {h : XH} {Q : Nat → List Int → XH → Prop} : CS45 133 av h Q = k133 av h Q := id rfl
theorem cs45_134 {av : List Int} {h : XH} {Q : Nat → List Int → XH → Prop} : CS45 134 av h Q = k134 av h Q := id rfl
theorem cs45_135 {av : List Int} {h : XH} {Q : Nat → List Int → XH → Prop} : CS45 135 av h Q = k135 av h Q := id rfl
theorem cs45_136 {av : List Int} {h : XH} {Q : Nat → List Int → XH → Prop} : CS45 136 av h Q = k136 av h Q := id rfl
theorem cs45_138 {av : List Int} {h : XH} {Q : Nat → List Int → XH → Prop} : CS45 138 av h Q = k138 av h Q := id rfl
theorem cs45_139 {av : List Int} {h : XH} {Q : Nat → List Int → XH → Prop} : CS45 139 av h Q = k139 av h Q := id rfl
theorem cs45_105 {av : List Int} {h : XH} {Q : Nat → List Int → XH → Prop} : CS45 105 av h Q = k105 av h Q := id rfl
theorem cs45_102 {av : List Int} {h : XH} {Q : Nat → List Int → XH → Prop} : CS45 102 av h Q = k102 av h Q := id rfl
theorem cs45_103 {av : List Int} {h : XH} {Q : Nat → List Int → XH → Prop} : CS45 103 av h Q = k103 av h Q := id rfl
theorem cs45_104 {av : List Int} {h : XH} {Q : Nat → List Int → XH → Prop} : CS45 104 av h Q = k104 av h Q := id rfl
theorem cs45_106 {av : List Int} {h : XH} {Q : Nat → List Int → XH → Prop} : CS45 106 av h Q = k106 av h Q := id rfl
theorem cs45_140 {av : List Int} {h : XH} {Q : Nat → List Int → XH → Prop} : CS45 140 av h Q = k140 av h Q := id rfl
theorem cs45_137 {av : List Int} {h : XH} {Q : Nat → List Int → XH → Prop} : CS45 137 av h Q = k137 av h Q := id rfl
theorem cs45_127 {av : List Int} {h : XH} {Q : Nat → List Int → XH → Prop} : CS45 127 av h Q = k127 av h Q := id rfl
theorem cs45_56 {av : List Int} {h : XH} {Q : Nat → List Int → XH → Prop} : CS45 56 av h Q = k56 av h Q := id rfl
theorem cs45_57 {av : List Int} {h : XH} {Q : Nat → List Int → XH → Prop} : CS45 57 av h Q = k57 av h Q := id rfl
theorem cs45_79 {av : List Int} {h : XH} {Q : Nat → List Int → XH → Prop} : CS45 79 av h Q = k79 av h Q := id rfl
theorem cs45_101 {av : List Int} {h : XH} {Q : Nat → List Int → XH → Prop} : CS45 101 av h Q = k101 av h Q := id rfl
theorem cs45_96 {av : List Int} {h : XH} {Q : Nat → List Int → XH → Prop} : CS45 96 av h Q = k96 av h Q := id rfl
theorem cs45_99 {av : List Int} {h : XH} {Q : Nat → List Int → XH → Prop} : CS45 99 av h Q = k99c av h Q := id rfl
theorem cs45_100 {av : List Int} {h : XH} {Q : Nat → List Int → XH → Prop} : CS45 100 av h Q = k100 av h Q := id rfl
theorem cs45_98 {av : List Int} {h : XH} {Q : Nat → List Int → XH → Prop} : CS45 98 av h Q = k98 av h Q := id rfl
theorem cs45_122 {av : List Int} {h : XH} {Q : Nat → List Int → XH → Prop} : CS45 122 av h Q = k122 av h Q := id rfl
theorem cs45_123 {av : List Int} {h : XH} {Q : Nat → List Int → XH → Prop} : CS45 123 av h Q = k123 av h Q := id rfl
theorem cs45_124 {av : List Int} {h : XH} {Q : Nat → List Int → XH → Prop} : CS45 124 av h Q = k124 av h Q := id rfl
theorem cs45_125 {av : List Int} {h : XH} {Q : Nat → List Int → XH → Prop} : CS45 125 av h Q = k125 av h Q := id rfl
theorem cs45_126 {av : List Int} {h : XH} {Q : Nat → List Int → XH → Prop} : CS45 126 av h Q = k126 av h Q := id rfl
theorem cs45_84 {av : List Int} {h : XH} {Q : Nat → List Int → XH → Prop} : CS45 84 av h Q = k84 av h Q := id rfl
theorem cs45_82 {av : List Int} {h : XH} {Q : Nat → List Int → XH → Prop} : CS45 82 av h Q = k82 av h Q := id rfl
theorem cs45_83 {av : List Int} {h : XH} {Q : Nat → List Int → XH → Prop} : CS45 83 av h Q = k83 av h Q := id rfl
theorem cs45_85 {av : List Int} {h : XH} {Q : Nat → List Int → XH → Prop} : CS45 85 av h Q = k85 av h Q := id rfl
theorem cs45_89 {av : List Int} {h : XH} {Q : Nat → List Int → XH → Prop} : CS45 89 av h Q = k89 av h Q := id rfl
theorem cs45_90 {av : List Int} {h : XH} {Q : Nat → List Int → XH → Prop} : CS45 90 av h Q = k90 av h Q := id rfl
theorem cs45_91 {av : List Int} {h : XH} {Q : Nat → List Int → XH → Prop} : CS45 91 av h Q = k91 av h Q := id rfl
theorem cs45_88 {av : List Int} {h : XH} {Q : Nat → List Int → XH → Prop} : CS45 88 av h Q = k88 av h Q := id rfl
theorem cs45_86 {av : List Int} {h : XH} {Q : Nat → List Int → XH → Prop} : CS45 86 av h Q = k86 av h Q := id rfl
theorem cs45_87 {av : List Int} {h : XH} {Q : Nat → List Int → XH → Prop} : CS45 87 av h Q = k87 av h Q := id rfl
theorem cs45_81 {av : List Int} {h : XH} {Q : Nat → List Int → XH → Prop} : CS45 81 av h Q = k81 av h Q := id rfl
theorem cs45_128 {av : List Int} {h : XH} {Q : Nat → List Int → XH → Prop} : CS45 128 av h Q = k128 av h Q := id rfl
theorem cs45_119 {av : List Int} {h : XH} {Q : Nat → List Int → XH → Prop} : CS45 119 av h Q = k119 av h Q := id rfl
theorem cs45_58 {av : List Int} {h : XH} {Q : Nat → List Int → XH → Prop} : CS45 58 av h Q = k58 av h Q := id rfl
theorem cs45_80 {av : List Int} {h : XH} {Q : Nat → List Int → XH → Prop} : CS45 80 av h Q = k80 av h Q := id rfl
theorem cs45_97 {av : List Int} {h : XH} {Q : Nat → List Int → XH → Prop} : CS45 97 av h Q = k97s av h Q := id rfl
theorem cs45_156 {av : List Int} {h : XH} {Q : Nat → List Int → XH → Prop} : CS45 156 av h Q = k156 av h Q := id rfl
theorem cs45_142 {av : List Int} {h : XH} {Q : Nat → List Int → XH → Prop} : CS45 142 av h Q = k142 av h Q := id rfl
theorem cs45_3 {av : List Int} {h : XH} {Q : Nat → List Int → XH → Prop} : CS45 3 av h Q = k3s av h Q := id rfl
theorem cs45_61 {av : List Int} {h : XH} {Q : Nat → List Int → XH → Prop} : CS45 61 av h Q = k61z av h Q := id rfl
theorem cs45_2 {av : List Int} {h : XH} {Q : Nat → List Int → XH → Prop} : CS45 2 av h Q = k2s av h Q := id rfl
theorem cs45_240 {av : List Int} {h : XH} {Q : Nat → List Int → XH → Prop} : CS45 240 av h Q = k240s av h Q := id rfl
theorem cs45_241 {av : List Int} {h : XH} {Q : Nat → List Int → XH → Prop} : CS45 241 av h Q = k241s av h Q := id rfl
theorem cs45_206 {av : List Int} {h : XH} {Q : Nat → List Int → XH → Prop} : CS45 206 av h Q = k206s av h Q := id rfl
theorem cs45_113 {av : List Int} {h : XH} {Q : Nat → List Int → XH → Prop} : CS45 113 av h Q = k113 av h Q := id rfl
theorem cs45_114 {av : List Int} {h : XH} {Q : Nat → List Int → XH → Prop} : CS45 114 av h Q = k114 av h Q := id rfl
theorem cs45_116 {av : List Int} {h : XH} {Q : Nat → List Int → XH → Prop} : CS45 116 av h Q = k116 av h Q := id rfl
theorem cs45_117 {av : List Int} {h : XH} {Q : Nat → List Int → XH → Prop} : CS45 117 av h Q = k117 av h Q := id rfl
theorem cs45_121 {av : List Int} {h : XH} {Q : Nat → List Int → XH → Prop} : CS45 121 av h Q = k121 av h Q := id rfl
theorem cs45_129 {av : List Int} {h : XH} {Q : Nat → List Int → XH → Prop} : CS45 129 av h Q = k129 av h Q := id rfl
theorem cs45_130 {av : List Int} {h : XH} {Q : Nat → List Int → XH → Prop} : CS45 130 av h Q = k130 av h Q := id rfl
theorem cs45_131 {av : List Int} {h : XH} {Q : Nat → List Int → XH → Prop} : CS45 131 av h Q = k131 av h Q := id rfl
theorem cs45_132 {av : List Int} {h : XH} {Q : Nat → List Int → XH → Prop} : CS45 132 av h Q = k132 av h Q := id rfl
theorem cs45_120 {av : List Int} {h : XH} {Q : Nat → List Int → XH → Prop} : CS45 120 av h Q = k120 av h Q := id rfl
theorem cs45_4 {av : List Int} {h : XH} {Q : Nat → List Int → XH → Prop} : CS45 4 av h Q = k4 av h Q := id rfl
theorem cs45_229 {av : List Int} {h : XH} {Q : Nat → List Int → XH → Prop} : CS45 229 av h Q = k229 av h Q := id rfl
theorem cs45_233 {av : List Int} {h : XH} {Q : Nat → List Int → XH → Prop} : CS45 233 av h Q = k233 av h Q := id rfl
theorem cs45_234 {av : List Int} {h : XH} {Q : Nat → List Int → XH → Prop} : CS45 234 av h Q = k234 av h Q := id rfl
theorem cs45_215 {av : List Int} {h : XH} {Q : Nat → List Int → XH → Prop} : CS45 215 av h Q = k215 av h Q := id rfl
theorem cs45_214 {av : List Int} {h : XH} {Q : Nat → List Int → XH → Prop} : CS45 214 av h Q = k214 av h Q := id rfl
theorem cs45_146 {av : List Int} {h : XH} {Q : Nat → List Int → XH → Prop} : CS45 146 av h Q = k146 av h Q := id rfl
theorem cs45_147 {av : List Int} {h : XH} {Q : Nat → List Int → XH → Prop} : CS45 147 av h Q = k147 av h Q := id rfl
theorem cs45_149 {av : List Int} {h : XH} {Q : Nat → List Int → XH → Prop} : CS45 149 av h Q = k149 av h Q := id rfl
theorem cs45_155 {av : List Int} {h : XH} {Q : Nat → List Int → XH → Prop} : CS45 155 av h Q = k155 av h Q := id rfl
theorem cs45_157 {av : List Int} {h : XH} {Q : Nat → List Int → XH → Prop} : CS45 157 av h Q = k157 av h Q := id rfl
theorem cs45_165 {av : List Int} {h : XH} {Q : Nat → List Int → XH → Prop} : CS45 165 av h Q = k165 av h Q := id rfl
theorem cs45_59 {av : List Int} {h : XH} {Q : Nat → List Int → XH → Prop} : CS45 59 av h Q = k59 av h Q := id rfl
theorem cs45_107 {av : List Int} {h : XH} {Q : Nat → List Int → XH → Prop} : CS45 107 av h Q = k107 av h Q := id rfl
theorem cs45_108 {av : List Int} {h : XH} {Q : Nat → List Int → XH → Prop} : CS45 108 av h Q = k108 av h Q := id rfl
theorem cs45_109 {av : List Int} {h : XH} {Q : Nat → List Int → XH → Prop} : CS45 109 av h Q = k109 av h Q := id rfl
theorem cs45_110 {av : List Int} {h : XH} {Q : Nat → List Int → XH → Prop} : CS45 110 av h Q = k110 av h Q := id rfl
theorem cs45_111 {av : List Int} {h : XH} {Q : Nat → List Int → XH → Prop} : CS45 111 av h Q = k111 av h Q := id rfl
theorem cs45_112 {av : List Int} {h : XH} {Q : Nat → List Int → XH → Prop} : CS45 112 av h Q = k112 av h Q := id rfl
theorem cs45_143 {av : List Int} {h : XH} {Q : Nat → List Int → XH → Prop} : CS45 143 av h Q = k143 av h Q := id rfl
theorem cs45_170 {av : List Int} {h : XH} {Q : Nat → List Int → XH → Prop} : CS45 170 av h Q = k170 av h Q := id rfl
theorem cs45_168 {av : List Int} {h : XH} {Q : Nat → List Int → XH → Prop} : CS45 168 av h Q = k168 av h Q := id rfl
theorem cs45_169 {av : List Int} {h : XH} {Q : Nat → List Int → XH → Prop} : CS45 169 av h Q = k169 av h Q := id rfl
theorem cs45_181 {av : List Int} {h : XH} {Q : Nat → List Int → XH → Prop} : CS45 181 av h Q = k181 av h Q := id rfl
theorem cs45_5 {av : List Int} {h : XH} {Q : Nat → List Int → XH → Prop} : CS45 5 av h Q = k5 av h Q := id rfl
theorem cs45_6 {av : List Int} {h : XH} {Q : Nat → List Int → XH → Prop} : CS45 6 av h Q = k6 av h Q := id rfl
theorem cs45_7 {av : List Int} {h : XH} {Q : Nat → List Int → XH → Prop} : CS45 7 av h Q = k7 av h Q := id rfl
theorem cs45_8 {av : List Int} {h : XH} {Q : Nat → List Int → XH → Prop} : CS45 8 av h Q = k8 av h Q := id rfl
theorem cs45_9 {av : List Int} {h : XH} {Q : Nat → List Int → XH → Prop} : CS45 9 av h Q = k9 av h Q := id rfl
theorem cs45_10 {av : List Int} {h : XH} {Q : Nat → List Int → XH → Prop} : CS45 10 av h Q = k10s av h Q := id rfl
theorem cs45_11 {av : List Int} {h : XH} {Q : Nat → List Int → XH → Prop} : CS45 11 av h Q = k11 av h Q := id rfl
theorem cs45_12 {av : List Int} {h : XH} {Q : Nat → List Int → XH → Prop} : CS45 12 av h Q = k12s av h Q := id rfl
theorem cs45_40 {av : List Int} {h : XH} {Q : Nat → List Int → XH → Prop} : CS45 40 av h Q = k40s av h Q := id rfl
theorem cs45_49 {av : List Int} {h : XH} {Q : Nat → List Int → XH → Prop} : CS45 49 av h Q = k49 av h Q := id rfl
theorem cs45_50 {av : List Int} {h : XH} {Q : Nat → List Int → XH → Prop} : CS45 50 av h Q = k50 av h Q := id rfl
theorem cs45_48 {av : List Int} {h : XH} {Q : Nat → List Int → XH → Prop} : CS45 48 av h Q = k48 av h Q := id rfl
theorem cs45_224 {av : List Int} {h : XH} {Q : Nat → List Int → XH → Prop} : CS45 224 av h Q = k224s av h Q := id rfl
theorem cs45_230 {av : List Int} {h : XH} {Q : Nat → List Int → XH → Prop} : CS45 230 av h Q = k230 av h Q := id rfl
theorem cs45_235 {av : List Int} {h : XH} {Q : Nat → List Int → XH → Prop} : CS45 235 av h Q = k235 av h Q := id rfl
theorem cs45_236 {av : List Int} {h : XH} {Q : Nat → List Int → XH → Prop} : CS45 236 av h Q = k236 av h Q := id rfl
theorem cs45_237 {av : List Int} {h : XH} {Q : Nat → List Int → XH → Prop} : CS45 237 av h Q = k237 av h Q := id rfl
theorem cs45_238 {av : List Int} {h : XH} {Q : Nat → List Int → XH → Prop} : CS45 238 av h Q = k238 av h Q := id rfl
theorem cs45_243 {av : List Int} {h : XH} {Q : Nat → List Int → XH → Prop} : CS45 243 av h Q = k243 av h Q := id rfl
theorem cs45_256 {av : List Int} {h : XH} {Q : Nat → List Int → XH → Prop} : CS45 256 av h Q = k256 av h Q := id rfl
theorem cs45_264 {av : List Int} {h : XH} {Q : Nat → List Int → XH → Prop} : CS45 264 av h Q = k264 av h Q := id rfl
theorem cs45_266 {av : List Int} {h : XH} {Q : Nat → List Int → XH → Prop} : CS45 266 av h Q = k266 av h Q := id rfl
theorem cs45_239 {av : List Int} {h : XH} {Q : Nat → List Int → XH → Prop} : CS45 239 av h Q = k239 av h Q := id rfl
theorem cs45_242 {av : List Int} {h : XH} {Q : Nat → List Int → XH → Prop} : CS45 242 av h Q = k242s av h Q := id rfl
theorem cs45_260 {av : List Int} {h : XH} {Q : Nat → List Int → XH → Prop} : CS45 260 av h Q = k260 av h Q := id rfl
theorem cs45_261 {av : List Int} {h : XH} {Q : Nat → List Int → XH → Prop} : CS45 261 av h Q = k261 av h Q := id rfl
theorem cs45_262 {av : List Int} {h : XH} {Q : Nat → List Int → XH → Prop} : CS45 262 av h Q = k262 av h Q := id rfl
theorem cs45_263 {av : List Int} {h : XH} {Q : Nat → List Int → XH → Prop} : CS45 263 av h Q = k263 av h Q := id rfl
theorem cs45_265 {av : List Int} {h : XH} {Q : Nat → List Int → XH → Prop} : CS45 265 av h Q = k265 av h Q := id rfl
theorem cs45_267 {av : List Int} {h : XH} {Q : Nat → List Int → XH → Prop} : CS45 267 av h Q = k267 av h Q := id rfl
theorem cs45_268 {av : List Int} {h : XH} {Q : Nat → List Int → XH → Prop} : CS45 268 av h Q = k268 av h Q := id rfl
theorem cs45_272 {av : List Int} {h : XH} {Q : Nat → List Int → XH → Prop} : CS45 272 av h Q = k272 av h Q := id rfl
theorem cs45_304 {av : List Int} {h : XH} {Q : Nat → List Int → XH → Prop} : CS45 304 av h Q = k304 av h Q := id rfl
theorem cs45_311 {av : List Int} {h : XH} {Q : Nat → List Int → XH → Prop} : CS45 311 av h Q = k311 av h Q := id rfl
theorem cs45_254 {av : List Int} {h : XH} {Q : Nat → List Int → XH → Prop} : CS45 254 av h Q = k254f av h Q := id rfl
theorem cs45_257 {av : List Int} {h : XH} {Q : Nat → List Int → XH → Prop} : CS45 257 av h Q = k257f av h Q := id rfl
theorem cs45_269 {av : List Int} {h : XH} {Q : Nat → List Int → XH → Prop} : CS45 269 av h Q = k269 av h Q := id rfl
theorem cs45_270 {av : List Int} {h : XH} {Q : Nat → List Int → XH → Prop} : CS45 270 av h Q = k270 av h Q := id rfl
theorem cs45_271 {av : List Int} {h : XH} {Q : Nat → List Int → XH → Prop} : CS45 271 av h Q = k271 av h Q := id rfl
theorem cs45_258 {av : List Int} {h : XH} {Q : Nat → List Int → XH → Prop} : CS45 258 av h Q = k258f av h Q := id rfl
theorem cs45_259 {av : List Int} {h : XH} {Q : Nat → List Int → XH → Prop} : CS45 259 av h Q = k259f av h Q := id rfl
theorem cs45_285 {av : List Int} {h : XH} {Q : Nat → List Int → XH → Prop} : CS45 285 av h Q = k285f av h Q := id rfl
theorem cs45_287 {av : List Int} {h : XH} {Q : Nat → List Int → XH → Prop} : CS45 287 av h Q = k287f av h Q := id rfl
theorem cs45_274 {av : List Int} {h : XH} {Q : Nat → List Int → XH → Prop} : CS45 274 av h Q = k274 av h Q := id rfl
theorem cs45_298 {av : List Int} {h : XH} {Q : Nat → List Int → XH → Prop} : CS45 298 av h Q = k298 av h Q := id rfl
theorem cs45_309 {av : List Int} {h : XH} {Q : Nat → List Int → XH → Prop} : CS45 309 av h Q = k309 av h Q := id rfl
theorem m_274 : BodyOK CS45 CS45 274 := fun av h Q hQ => by
  rw [cs45_274] at hQ
  unfold k274 at hQ
  split at hQ
  · rename_i t a
    obtain ⟨rfl, ha_w, hQ⟩ := hQ
    show pS CS45 bb_274 [182, a] h _
    unfold bb_274
    rcases ha_w with rfl | rfl
    · simp only [qe_1, qe_3, qe_4, qe_5, qe_7, qe_72, qe_10, qe_102, qe_13, qe_14, qe_15, qe_16, qe_17, qe_18, qe_20, qe_22, qe_23, qe_21, qe_24, qe_25, qe_26, qe_27, qe_28, qe_30, qe_31, qe_32, qc_20, qc_22, qc_23, qc_21, qc_24, qc_25, qc_26, qc_27, qc_1, qc_3, qc_4, qc_7, qc_13, qc_28, qc_32, qs_1, qs_2, qs_3, qs_4, qs_5, qs_6, qs_9, qs_10, qs_11, qs_14, qs_15, qs_16, qs_27, qs_17, qs_18, qs_19, qs_20, qs_22, qs_23, qs_28, qs_25, qs_26, qs_7, qs_8, kc_1, kn_1, kc_2, kn_2, kc_3, kn_3, kc_4, kn_4, kc_5, kn_5, kc_6, kn_6, kc_7, kn_7, kc_8, kn_8, kc_9, kn_9, kc_10, kn_10, kc_11, kn_11, kc_12, kn_12, kc_13, kn_13, kc_14, kn_14, kc_15, kn_15, kc_16, kc_17, kc_18, kc_19, kc_20, kc_21, kc_22, kc_23, kc_30, kc_32, kc_40, kc_43, kc_45, kc_48, kc_52, kc_56, kc_57, kc_59, kc_60, kc_61, kc_63, kc_64, kc_72, kc_78, kc_97, kc_99, kc_122, kc_126, kc_128, kc_192, kc_200, kc_255, kc_999, kc_1000, kc_9999, kn_9999, kc_10000, kc_12345, kc_65536, kc_252645135, kc_858993459, kc_1103515245, kc_1431655765, kc_2147483647, kc_0, kc_24, kc_28, kc_37, kc_41, kc_42, kc_73, kc_91, kc_95, kc_96, kc_98, kc_100, kc_112, kc_125, kc_150, kc_162, kc_163, kc_168, kc_186, kc_190, kc_250, kc_355, kc_356, kc_404, kc_405, kc_429, kc_573, kc_1002, kc_1100, kc_1891, kc_2200, kc_4719, kc_4869, kc_4881, kc_5148, kc_19741, kc_25433, kc_320403, kc_628412, kc_629093, kc_660401, kc_679843, kc_918640, kc_979410, kc_1178088, kc_6232410, kc_24644941, kc_36238189, kc_38270444, kc_392531318, kc_425693491, kc_1342154595, kc_2147483648, kc_42328242873, kc_891704255789, kc_1722105685577, kc_1858726030364, ct_0, ct_1, ct_2, ct_3, ct_4, ct_5, cf_0, cf_1, cf_2, cf_3, cf_4, cf_5, w_ty6, w_ty7, m_sv, m_z0, m_hd, m_g0, m_gs, m_s0, m_ss, m_ap, m_an, forall_const, true_and, and_true, ne_eq, not_true_eq_false, not_false_eq_true, false_implies, true_implies, implies_true, eq_self, reduceCtorEq, Nat.reduceDiv, Nat.reduceMod, Int.reduceToNat, or_true, true_or, or_false, false_or, or_self, m_it, m_if, m_c1, m_01, m_02, m_03, m_04, m_10, m_12, m_13, m_14, m_20, m_21, m_23, m_24, m_30, m_31, m_32, m_34, m_40, m_41, m_42, m_43, Int.reduceLE, Int.reduceLT, Int.reduceGE, Int.reduceGT, Int.reduceNeg, Int.reduceAdd, Int.reduceSub, Int.reduceMul, Int.reduceEq, Int.reduceNe, Nat.reduceAdd, jun2, ro_0_0, ro_0_1, ro_0_2, ro_0_3, ro_0_4, ro_0_5, ro_0_6, ro_0_7, ro_0_8, ro_0_9, ro_0_10, ro_0_11, ro_0_12, ro_1_0, ro_1_1, ro_2_0, ro_4_0, ro_6_0, ro_6_1, ro_6_2, ro_6_3, ro_6_4, ro_6_5, ro_6_6, ro_6_7, ro_6_8, ro_8_0, ro_10_0, ro_12_0, ro_14_0, ro_16_0, ro_18_0, ro_20_0, ro_22_0, ro_22_1, ro_22_2, ro_23_0, ro_25_0, ro_27_0, ro_29_0, ro_29_1, ro_29_2, ro_29_3, ro_29_4, ro_29_5, ro_29_6, ro_29_7, ro_29_8, ro_31_0, ro_33_0, ro_35_0, ro_37_0, ro_39_0, ro_41_0, ro_43_0, ro_45_0, ro_45_1, ro_45_2, ro_46_0, ro_48_0, ro_50_0, ro_52_0, ro_52_1, ro_52_2, ro_52_3, ro_53_0, ro_55_0, ro_57_0, ro_59_0, ro_61_0, ro_61_1, ro_61_2, ro_61_3, ro_62_0, ro_64_0, ro_66_0, ro_68_0, ro_70_0, ro_70_1, ro_70_2, ro_70_3, ro_70_4, ro_70_5, ro_70_6, ro_70_7, ro_70_8, ro_70_9, ro_71_0, ro_73_0, ro_75_0, ro_77_0, ro_79_0, ro_81_0, ro_83_0, ro_85_0, ro_87_0, ro_89_0, ro_91_0, ro_91_1, ro_91_2, ro_91_3, ro_91_4, ro_91_5, ro_91_6, ro_91_7, ro_91_8, ro_91_9, ro_92_0, ro_94_0, ro_96_0, ro_98_0, ro_100_0, ro_102_0, ro_104_0, ro_106_0, ro_108_0, ro_110_0, ro_112_0, ro_112_1, ro_112_2, ro_112_3, ro_112_4, ro_112_5, ro_112_6, ro_112_7, ro_112_8, ro_112_9, ro_113_0, ro_115_0, ro_117_0, ro_119_0, ro_121_0, ro_123_0, ro_125_0, ro_127_0, ro_129_0, ro_131_0, ro_133_0, ro_133_1, ro_133_2, ro_133_3, ro_133_4, ro_133_5, ro_133_6, ro_133_7, ro_133_8, ro_133_9, ro_134_0, ro_136_0, ro_138_0, ro_140_0, ro_142_0, ro_144_0, ro_146_0, ro_148_0, ro_150_0, ro_152_0, ro_154_0, ro_155_0, ro_157_0, ro_157_1, ro_157_2, ro_157_3, ro_157_4, ro_157_5, ro_157_6, ro_157_7, ro_157_8, ro_157_9, ro_158_0, ro_160_0, ro_162_0, ro_164_0, ro_166_0, ro_168_0, ro_170_0, ro_172_0, ro_174_0, ro_176_0, ro_178_0, ro_180_0, ro_182_1, ro_182_4, ro_182_5, ro_182_6, ro_182_9, ro_182_10, ro_182_11, ro_182_13, ro_182_14, ro_182_15, ro_182_16, ro_182_17, ro_182_20, ro_182_21, ro_182_22, ro_182_23, ro_182_24, ro_182_26, ro_182_27, ro_182_28, lo_3, lo_5, lo_7, lo_9, lo_11, lo_13, lo_15, lo_17, lo_19, lo_21, lo_24, lo_26, lo_28, lo_30, lo_32, lo_34, lo_36, lo_38, lo_40, lo_42, lo_44, lo_47, lo_49, lo_51, lo_54, lo_56, lo_58, lo_60, lo_63, lo_65, lo_67, lo_69, lo_72, lo_74, lo_76, lo_78, lo_80, lo_82, lo_84, lo_86, lo_88, lo_90, lo_93, lo_95, lo_97, lo_99, lo_101, lo_103, lo_105, lo_107, lo_109, lo_111, lo_114, lo_116, lo_118, lo_120, lo_122, lo_124, lo_126, lo_128, lo_130, lo_132, lo_135, lo_137, lo_139, lo_141, lo_143, lo_145, lo_147, lo_149, lo_151, lo_153, lo_156, lo_159, lo_161, lo_163, lo_165, lo_167, lo_169, lo_171, lo_173, lo_175, lo_177, lo_179, lo_181, lo_183, lo_184, lo_185, lo_186, lo_187, lo_188, lo_189, lo_190, lo_191, lo_192, lo_193, lo_194, lo_195, lo_196, lo_197, lo_198, lo_199, lo_200, lo_201, lo_202, lo_203, jp_nn, jp_eq, jp_e1, Classical.not_not, ji0, ji1, ji2, cs45_54, kk_54, cs45_55, kk_55, cs45_68, kk_68, cs45_69, kk_69, cs45_70, kk_70, cs45_71, kk_71, cs45_72, kk_72, cs45_73, kk_73, cs45_74, kk_74, cs45_75, kk_75, cs45_186, kk_186, cs45_187, kk_187, cs45_188, kk_188, cs45_189, kk_189, cs45_191, kk_191, cs45_192, kk_192, cs45_193, kk_193, cs45_198, kk_198, cs45_207, kk_207, cs45_195, kk_195, cs45_196, kk_196, cs45_201, kk_201, cs45_203, kk_203, cs45_204, kk_204, cs45_194, kk_194, cs45_197, kk_197, cs45_200, kk_200, cs45_202, kk_202, cs45_205, kk_205, cs45_208, kk_208, cs45_209, kk_209, cs45_211, kk_211, cs45_216, kk_216, cs45_217, kk_217, cs45_218, kk_218, cs45_219, kk_219, cs45_220, kk_220, cs45_221, kk_221, cs45_210, kk_210, cs45_212, kk_212, cs45_213, kk_213, cs45_190, kk_190, cs45_199, kk_199, cs45_225, kk_225, cs45_226, kk_226, cs45_227, kk_227, cs45_228, kk_228, cs45_333, kk_333, cs45_67, kk_67, cs45_65, kk_65, cs45_66, kk_66, cs45_64, kk_64, cs45_63, kk_63, cs45_77, kk_77, cs45_76, kk_76, cs45_133, kk_133, cs45_134, kk_134, cs45_135, kk_135, cs45_136, kk_136, cs45_138, kk_138, cs45_139, kk_139, cs45_105, kk_105, cs45_102, kk_102, cs45_103, kk_103, cs45_104, kk_104, cs45_106, kk_106, cs45_140, kk_140, cs45_137, kk_137, cs45_127, kk_127, cs45_56, kk_56, cs45_57, kk_57, cs45_79, kk_79, cs45_101, kk_101, cs45_96, kk_96, cs45_99, kk_99, cs45_100, kk_100, cs45_98, kk_98, cs45_122, kk_122, cs45_123, kk_123, cs45_124, kk_124, cs45_125, kk_125, cs45_126, kk_126, cs45_84, kk_84, cs45_82, kk_82, cs45_83, kk_83, cs45_85, kk_85, cs45_89, kk_89, cs45_90, kk_90, cs45_91, kk_91, cs45_88, kk_88, cs45_86, kk_86, cs45_87, kk_87, cs45_81, kk_81, cs45_128, kk_128, cs45_119, kk_119, cs45_58, kk_58, cs45_80, kk_80, cs45_97, kk_97s, cs45_156, kk_156, cs45_142, kk_142, cs45_3, kk_3s, cs45_61, kk_61z, cs45_2, kk_2s, cs45_240, kk_240s, cs45_241, kk_241s, cs45_206, kk_206s, cs45_113, kk_113, cs45_114, kk_114, cs45_116, kk_116, cs45_117, kk_117, cs45_121, kk_121, cs45_129, kk_129, cs45_130, kk_130, cs45_131, kk_131, cs45_132, kk_132, cs45_120, kk_120, cs45_4, kk_4, cs45_229, kk_229, cs45_233, kk_233, cs45_234, kk_234, cs45_215, kk_215, cs45_214, kk_214, cs45_146, kk_146, cs45_147, kk_147, cs45_149, kk_149, cs45_155, kk_155, cs45_157, kk_157, cs45_165, kk_165, cs45_59, kk_59, cs45_107, kk_107, cs45_108, kk_108, cs45_109, kk_109, cs45_110, kk_110, cs45_111, kk_111, cs45_112, kk_112, cs45_143, kk_143, cs45_170, kk_170, cs45_168, kk_168, cs45_169, kk_169, cs45_181, kk_181, cs45_5, kk_5, cs45_6, kk_6, cs45_7, kk_7, cs45_8, kk_8, cs45_9, kk_9, cs45_10, kk_10s, cs45_11, kk_11, cs45_12, kk_12s, cs45_40, kk_40s, cs45_49, kk_49, cs45_50, kk_50, cs45_48, kk_48, cs45_224, kk_224s, cs45_230, kk_230, cs45_235, kk_235, cs45_236, kk_236, cs45_237, kk_237, cs45_238, kk_238, cs45_243, kk_243, cs45_256, kk_256, cs45_264, kk_264, cs45_266, kk_266, cs45_239, kk_239, cs45_242, kk_242s, cs45_260, kk_260, cs45_261, kk_261, cs45_262, kk_262, cs45_263, kk_263, cs45_265, kk_265, cs45_267, kk_267, cs45_268, kk_268, cs45_272, kk_272, cs45_304, kk_304, cs45_311, kk_311, cs45_254, kk_254f, cs45_257, kk_257f, cs45_269, kk_269, cs45_270, kk_270, cs45_271, kk_271, cs45_258, kk_258f, cs45_259, kk_259f, cs45_285, kk_285f, cs45_287, kk_287f, cs45_274, kk_274, cs45_298, kk_298, cs45_309, kk_309, jl_0, jl_1, jl_2, jl_3, jl_4, jl_5, jl_6, jl_7, jl_8, jl_9, jl_10, jl_11, jl_12, jl_13, jl_14, jl_15, jl_16, jl_17, jl_18, jl_19, jl_20, jl_21, jl_22, jl_23, jl_24, jl_25, jl_26, jl_27, jl_28, jl_29, jl_30, jl_31, jl_32, jl_33, jl_34, jl_35, jl_36, jl_37, jl_38, jl_39, jl_40, jl_95, jl_96, jl_97, jl_98, jl_99, jl_100, jl_101, jl_102, jl_103, jl_104, jl_105, jl_106, jl_107, jl_108, jl_109, jl_110, jl_111, jl_112, jl_113, jl_114, jl_186, jl_1100, jr, ju, jpT, jpF, tnc, Nat.reduceEqDiff, reduceIte, and_false, false_and, not_true_eq_false, not_false_eq_true, or_false, gt_iff_lt, ge_iff_le, Int.lt_irrefl, Int.le_refl] at hQ ⊢
      exact hQ
    · simp only [qe_1, qe_3, qe_4, qe_5, qe_7, qe_72, qe_10, qe_102, qe_13, qe_14, qe_15, qe_16, qe_17, qe_18, qe_20, qe_22, qe_23, qe_21, qe_24, qe_25, qe_26, qe_27, qe_28, qe_30, qe_31, qe_32, qc_20, qc_22, qc_23, qc_21, qc_24, qc_25, qc_26, qc_27, qc_1, qc_3, qc_4, qc_7, qc_13, qc_28, qc_32, qs_1, qs_2, qs_3, qs_4, qs_5, qs_6, qs_9, qs_10, qs_11, qs_14, qs_15, qs_16, qs_27, qs_17, qs_18, qs_19, qs_20, qs_22, qs_23, qs_28, qs_25, qs_26, qs_7, qs_8, kc_1, kn_1, kc_2, kn_2, kc_3, kn_3, kc_4, kn_4, kc_5, kn_5, kc_6, kn_6, kc_7, kn_7, kc_8, kn_8, kc_9, kn_9, kc_10, kn_10, kc_11, kn_11, kc_12, kn_12, kc_13, kn_13, kc_14, kn_14, kc_15, kn_15, kc_16, kc_17, kc_18, kc_19, kc_20, kc_21, kc_22, kc_23, kc_30, kc_32, kc_40, kc_43, kc_45, kc_48, kc_52, kc_56, kc_57, kc_59, kc_60, kc_61, kc_63, kc_64, kc_72, kc_78, kc_97, kc_99, kc_122, kc_126, kc_128, kc_192, kc_200, kc_255, kc_999, kc_1000, kc_9999, kn_9999, kc_10000, kc_12345, kc_65536, kc_252645135, kc_858993459, kc_1103515245, kc_1431655765, kc_2147483647, kc_0, kc_24, kc_28, kc_37, kc_41, kc_42, kc_73, kc_91, kc_95, kc_96, kc_98, kc_100, kc_112, kc_125, kc_150, kc_162, kc_163, kc_168, kc_186, kc_190, kc_250, kc_355, kc_356, kc_404, kc_405, kc_429, kc_573, kc_1002, kc_1100, kc_1891, kc_2200, kc_4719, kc_4869, kc_4881, kc_5148, kc_19741, kc_25433, kc_320403, kc_628412, kc_629093, kc_660401, kc_679843, kc_918640, kc_979410, kc_1178088, kc_6232410, kc_24644941, kc_36238189, kc_38270444, kc_392531318, kc_425693491, kc_1342154595, kc_2147483648, kc_42328242873, kc_891704255789, kc_1722105685577, kc_1858726030364, ct_0, ct_1, ct_2, ct_3, ct_4, ct_5, cf_0, cf_1, cf_2, cf_3, cf_4, cf_5, w_ty6, w_ty7, m_sv, m_z0, m_hd, m_g0, m_gs, m_s0, m_ss, m_ap, m_an, forall_const, true_and, and_true, ne_eq, not_true_eq_false, not_false_eq_true, false_implies, true_implies, implies_true, eq_self, reduceCtorEq, Nat.reduceDiv, Nat.reduceMod, Int.reduceToNat, or_true, true_or, or_false, false_or, or_self, m_it, m_if, m_c1, m_01, m_02, m_03, m_04, m_10, m_12, m_13, m_14, m_20, m_21, m_23, m_24, m_30, m_31, m_32, m_34, m_40, m_41, m_42, m_43, Int.reduceLE, Int.reduceLT, Int.reduceGE, Int.reduceGT, Int.reduceNeg, Int.reduceAdd, Int.reduceSub, Int.reduceMul, Int.reduceEq, Int.reduceNe, Nat.reduceAdd, jun2, ro_0_0, ro_0_1, ro_0_2, ro_0_3, ro_0_4, ro_0_5, ro_0_6, ro_0_7, ro_0_8, ro_0_9, ro_0_10, ro_0_11, ro_0_12, ro_1_0, ro_1_1, ro_2_0, ro_4_0, ro_6_0, ro_6_1, ro_6_2, ro_6_3, ro_6_4, ro_6_5, ro_6_6, ro_6_7, ro_6_8, ro_8_0, ro_10_0, ro_12_0, ro_14_0, ro_16_0, ro_18_0, ro_20_0, ro_22_0, ro_22_1, ro_22_2, ro_23_0, ro_25_0, ro_27_0, ro_29_0, ro_29_1, ro_29_2, ro_29_3, ro_29_4, ro_29_5, ro_29_6, ro_29_7, ro_29_8, ro_31_0, ro_33_0, ro_35_0, ro_37_0, ro_39_0, ro_41_0, ro_43_0, ro_45_0, ro_45_1, ro_45_2, ro_46_0, ro_48_0, ro_50_0, ro_52_0, ro_52_1, ro_52_2, ro_52_3, ro_53_0, ro_55_0, ro_57_0, ro_59_0, ro_61_0, ro_61_1, ro_61_2, ro_61_3, ro_62_0, ro_64_0, ro_66_0, ro_68_0, ro_70_0, ro_70_1, ro_70_2, ro_70_3, ro_70_4, ro_70_5, ro_70_6, ro_70_7, ro_70_8, ro_70_9, ro_71_0, ro_73_0, ro_75_0, ro_77_0, ro_79_0, ro_81_0, ro_83_0, ro_85_0, ro_87_0, ro_89_0, ro_91_0, ro_91_1, ro_91_2, ro_91_3, ro_91_4, ro_91_5, ro_91_6, ro_91_7, ro_91_8, ro_91_9, ro_92_0, ro_94_0, ro_96_0, ro_98_0, ro_100_0, ro_102_0, ro_104_0, ro_106_0, ro_108_0, ro_110_0, ro_112_0, ro_112_1, ro_112_2, ro_112_3, ro_112_4, ro_112_5, ro_112_6, ro_112_7, ro_112_8, ro_112_9, ro_113_0, ro_115_0, ro_117_0, ro_119_0, ro_121_0, ro_123_0, ro_125_0, ro_127_0, ro_129_0, ro_131_0, ro_133_0, ro_133_1, ro_133_2, ro_133_3, ro_133_4, ro_133_5, ro_133_6, ro_133_7, ro_133_8, ro_133_9, ro_134_0, ro_136_0, ro_138_0, ro_140_0, ro_142_0, ro_144_0, ro_146_0, ro_148_0, ro_150_0, ro_152_0, ro_154_0, ro_155_0, ro_157_0, ro_157_1, ro_157_2, ro_157_3, ro_157_4, ro_157_5, ro_157_6, ro_157_7, ro_157_8, ro_157_9, ro_158_0, ro_160_0, ro_162_0, ro_164_0, ro_166_0, ro_168_0, ro_170_0, ro_172_0, ro_174_0, ro_176_0, ro_178_0, ro_180_0, ro_182_1, ro_182_4, ro_182_5, ro_182_6, ro_182_9, ro_182_10, ro_182_11, ro_182_13, ro_182_14, ro_182_15, ro_182_16, ro_182_17, ro_182_20, ro_182_21, ro_182_22, ro_182_23, ro_182_24, ro_182_26, ro_182_27, ro_182_28, lo_3, lo_5, lo_7, lo_9, lo_11, lo_13, lo_15, lo_17, lo_19, lo_21, lo_24, lo_26, lo_28, lo_30, lo_32, lo_34, lo_36, lo_38, lo_40, lo_42, lo_44, lo_47, lo_49, lo_51, lo_54, lo_56, lo_58, lo_60, lo_63, lo_65, lo_67, lo_69, lo_72, lo_74, lo_76, lo_78, lo_80, lo_82, lo_84, lo_86, lo_88, lo_90, lo_93, lo_95, lo_97, lo_99, lo_101, lo_103, lo_105, lo_107, lo_109, lo_111, lo_114, lo_116, lo_118, lo_120, lo_122, lo_124, lo_126, lo_128, lo_130, lo_132, lo_135, lo_137, lo_139, lo_141, lo_143, lo_145, lo_147, lo_149, lo_151, lo_153, lo_156, lo_159, lo_161, lo_163, lo_165, lo_167, lo_169, lo_171, lo_173, lo_175, lo_177, lo_179, lo_181, lo_183, lo_184, lo_185, lo_186, lo_187, lo_188, lo_189, lo_190, lo_191, lo_192, lo_193, lo_194, lo_195, lo_196, lo_197, lo_198, lo_199, lo_200, lo_201, lo_202, lo_203, jp_nn, jp_eq, jp_e1, Classical.not_not, ji0, ji1, ji2, cs45_54, kk_54, cs45_55, kk_55, cs45_68, kk_68, cs45_69, kk_69, cs45_70, kk_70, cs45_71, kk_71, cs45_72, kk_72, cs45_73, kk_73, cs45_74, kk_74, cs45_75, kk_75, cs45_186, kk_186, cs45_187, kk_187, cs45_188, kk_188, cs45_189, kk_189, cs45_191, kk_191, cs45_192, kk_192, cs45_193, kk_193, cs45_198, kk_198, cs45_207, kk_207, cs45_195, kk_195, cs45_196, kk_196, cs45_201, kk_201, cs45_203, kk_203, cs45_204, kk_204, cs45_194, kk_194, cs45_197, kk_197, cs45_200, kk_200, cs45_202, kk_202, cs45_205, kk_205, cs45_208, kk_208, cs45_209, kk_209, cs45_211, kk_211, cs45_216, kk_216, cs45_217, kk_217, cs45_218, kk_218, cs45_219, kk_219, cs45_220, kk_220, cs45_221, kk_221, cs45_210, kk_210, cs45_212, kk_212, cs45_213, kk_213, cs45_190, kk_190, cs45_199, kk_199, cs45_225, kk_225, cs45_226, kk_226, cs45_227, kk_227, cs45_228, kk_228, cs45_333, kk_333, cs45_67, kk_67, cs45_65, kk_65, cs45_66, kk_66, cs45_64, kk_64, cs45_63, kk_63, cs45_77, kk_77, cs45_76, kk_76, cs45_133, kk_133, cs45_134, kk_134, cs45_135, kk_135, cs45_136, kk_136, cs45_138, kk_138, cs45_139, kk_139, cs45_105, kk_105, cs45_102, kk_102, cs45_103, kk_103, cs45_104, kk_104, cs45_106, kk_106, cs45_140, kk_140, cs45_137, kk_137, cs45_127, kk_127, cs45_56, kk_56, cs45_57, kk_57, cs45_79, kk_79, cs45_101, kk_101, cs45_96, kk_96, cs45_99, kk_99, cs45_100, kk_100, cs45_98, kk_98, cs45_122, kk_122, cs45_123, kk_123, cs45_124, kk_124, cs45_125, kk_125, cs45_126, kk_126, cs45_84, kk_84, cs45_82, kk_82, cs45_83, kk_83, cs45_85, kk_85, cs45_89, kk_89, cs45_90, kk_90, cs45_91, kk_91, cs45_88, kk_88, cs45_86, kk_86, cs45_87, kk_87, cs45_81, kk_81, cs45_128, kk_128, cs45_119, kk_119, cs45_58, kk_58, cs45_80, kk_80, cs45_97, kk_97s, cs45_156, kk_156, cs45_142, kk_142, cs45_3, kk_3s, cs45_61, kk_61z, cs45_2, kk_2s, cs45_240, kk_240s, cs45_241, kk_241s, cs45_206, kk_206s, cs45_113, kk_113, cs45_114, kk_114, cs45_116, kk_116, cs45_117, kk_117, cs45_121, kk_121, cs45_129, kk_129, cs45_130, kk_130, cs45_131, kk_131, cs45_132, kk_132, cs45_120, kk_120, cs45_4, kk_4, cs45_229, kk_229, cs45_233, kk_233, cs45_234, kk_234, cs45_215, kk_215, cs45_214, kk_214, cs45_146, kk_146, cs45_147, kk_147, cs45_149, kk_149, cs45_155, kk_155, cs45_157, kk_157, cs45_165, kk_165, cs45_59, kk_59, cs45_107, kk_107, cs45_108, kk_108, cs45_109, kk_109, cs45_110, kk_110, cs45_111, kk_111, cs45_112, kk_112, cs45_143, kk_143, cs45_170, kk_170, cs45_168, kk_168, cs45_169, kk_169, cs45_181, kk_181, cs45_5, kk_5, cs45_6, kk_6, cs45_7, kk_7, cs45_8, kk_8, cs45_9, kk_9, cs45_10, kk_10s, cs45_11, kk_11, cs45_12, kk_12s, cs45_40, kk_40s, cs45_49, kk_49, cs45_50, kk_50, cs45_48, kk_48, cs45_224, kk_224s, cs45_230, kk_230, cs45_235, kk_235, cs45_236, kk_236, cs45_237, kk_237, cs45_238, kk_238, cs45_243, kk_243, cs45_256, kk_256, cs45_264, kk_264, cs45_266, kk_266, cs45_239, kk_239, cs45_242, kk_242s, cs45_260, kk_260, cs45_261, kk_261, cs45_262, kk_262, cs45_263, kk_263, cs45_265, kk_265, cs45_267, kk_267, cs45_268, kk_268, cs45_272, kk_272, cs45_304, kk_304, cs45_311, kk_311, cs45_254, kk_254f, cs45_257, kk_257f, cs45_269, kk_269, cs45_270, kk_270, cs45_271, kk_271, cs45_258, kk_258f, cs45_259, kk_259f, cs45_285, kk_285f, cs45_287, kk_287f, cs45_274, kk_274, cs45_298, kk_298, cs45_309, kk_309, jl_0, jl_1, jl_2, jl_3, jl_4, jl_5, jl_6, jl_7, jl_8, jl_9, jl_10, jl_11, jl_12, jl_13, jl_14, jl_15, jl_16, jl_17, jl_18, jl_19, jl_20, jl_21, jl_22, jl_23, jl_24, jl_25, jl_26, jl_27, jl_28, jl_29, jl_30, jl_31, jl_32, jl_33, jl_34, jl_35, jl_36, jl_37, jl_38, jl_39, jl_40, jl_95, jl_96, jl_97, jl_98, jl_99, jl_100, jl_101, jl_102, jl_103, jl_104, jl_105, jl_106, jl_107, jl_108, jl_109, jl_110, jl_111, jl_112, jl_113, jl_114, jl_186, jl_1100, jr, ju, jpT, jpF, tnc, Nat.reduceEqDiff, reduceIte, and_false, false_and, not_true_eq_false, not_false_eq_true, or_false, gt_iff_lt, ge_iff_le, Int.lt_irrefl, Int.le_refl] at hQ ⊢
      exact hQ
  · exact hQ.elim
theorem m_298 : BodyOK CS45 CS45 298 := fun av h Q hQ => by
  rw [cs45_298] at hQ
  unfold k298 at hQ
  split at hQ
  · rename_i t
    obtain ⟨rfl, hQ⟩ := hQ
    show pS CS45 bb_298 [182] h _
    unfold bb_298
    simp only [qe_1, qe_3, qe_4, qe_5, qe_7, qe_72, qe_10, qe_102, qe_13, qe_14, qe_15, qe_16, qe_17, qe_18, qe_20, qe_22, qe_23, qe_21, qe_24, qe_25, qe_26, qe_27, qe_28, qe_30, qe_31, qe_32, qc_20, qc_22, qc_23, qc_21, qc_24, qc_25, qc_26, qc_27, qc_1, qc_3, qc_4, qc_7, qc_13, qc_28, qc_32, qs_1, qs_2, qs_3, qs_4, qs_5, qs_6, qs_9, qs_10, qs_11, qs_14, qs_15, qs_16, qs_27, qs_17, qs_18, qs_19, qs_20, qs_22, qs_23, qs_28, qs_25, qs_26, qs_7, qs_8, kc_1, kn_1, kc_2, kn_2, kc_3, kn_3, kc_4, kn_4, kc_5, kn_5, kc_6, kn_6, kc_7, kn_7, kc_8, kn_8, kc_9, kn_9, kc_10, kn_10, kc_11, kn_11, kc_12, kn_12, kc_13, kn_13, kc_14, kn_14, kc_15, kn_15, kc_16, kc_17, kc_18, kc_19, kc_20, kc_21, kc_22, kc_23, kc_30, kc_32, kc_40, kc_43, kc_45, kc_48, kc_52, kc_56, kc_57, kc_59, kc_60, kc_61, kc_63, kc_64, kc_72, kc_78, kc_97, kc_99, kc_122, kc_126, kc_128, kc_192, kc_200, kc_255, kc_999, kc_1000, kc_9999, kn_9999, kc_10000, kc_12345, kc_65536, kc_252645135, kc_858993459, kc_1103515245, kc_1431655765, kc_2147483647, kc_0, kc_24, kc_28, kc_37, kc_41, kc_42, kc_73, kc_91, kc_95, kc_96, kc_98, kc_100, kc_112, kc_125, kc_150, kc_162, kc_163, kc_168, kc_186, kc_190, kc_250, kc_355, kc_356, kc_404, kc_405, kc_429, kc_573, kc_1002, kc_1100, kc_1891, kc_2200, kc_4719, kc_4869, kc_4881, kc_5148, kc_19741, kc_25433, kc_320403, kc_628412, kc_629093, kc_660401, kc_679843, kc_918640, kc_979410, kc_1178088, kc_6232410, kc_24644941, kc_36238189, kc_38270444, kc_392531318, kc_425693491, kc_1342154595, kc_2147483648, kc_42328242873, kc_891704255789, kc_1722105685577, kc_1858726030364, ct_0, ct_1, ct_2, ct_3, ct_4, ct_5, cf_0, cf_1, cf_2, cf_3, cf_4, cf_5, w_ty6, w_ty7, m_sv, m_z0, m_hd, m_g0, m_gs, m_s0, m_ss, m_ap, m_an, forall_const, true_and, and_true, ne_eq, not_true_eq_false, not_false_eq_true, false_implies, true_implies, implies_true, eq_self, reduceCtorEq, Nat.reduceDiv, Nat.reduceMod, Int.reduceToNat, or_true, true_or, or_false, false_or, or_self, m_it, m_if, m_c1, m_01, m_02, m_03, m_04, m_10, m_12, m_13, m_14, m_20, m_21, m_23, m_24, m_30, m_31, m_32, m_34, m_40, m_41, m_42, m_43, Int.reduceLE, Int.reduceLT, Int.reduceGE, Int.reduceGT, Int.reduceNeg, Int.reduceAdd, Int.reduceSub, Int.reduceMul, Int.reduceEq, Int.reduceNe, Nat.reduceAdd, jun2, ro_0_0, ro_0_1, ro_0_2, ro_0_3, ro_0_4, ro_0_5, ro_0_6, ro_0_7, ro_0_8, ro_0_9, ro_0_10, ro_0_11, ro_0_12, ro_1_0, ro_1_1, ro_2_0, ro_4_0, ro_6_0, ro_6_1, ro_6_2, ro_6_3, ro_6_4, ro_6_5, ro_6_6, ro_6_7, ro_6_8, ro_8_0, ro_10_0, ro_12_0, ro_14_0, ro_16_0, ro_18_0, ro_20_0, ro_22_0, ro_22_1, ro_22_2, ro_23_0, ro_25_0, ro_27_0, ro_29_0, ro_29_1, ro_29_2, ro_29_3, ro_29_4, ro_29_5, ro_29_6, ro_29_7, ro_29_8, ro_31_0, ro_33_0, ro_35_0, ro_37_0, ro_39_0, ro_41_0, ro_43_0, ro_45_0, ro_45_1, ro_45_2, ro_46_0, ro_48_0, ro_50_0, ro_52_0, ro_52_1, ro_52_2, ro_52_3, ro_53_0, ro_55_0, ro_57_0, ro_59_0, ro_61_0, ro_61_1, ro_61_2, ro_61_3, ro_62_0, ro_64_0, ro_66_0, ro_68_0, ro_70_0, ro_70_1, ro_70_2, ro_70_3, ro_70_4, ro_70_5, ro_70_6, ro_70_7, ro_70_8, ro_70_9, ro_71_0, ro_73_0, ro_75_0, ro_77_0, ro_79_0, ro_81_0, ro_83_0, ro_85_0, ro_87_0, ro_89_0, ro_91_0, ro_91_1, ro_91_2, ro_91_3, ro_91_4, ro_91_5, ro_91_6, ro_91_7, ro_91_8, ro_91_9, ro_92_0, ro_94_0, ro_96_0, ro_98_0, ro_100_0, ro_102_0, ro_104_0, ro_106_0, ro_108_0, ro_110_0, ro_112_0, ro_112_1, ro_112_2, ro_112_3, ro_112_4, ro_112_5, ro_112_6, ro_112_7, ro_112_8, ro_112_9, ro_113_0, ro_115_0, ro_117_0, ro_119_0, ro_121_0, ro_123_0, ro_125_0, ro_127_0, ro_129_0, ro_131_0, ro_133_0, ro_133_1, ro_133_2, ro_133_3, ro_133_4, ro_133_5, ro_133_6, ro_133_7, ro_133_8, ro_133_9, ro_134_0, ro_136_0, ro_138_0, ro_140_0, ro_142_0, ro_144_0, ro_146_0, ro_148_0, ro_150_0, ro_152_0, ro_154_0, ro_155_0, ro_157_0, ro_157_1, ro_157_2, ro_157_3, ro_157_4, ro_157_5, ro_157_6, ro_157_7, ro_157_8, ro_157_9, ro_158_0, ro_160_0, ro_162_0, ro_164_0, ro_166_0, ro_168_0, ro_170_0, ro_172_0, ro_174_0, ro_176_0, ro_178_0, ro_180_0, ro_182_1, ro_182_4, ro_182_5, ro_182_6, ro_182_9, ro_182_10, ro_182_11, ro_182_13, ro_182_14, ro_182_15, ro_182_16, ro_182_17, ro_182_20, ro_182_21, ro_182_22, ro_182_23, ro_182_24, ro_182_26, ro_182_27, ro_182_28, lo_3, lo_5, lo_7, lo_9, lo_11, lo_13, lo_15, lo_17, lo_19, lo_21, lo_24, lo_26, lo_28, lo_30, lo_32, lo_34, lo_36, lo_38, lo_40, lo_42, lo_44, lo_47, lo_49, lo_51, lo_54, lo_56, lo_58, lo_60, lo_63, lo_65, lo_67, lo_69, lo_72, lo_74, lo_76, lo_78, lo_80, lo_82, lo_84, lo_86, lo_88, lo_90, lo_93, lo_95, lo_97, lo_99, lo_101, lo_103, lo_105, lo_107, lo_109, lo_111, lo_114, lo_116, lo_118, lo_120, lo_122, lo_124, lo_126, lo_128, lo_130, lo_132, lo_135, lo_137, lo_139, lo_141, lo_143, lo_145, lo_147, lo_149, lo_151, lo_153, lo_156, lo_159, lo_161, lo_163, lo_165, lo_167, lo_169, lo_171, lo_173, lo_175, lo_177, lo_179, lo_181, lo_183, lo_184, lo_185, lo_186, lo_187, lo_188, lo_189, lo_190, lo_191, lo_192, lo_193, lo_194, lo_195, lo_196, lo_197, lo_198, lo_199, lo_200, lo_201, lo_202, lo_203, jp_nn, jp_eq, jp_e1, Classical.not_not, ji0, ji1, ji2, cs45_54, kk_54, cs45_55, kk_55, cs45_68, kk_68, cs45_69, kk_69, cs45_70, kk_70, cs45_71, kk_71, cs45_72, kk_72, cs45_73, kk_73, cs45_74, kk_74, cs45_75, kk_75, cs45_186, kk_186, cs45_187, kk_187, cs45_188, kk_188, cs45_189, kk_189, cs45_191, kk_191, cs45_192, kk_192, cs45_193, kk_193, cs45_198, kk_198, cs45_207, kk_207, cs45_195, kk_195, cs45_196, kk_196, cs45_201, kk_201, cs45_203, kk_203, cs45_204, kk_204, cs45_194, kk_194, cs45_197, kk_197, cs45_200, kk_200, cs45_202, kk_202, cs45_205, kk_205, cs45_208, kk_208, cs45_209, kk_209, cs45_211, kk_211, cs45_216, kk_216, cs45_217, kk_217, cs45_218, kk_218, cs45_219, kk_219, cs45_220, kk_220, cs45_221, kk_221, cs45_210, kk_210, cs45_212, kk_212, cs45_213, kk_213, cs45_190, kk_190, cs45_199, kk_199, cs45_225, kk_225, cs45_226, kk_226, cs45_227, kk_227, cs45_228, kk_228, cs45_333, kk_333, cs45_67, kk_67, cs45_65, kk_65, cs45_66, kk_66, cs45_64, kk_64, cs45_63, kk_63, cs45_77, kk_77, cs45_76, kk_76, cs45_133, kk_133, cs45_134, kk_134, cs45_135, kk_135, cs45_136, kk_136, cs45_138, kk_138, cs45_139, kk_139, cs45_105, kk_105, cs45_102, kk_102, cs45_103, kk_103, cs45_104, kk_104, cs45_106, kk_106, cs45_140, kk_140, cs45_137, kk_137, cs45_127, kk_127, cs45_56, kk_56, cs45_57, kk_57, cs45_79, kk_79, cs45_101, kk_101, cs45_96, kk_96, cs45_99, kk_99, cs45_100, kk_100, cs45_98, kk_98, cs45_122, kk_122, cs45_123, kk_123, cs45_124, kk_124, cs45_125, kk_125, cs45_126, kk_126, cs45_84, kk_84, cs45_82, kk_82, cs45_83, kk_83, cs45_85, kk_85, cs45_89, kk_89, cs45_90, kk_90, cs45_91, kk_91, cs45_88, kk_88, cs45_86, kk_86, cs45_87, kk_87, cs45_81, kk_81, cs45_128, kk_128, cs45_119, kk_119, cs45_58, kk_58, cs45_80, kk_80, cs45_97, kk_97s, cs45_156, kk_156, cs45_142, kk_142, cs45_3, kk_3s, cs45_61, kk_61z, cs45_2, kk_2s, cs45_240, kk_240s, cs45_241, kk_241s, cs45_206, kk_206s, cs45_113, kk_113, cs45_114, kk_114, cs45_116, kk_116, cs45_117, kk_117, cs45_121, kk_121, cs45_129, kk_129, cs45_130, kk_130, cs45_131, kk_131, cs45_132, kk_132, cs45_120, kk_120, cs45_4, kk_4, cs45_229, kk_229, cs45_233, kk_233, cs45_234, kk_234, cs45_215, kk_215, cs45_214, kk_214, cs45_146, kk_146, cs45_147, kk_147, cs45_149, kk_149, cs45_155, kk_155, cs45_157, kk_157, cs45_165, kk_165, cs45_59, kk_59, cs45_107, kk_107, cs45_108, kk_108, cs45_109, kk_109, cs45_110, kk_110, cs45_111, kk_111, cs45_112, kk_112, cs45_143, kk_143, cs45_170, kk_170, cs45_168, kk_168, cs45_169, kk_169, cs45_181, kk_181, cs45_5, kk_5, cs45_6, kk_6, cs45_7, kk_7, cs45_8, kk_8, cs45_9, kk_9, cs45_10, kk_10s, cs45_11, kk_11, cs45_12, kk_12s, cs45_40, kk_40s, cs45_49, kk_49, cs45_50, kk_50, cs45_48, kk_48, cs45_224, kk_224s, cs45_230, kk_230, cs45_235, kk_235, cs45_236, kk_236, cs45_237, kk_237, cs45_238, kk_238, cs45_243, kk_243, cs45_256, kk_256, cs45_264, kk_264, cs45_266, kk_266, cs45_239, kk_239, cs45_242, kk_242s, cs45_260, kk_260, cs45_261, kk_261, cs45_262, kk_262, cs45_263, kk_263, cs45_265, kk_265, cs45_267, kk_267, cs45_268, kk_268, cs45_272, kk_272, cs45_304, kk_304, cs45_311, kk_311, cs45_254, kk_254f, cs45_257, kk_257f, cs45_269, kk_269, cs45_270, kk_270, cs45_271, kk_271, cs45_258, kk_258f, cs45_259, kk_259f, cs45_285, kk_285f, cs45_287, kk_287f, cs45_274, kk_274, cs45_298, kk_298, cs45_309, kk_309, jl_0, jl_1, jl_2, jl_3, jl_4, jl_5, jl_6, jl_7, jl_8, jl_9, jl_10, jl_11, jl_12, jl_13, jl_14, jl_15, jl_16, jl_17, jl_18, jl_19, jl_20, jl_21, jl_22, jl_23, jl_24, jl_25, jl_26, jl_27, jl_28, jl_29, jl_30, jl_31, jl_32, jl_33, jl_34, jl_35, jl_36, jl_37, jl_38, jl_39, jl_40, jl_95, jl_96, jl_97, jl_98, jl_99, jl_100, jl_101, jl_102, jl_103, jl_104, jl_105, jl_106, jl_107, jl_108, jl_109, jl_110, jl_111, jl_112, jl_113, jl_114, jl_186, jl_1100, jr, ju, jpT, jpF, tnc, Nat.reduceEqDiff, reduceIte, and_false, false_and, not_true_eq_false, not_false_eq_true, or_false, gt_iff_lt, ge_iff_le, Int.lt_irrefl, Int.le_refl]
    refine ⟨0, 4719, 404, rfl, rfl, rfl, by decide, by decide, by decide, fun h' f1_w f2_w => hQ _ ⟨fun x k z1 z2 => ?_, ?_, fun q z => ?_⟩⟩
    · rw [f1_w x k (by omega)]
      exact up_ne z2
    · rw [f1_w 182 19 (by omega)]
      exact up_eq
    · rw [f2_w q z, Nat.zero_add]
  · exact hQ.elim
theorem jdv2 {x y : Int} : j_div 2 x y = j64 (x.tdiv y) := rfl
theorem jdv3 {x y : Int} : j_div 3 x y = x.tmod y := rfl
theorem jun3 {x : Int} : j_un 3 x = j32 x := rfl
theorem dG_ev {g : Nat} (hg : g < 2147483648) : j_div 3 (j_lop 0 (j_lop 2 (g : Int) 1103515245) 12345) 2147483648 = ((dG g : Nat) : Int) := by
  have e1_w : j64 ((g : Int) * 1103515245) = (g : Int) * 1103515245 := j64_id (by omega) (by omega)
  have e2_w : j64 ((g : Int) * 1103515245 + 12345) = (g : Int) * 1103515245 + 12345 := j64_id (by omega) (by omega)
  rw [jdv3, jlo0, jlo2, e1_w, e2_w, Int.tmod_eq_emod_of_nonneg (by omega)]
  unfold dG
  omega
theorem dD_ev {g m : Nat} (hg : g < 2147483648) (hm_w : 1 ≤ m) (hm2 : m ≤ 200) : j_un 3 (j_div 3 (j_div 2 (g : Int) 65536) (m : Int)) = ((g / 65536 % m : Nat) : Int) := by
  have e0 : (g : Int) / 65536 = ((g / 65536 : Nat) : Int) := by omega
  have e1_w : j64 ((g / 65536 : Nat) : Int) = ((g / 65536 : Nat) : Int) := j64_id (by omega) (by omega)
  have := Nat.mod_lt (g / 65536) (show 0 < m by omega)
  rw [jun3, jdv3, jdv2, Int.tdiv_eq_ediv_of_nonneg (by omega), e0, e1_w, Int.tmod_eq_emod_of_nonneg (by omega), ← Int.natCast_emod]
  exact j32_id (by omega) (by omega)
theorem m_309 : BodyOK CS45 CS45 309 := fun av h Q hQ => by
  rw [cs45_309] at hQ
  unfold k309 at hQ
  split at hQ
  · rename_i t m
    obtain ⟨rfl, g, mn_w, eg, hg, rfl, m1_w, m2_w, hQ⟩ := hQ
    show pS CS45 bb_309 [182, (mn_w : Int)] h _
    unfold bb_309
    have e1_w := dG_ev hg
    have e2_w := dD_ev (g := dG g) (m := mn_w) (Nat.mod_lt _ (by decide)) m1_w m2_w
    simp only [qe_1, qe_3, qe_4, qe_5, qe_7, qe_72, qe_10, qe_102, qe_13, qe_14, qe_15, qe_16, qe_17, qe_18, qe_20, qe_22, qe_23, qe_21, qe_24, qe_25, qe_26, qe_27, qe_28, qe_30, qe_31, qe_32, qc_20, qc_22, qc_23, qc_21, qc_24, qc_25, qc_26, qc_27, qc_1, qc_3, qc_4, qc_7, qc_13, qc_28, qc_32, qs_1, qs_2, qs_3, qs_4, qs_5, qs_6, qs_9, qs_10, qs_11, qs_14, qs_15, qs_16, qs_27, qs_17, qs_18, qs_19, qs_20, qs_22, qs_23, qs_28, qs_25, qs_26, qs_7, qs_8, kc_1, kn_1, kc_2, kn_2, kc_3, kn_3, kc_4, kn_4, kc_5, kn_5, kc_6, kn_6, kc_7, kn_7, kc_8, kn_8, kc_9, kn_9, kc_10, kn_10, kc_11, kn_11, kc_12, kn_12, kc_13, kn_13, kc_14, kn_14, kc_15, kn_15, kc_16, kc_17, kc_18, kc_19, kc_20, kc_21, kc_22, kc_23, kc_30, kc_32, kc_40, kc_43, kc_45, kc_48, kc_52, kc_56, kc_57, kc_59, kc_60, kc_61, kc_63, kc_64, kc_72, kc_78, kc_97, kc_99, kc_122, kc_126, kc_128, kc_192, kc_200, kc_255, kc_999, kc_1000, kc_9999, kn_9999, kc_10000, kc_12345, kc_65536, kc_252645135, kc_858993459, kc_1103515245, kc_1431655765, kc_2147483647, kc_0, kc_24, kc_28, kc_37, kc_41, kc_42, kc_73, kc_91, kc_95, kc_96, kc_98, kc_100, kc_112, kc_125, kc_150, kc_162, kc_163, kc_168, kc_186, kc_190, kc_250, kc_355, kc_356, kc_404, kc_405, kc_429, kc_573, kc_1002, kc_1100, kc_1891, kc_2200, kc_4719, kc_4869, kc_4881, kc_5148, kc_19741, kc_25433, kc_320403, kc_628412, kc_629093, kc_660401, kc_679843, kc_918640, kc_979410, kc_1178088, kc_6232410, kc_24644941, kc_36238189, kc_38270444, kc_392531318, kc_425693491, kc_1342154595, kc_2147483648, kc_42328242873, kc_891704255789, kc_1722105685577, kc_1858726030364, ct_0, ct_1, ct_2, ct_3, ct_4, ct_5, cf_0, cf_1, cf_2, cf_3, cf_4, cf_5, w_ty6, w_ty7, m_sv, m_z0, m_hd, m_g0, m_gs, m_s0, m_ss, m_ap, m_an, forall_const, true_and, and_true, ne_eq, not_true_eq_false, not_false_eq_true, false_implies, true_implies, implies_true, eq_self, reduceCtorEq, Nat.reduceDiv, Nat.reduceMod, Int.reduceToNat, or_true, true_or, or_false, false_or, or_self, m_it, m_if, m_c1, m_01, m_02, m_03, m_04, m_10, m_12, m_13, m_14, m_20, m_21, m_23, m_24, m_30, m_31, m_32, m_34, m_40, m_41, m_42, m_43, Int.reduceLE, Int.reduceLT, Int.reduceGE, Int.reduceGT, Int.reduceNeg, Int.reduceAdd, Int.reduceSub, Int.reduceMul, Int.reduceEq, Int.reduceNe, Nat.reduceAdd, jun2, ro_0_0, ro_0_1, ro_0_2, ro_0_3, ro_0_4, ro_0_5, ro_0_6, ro_0_7, ro_0_8, ro_0_9, ro_0_10, ro_0_11, ro_0_12, ro_1_0, ro_1_1, ro_2_0, ro_4_0, ro_6_0, ro_6_1, ro_6_2, ro_6_3, ro_6_4, ro_6_5, ro_6_6, ro_6_7, ro_6_8, ro_8_0, ro_10_0, ro_12_0, ro_14_0, ro_16_0, ro_18_0, ro_20_0, ro_22_0, ro_22_1, ro_22_2, ro_23_0, ro_25_0, ro_27_0, ro_29_0, ro_29_1, ro_29_2, ro_29_3, ro_29_4, ro_29_5, ro_29_6, ro_29_7, ro_29_8, ro_31_0, ro_33_0, ro_35_0, ro_37_0, ro_39_0, ro_41_0, ro_43_0, ro_45_0, ro_45_1, ro_45_2, ro_46_0, ro_48_0, ro_50_0, ro_52_0, ro_52_1, ro_52_2, ro_52_3, ro_53_0, ro_55_0, ro_57_0, ro_59_0, ro_61_0, ro_61_1, ro_61_2, ro_61_3, ro_62_0, ro_64_0, ro_66_0, ro_68_0, ro_70_0, ro_70_1, ro_70_2, ro_70_3, ro_70_4, ro_70_5, ro_70_6, ro_70_7, ro_70_8, ro_70_9, ro_71_0, ro_73_0, ro_75_0, ro_77_0, ro_79_0, ro_81_0, ro_83_0, ro_85_0, ro_87_0, ro_89_0, ro_91_0, ro_91_1, ro_91_2, ro_91_3, ro_91_4, ro_91_5, ro_91_6, ro_91_7, ro_91_8, ro_91_9, ro_92_0, ro_94_0, ro_96_0, ro_98_0, ro_100_0, ro_102_0, ro_104_0, ro_106_0, ro_108_0, ro_110_0, ro_112_0, ro_112_1, ro_112_2, ro_112_3, ro_112_4, ro_112_5, ro_112_6, ro_112_7, ro_112_8, ro_112_9, ro_113_0, ro_115_0, ro_117_0, ro_119_0, ro_121_0, ro_123_0, ro_125_0, ro_127_0, ro_129_0, ro_131_0, ro_133_0, ro_133_1, ro_133_2, ro_133_3, ro_133_4, ro_133_5, ro_133_6, ro_133_7, ro_133_8, ro_133_9, ro_134_0, ro_136_0, ro_138_0, ro_140_0, ro_142_0, ro_144_0, ro_146_0, ro_148_0, ro_150_0, ro_152_0, ro_154_0, ro_155_0, ro_157_0, ro_157_1, ro_157_2, ro_157_3, ro_157_4, ro_157_5, ro_157_6, ro_157_7, ro_157_8, ro_157_9, ro_158_0, ro_160_0, ro_162_0, ro_164_0, ro_166_0, ro_168_0, ro_170_0, ro_172_0, ro_174_0, ro_176_0, ro_178_0, ro_180_0, ro_182_1, ro_182_4, ro_182_5, ro_182_6, ro_182_9, ro_182_10, ro_182_11, ro_182_13, ro_182_14, ro_182_15, ro_182_16, ro_182_17, ro_182_20, ro_182_21, ro_182_22, ro_182_23, ro_182_24, ro_182_26, ro_182_27, ro_182_28, lo_3, lo_5, lo_7, lo_9, lo_11, lo_13, lo_15, lo_17, lo_19, lo_21, lo_24, lo_26, lo_28, lo_30, lo_32, lo_34, lo_36, lo_38, lo_40, lo_42, lo_44, lo_47, lo_49, lo_51, lo_54, lo_56, lo_58, lo_60, lo_63, lo_65, lo_67, lo_69, lo_72, lo_74, lo_76, lo_78, lo_80, lo_82, lo_84, lo_86, lo_88, lo_90, lo_93, lo_95, lo_97, lo_99, lo_101, lo_103, lo_105, lo_107, lo_109, lo_111, lo_114, lo_116, lo_118, lo_120, lo_122, lo_124, lo_126, lo_128, lo_130, lo_132, lo_135, lo_137, lo_139, lo_141, lo_143, lo_145, lo_147, lo_149, lo_151, lo_153, lo_156, lo_159, lo_161, lo_163, lo_165, lo_167, lo_169, lo_171, lo_173, lo_175, lo_177, lo_179, lo_181, lo_183, lo_184, lo_185, lo_186, lo_187, lo_188, lo_189, lo_190, lo_191, lo_192, lo_193, lo_194, lo_195, lo_196, lo_197, lo_198, lo_199, lo_200, lo_201, lo_202, lo_203, jp_nn, jp_eq, jp_e1, Classical.not_not, ji0, ji1, ji2, cs45_54, kk_54, cs45_55, kk_55, cs45_68, kk_68, cs45_69, kk_69, cs45_70, kk_70, cs45_71, kk_71, cs45_72, kk_72, cs45_73, kk_73, cs45_74, kk_74, cs45_75, kk_75, cs45_186, kk_186, cs45_187, kk_187, cs45_188, kk_188, cs45_189, kk_189, cs45_191, kk_191, cs45_192, kk_192, cs45_193, kk_193, cs45_198, kk_198, cs45_207, kk_207, cs45_195, kk_195, cs45_196, kk_196, cs45_201, kk_201, cs45_203, kk_203, cs45_204, kk_204, cs45_194, kk_194, cs45_197, kk_197, cs45_200, kk_200, cs45_202, kk_202, cs45_205, kk_205, cs45_208, kk_208, cs45_209, kk_209, cs45_211, kk_211, cs45_216, kk_216, cs45_217, kk_217, cs45_218, kk_218, cs45_219, kk_219, cs45_220, kk_220, cs45_221, kk_221, cs45_210, kk_210, cs45_212, kk_212, cs45_213, kk_213, cs45_190, kk_190, cs45_199, kk_199, cs45_225, kk_225, cs45_226, kk_226, cs45_227, kk_227, cs45_228, kk_228, cs45_333, kk_333, cs45_67, kk_67, cs45_65, kk_65, cs45_66, kk_66, cs45_64, kk_64, cs45_63, kk_63, cs45_77, kk_77, cs45_76, kk_76, cs45_133, kk_133, cs45_134, kk_134, cs45_135, kk_135, cs45_136, kk_136, cs45_138, kk_138, cs45_139, kk_139, cs45_105, kk_105, cs45_102, kk_102, cs45_103, kk_103, cs45_104, kk_104, cs45_106, kk_106, cs45_140, kk_140, cs45_137, kk_137, cs45_127, kk_127, cs45_56, kk_56, cs45_57, kk_57, cs45_79, kk_79, cs45_101, kk_101, cs45_96, kk_96, cs45_99, kk_99, cs45_100, kk_100, cs45_98, kk_98, cs45_122, kk_122, cs45_123, kk_123, cs45_124, kk_124, cs45_125, kk_125, cs45_126, kk_126, cs45_84, kk_84, cs45_82, kk_82, cs45_83, kk_83, cs45_85, kk_85, cs45_89, kk_89, cs45_90, kk_90, cs45_91, kk_91, cs45_88, kk_88, cs45_86, kk_86, cs45_87, kk_87, cs45_81, kk_81, cs45_128, kk_128, cs45_119, kk_119, cs45_58, kk_58, cs45_80, kk_80, cs45_97, kk_97s, cs45_156, kk_156, cs45_142, kk_142, cs45_3, kk_3s, cs45_61, kk_61z, cs45_2, kk_2s, cs45_240, kk_240s, cs45_241, kk_241s, cs45_206, kk_206s, cs45_113, kk_113, cs45_114, kk_114, cs45_116, kk_116, cs45_117, kk_117, cs45_121, kk_121, cs45_129, kk_129, cs45_130, kk_130, cs45_131, kk_131, cs45_132, kk_132, cs45_120, kk_120, cs45_4, kk_4, cs45_229, kk_229, cs45_233, kk_233, cs45_234, kk_234, cs45_215, kk_215, cs45_214, kk_214, cs45_146, kk_146, cs45_147, kk_147, cs45_149, kk_149, cs45_155, kk_155, cs45_157, kk_157, cs45_165, kk_165, cs45_59, kk_59, cs45_107, kk_107, cs45_108, kk_108, cs45_109, kk_109, cs45_110, kk_110, cs45_111, kk_111, cs45_112, kk_112, cs45_143, kk_143, cs45_170, kk_170, cs45_168, kk_168, cs45_169, kk_169, cs45_181, kk_181, cs45_5, kk_5, cs45_6, kk_6, cs45_7, kk_7, cs45_8, kk_8, cs45_9, kk_9, cs45_10, kk_10s, cs45_11, kk_11, cs45_12, kk_12s, cs45_40, kk_40s, cs45_49, kk_49, cs45_50, kk_50, cs45_48, kk_48, cs45_224, kk_224s, cs45_230, kk_230, cs45_235, kk_235, cs45_236, kk_236, cs45_237, kk_237, cs45_238, kk_238, cs45_243, kk_243, cs45_256, kk_256, cs45_264, kk_264, cs45_266, kk_266, cs45_239, kk_239, cs45_242, kk_242s, cs45_260, kk_260, cs45_261, kk_261, cs45_262, kk_262, cs45_263, kk_263, cs45_265, kk_265, cs45_267, kk_267, cs45_268, kk_268, cs45_272, kk_272, cs45_304, kk_304, cs45_311, kk_311, cs45_254, kk_254f, cs45_257, kk_257f, cs45_269, kk_269, cs45_270, kk_270, cs45_271, kk_271, cs45_258, kk_258f, cs45_259, kk_259f, cs45_285, kk_285f, cs45_287, kk_287f, cs45_274, kk_274, cs45_298, kk_298, cs45_309, kk_309, jl_0, jl_1, jl_2, jl_3, jl_4, jl_5, jl_6, jl_7, jl_8, jl_9, jl_10, jl_11, jl_12, jl_13, jl_14, jl_15, jl_16, jl_17, jl_18, jl_19, jl_20, jl_21, jl_22, jl_23, jl_24, jl_25, jl_26, jl_27, jl_28, jl_29, jl_30, jl_31, jl_32, jl_33, jl_34, jl_35, jl_36, jl_37, jl_38, jl_39, jl_40, jl_95, jl_96, jl_97, jl_98, jl_99, jl_100, jl_101, jl_102, jl_103, jl_104, jl_105, jl_106, jl_107, jl_108, jl_109, jl_110, jl_111, jl_112, jl_113, jl_114, jl_186, jl_1100, jr, ju, jpT, jpF, tnc, Nat.reduceEqDiff, reduceIte, and_false, false_and, not_true_eq_false, not_false_eq_true, or_false, gt_iff_lt, ge_iff_le, Int.lt_irrefl, Int.le_refl, eg, e1_w, e2_w]
    intros
    exact hQ
  · exact hQ.elim
theorem snd_45 {xs : Nat → Int} {L K : Nat} : ∀ n, SndC CS45 (evF xs L g_ck K g_cW g_M n) := snd_all snd_44 (fun f av h Q hQ => by
  unfold CS45 at hQ
  split at hQ
  · exact Or.inr m_274
  · exact Or.inr m_298
  · exact Or.inr m_309
  · exact Or.inl hQ)
